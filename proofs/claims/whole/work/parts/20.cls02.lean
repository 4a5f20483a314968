theorem ml_RX6_41 : tables_1[979]? = some (Cond.methodLink RX6 41 (⟨"ClauseCourt$Rule", "fewest", "(LClauseCourt$Desk;)I"⟩ : MethodName)) := by decide +kernel
theorem mf_X6_fewest : ix_mf yX6_fewest cX6_fewest 2 (some .int) 1 := ⟨ix_wm (i := 978) (by decide +kernel), ix_wm (i := 13) (by decide +kernel), ⟨by decide +kernel, by decide +kernel⟩, by decide +kernel, by decide +kernel⟩
theorem mi_X6_fewest : Cond.instanceMethod yX6_fewest ∈ lw_tbl := ix_wm (i := 977) (by decide +kernel)
theorem ml_RX6_45 : tables_1[998]? = some (Cond.methodLink RX6 45 (⟨"ClauseCourt$Rule", "greatest", "(LClauseCourt$Desk;)I"⟩ : MethodName)) := by decide +kernel
theorem mf_X6_greatest : ix_mf yX6_greatest cX6_greatest 3 (some .int) 1 := ⟨ix_wm (i := 997) (by decide +kernel), ix_wm (i := 13) (by decide +kernel), ⟨by decide +kernel, by decide +kernel⟩, by decide +kernel, by decide +kernel⟩
theorem mi_X6_greatest : Cond.instanceMethod yX6_greatest ∈ lw_tbl := ix_wm (i := 996) (by decide +kernel)
theorem ml_RX6_51 : tables_1[1079]? = some (Cond.methodLink RX6 51 yX4_writeText) := by decide +kernel
theorem ml_RX6_55 : tables_1[1080]? = some (Cond.methodLink RX6 55 yX4_writeList) := by decide +kernel
theorem mf_X6_write : ix_mf yX6_write cX6_write 2 (none : Option Jvm.ClassFile.FieldType) 1 := ⟨ix_wm (i := 1076) (by decide +kernel), ix_wm (i := 13) (by decide +kernel), ⟨by decide +kernel, by decide +kernel⟩, by decide +kernel, by decide +kernel⟩
theorem mi_X6_write : Cond.instanceMethod yX6_write ∈ lw_tbl := ix_wm (i := 1075) (by decide +kernel)
theorem mf_X7_remove : ix_mf yX7_remove cX7_remove 4 (none : Option Jvm.ClassFile.FieldType) 1 := ⟨ix_wm (i := 1451) (by decide +kernel), ix_wm (i := 4) (by decide +kernel), ⟨by decide +kernel, by decide +kernel⟩, by decide +kernel, by decide +kernel⟩
theorem mi_X7_remove : Cond.instanceMethod yX7_remove ∈ lw_tbl := ix_wm (i := 1449) (by decide +kernel)
theorem fl_RX8_19 : ix_flb 520 0 false RX8 19 "ClauseCourt$Rule" [0, 3, 5, 6, 9] 2 0 = true := by decide +kernel
theorem mf_X8_laid : ix_mf yX8_laid cX8_laid 2 (some .int) 1 := ⟨ix_wm (i := 1011) (by decide +kernel), ix_wm (i := 11) (by decide +kernel), ⟨by decide +kernel, by decide +kernel⟩, by decide +kernel, by decide +kernel⟩
theorem mi_X8_laid : Cond.instanceMethod yX8_laid ∈ lw_tbl := ix_wm (i := 1004) (by decide +kernel)
theorem fl_RX9_12 : ix_flb 276 0 false RX9 12 "ClauseCourt$Solver" [8] 0 2 = true := by decide +kernel
theorem fl_RX9_68 : ix_flb 144 0 true RX9 68 "ClauseCourt$Case" [2] 5 0 = true := by decide +kernel
theorem ms_X1_clear : Cond.selects yX1_clear.cls yX1_clear yX1_clear ∈ lw_tbl := ix_wm (i := 1144) (by decide +kernel)
theorem ml_RX9_74 : tables_1[1142]? = some (Cond.methodLink RX9 74 yX1_clear) := by decide +kernel
theorem fp_RX9_82 : ix_fpb 282 0 false RX9 82 "ClauseCourt$Solver" [8] 3 "J" false = true := by decide +kernel
theorem fp_RX9_86 : ix_fpb 284 0 false RX9 86 "ClauseCourt$Solver" [8] 5 "I" false = true := by decide +kernel
theorem fl_RX9_89 : ix_flb 150 0 true RX9 89 "ClauseCourt$Case" [2] 8 0 = true := by decide +kernel
theorem fp_RX9_92 : ix_fpb 298 0 false RX9 92 "ClauseCourt$Solver" [8] 17 "I" false = true := by decide +kernel
theorem fl_RX9_93 : ix_flb 152 0 true RX9 93 "ClauseCourt$Case" [2] 9 0 = true := by decide +kernel
theorem fp_RX9_96 : ix_fpb 299 0 false RX9 96 "ClauseCourt$Solver" [8] 18 "I" false = true := by decide +kernel
theorem fp_RX9_97 : ix_fpb 300 0 false RX9 97 "ClauseCourt$Solver" [8] 19 "I" false = true := by decide +kernel
theorem fl_RX9_47 : ix_flb 289 0 false RX9 47 "ClauseCourt$Solver" [8] 10 2 = true := by decide +kernel
theorem ml_RX9_62 : tables_1[273]? = some (Cond.methodLink RX9 62 yJ7_fill_53178) := by decide +kernel
theorem fl_RX9_50 : ix_flb 291 0 false RX9 50 "ClauseCourt$Solver" [8] 11 2 = true := by decide +kernel
theorem fl_RX9_27 : ix_flb 280 0 false RX9 27 "ClauseCourt$Solver" [8] 2 2 = true := by decide +kernel
theorem fl_RX9_78 : ix_flb 135 0 true RX9 78 "ClauseCourt$Case" [2] 1 2 = true := by decide +kernel
theorem mf_X9_openBoard : ix_mf yX9_openBoard cX9_openBoard 3 (none : Option Jvm.ClassFile.FieldType) 1 := ⟨ix_wm (i := 1141) (by decide +kernel), ix_wm (i := 5) (by decide +kernel), ⟨by decide +kernel, by decide +kernel⟩, by decide +kernel, by decide +kernel⟩
theorem mi_X9_openBoard : Cond.instanceMethod yX9_openBoard ∈ lw_tbl := ix_wm (i := 1139) (by decide +kernel)
theorem fl_RX9_100 : ix_flb 121 0 true RX9 100 "ClauseCourt$Rows" [7] 2 0 = true := by decide +kernel
theorem ms_X1_layRow : Cond.selects yX1_layRow.cls yX1_layRow yX1_layRow ∈ lw_tbl := ix_wm (i := 1158) (by decide +kernel)
theorem ml_RX9_103 : tables_1[1156]? = some (Cond.methodLink RX9 103 yX1_layRow) := by decide +kernel
theorem mf_X9_layAll : ix_mf yX9_layAll cX9_layAll 3 (none : Option Jvm.ClassFile.FieldType) 1 := ⟨ix_wm (i := 1155) (by decide +kernel), ix_wm (i := 5) (by decide +kernel), ⟨by decide +kernel, by decide +kernel⟩, by decide +kernel, by decide +kernel⟩
theorem mi_X9_layAll : Cond.instanceMethod yX9_layAll ∈ lw_tbl := ix_wm (i := 1153) (by decide +kernel)
theorem fl_RX9_86 : ix_flb 284 0 false RX9 86 "ClauseCourt$Solver" [8] 5 0 = true := by decide +kernel
theorem fl_RX9_31 : ix_flb 283 0 false RX9 31 "ClauseCourt$Solver" [8] 4 2 = true := by decide +kernel
theorem mf_X9_suppose : ix_mf yX9_suppose cX9_suppose 2 (none : Option Jvm.ClassFile.FieldType) 1 := ⟨ix_wm (i := 1174) (by decide +kernel), ix_wm (i := 5) (by decide +kernel), ⟨by decide +kernel, by decide +kernel⟩, by decide +kernel, by decide +kernel⟩
theorem mi_X9_suppose : Cond.instanceMethod yX9_suppose ∈ lw_tbl := ix_wm (i := 1172) (by decide +kernel)
theorem fl_RX9_107 : ix_flb 201 0 true RX9 107 "ClauseCourt$Board" [1] 0 2 = true := by decide +kernel
theorem fp_RX9_110 : ix_fpb 230 0 true RX9 110 "ClauseCourt$Board" [1] 15 "I" false = true := by decide +kernel
theorem fp_RX9_113 : ix_fpb 232 0 true RX9 113 "ClauseCourt$Board" [1] 16 "I" false = true := by decide +kernel
theorem mf_X9_closeBoard : ix_mf yX9_closeBoard cX9_closeBoard 1 (none : Option Jvm.ClassFile.FieldType) 0 := ⟨ix_wm (i := 1178) (by decide +kernel), ix_wm (i := 5) (by decide +kernel), ⟨by decide +kernel, by decide +kernel⟩, by decide +kernel, by decide +kernel⟩
theorem mi_X9_closeBoard : Cond.instanceMethod yX9_closeBoard ∈ lw_tbl := ix_wm (i := 1176) (by decide +kernel)
theorem ms_X9_openBoard : Cond.selects yX9_openBoard.cls yX9_openBoard yX9_openBoard ∈ lw_tbl := ix_wm (i := 1140) (by decide +kernel)
theorem ml_RX9_116 : tables_1[1499]? = some (Cond.methodLink RX9 116 yX9_openBoard) := by decide +kernel
theorem fl_RX9_120 : ix_flb 132 0 true RX9 120 "ClauseCourt$Case" [2] 0 2 = true := by decide +kernel
theorem ms_X9_layAll : Cond.selects yX9_layAll.cls yX9_layAll yX9_layAll ∈ lw_tbl := ix_wm (i := 1154) (by decide +kernel)
theorem ml_RX9_121 : tables_1[1500]? = some (Cond.methodLink RX9 121 yX9_layAll) := by decide +kernel
theorem ms_X9_closeBoard : Cond.selects yX9_closeBoard.cls yX9_closeBoard yX9_closeBoard ∈ lw_tbl := ix_wm (i := 1177) (by decide +kernel)
theorem ml_RX9_125 : tables_1[1501]? = some (Cond.methodLink RX9 125 yX9_closeBoard) := by decide +kernel
theorem fl_RX9_23 : ix_flb 278 0 false RX9 23 "ClauseCourt$Solver" [8] 1 2 = true := by decide +kernel
theorem mf_X9_openNext : ix_mf yX9_openNext cX9_openNext 2 (none : Option Jvm.ClassFile.FieldType) 1 := ⟨ix_wm (i := 1498) (by decide +kernel), ix_wm (i := 5) (by decide +kernel), ⟨by decide +kernel, by decide +kernel⟩, by decide +kernel, by decide +kernel⟩
theorem mi_X9_openNext : Cond.instanceMethod yX9_openNext ∈ lw_tbl := ix_wm (i := 1496) (by decide +kernel)
theorem fl_RX9_128 : ix_flb 295 0 false RX9 128 "ClauseCourt$Solver" [8] 14 0 = true := by decide +kernel
theorem fl_RX9_56 : ix_flb 294 0 false RX9 56 "ClauseCourt$Solver" [8] 13 2 = true := by decide +kernel
theorem fp_RX9_128 : ix_fpb 295 0 false RX9 128 "ClauseCourt$Solver" [8] 14 "I" false = true := by decide +kernel
theorem mf_X9_pushFresh : ix_mf yX9_pushFresh cX9_pushFresh 2 (none : Option Jvm.ClassFile.FieldType) 1 := ⟨ix_wm (i := 1263) (by decide +kernel), ix_wm (i := 5) (by decide +kernel), ⟨by decide +kernel, by decide +kernel⟩, by decide +kernel, by decide +kernel⟩
theorem mi_X9_pushFresh : Cond.instanceMethod yX9_pushFresh ∈ lw_tbl := ix_wm (i := 1262) (by decide +kernel)
theorem ml_RX9_142 : tables_1[1234]? = some (Cond.methodLink RX9 142 yX7_push) := by decide +kernel
theorem fl_RX9_131 : ix_flb 138 0 true RX9 131 "ClauseCourt$Case" [2] 2 2 = true := by decide +kernel
theorem ml_RX9_135 : tables_1[1345]? = some (Cond.methodLink RX9 135 yX1_isTrue) := by decide +kernel
theorem ms_X9_pushFresh : Cond.selects yX9_pushFresh.cls yX9_pushFresh yX9_pushFresh ∈ lw_tbl := List.mem_append_left _ (List.mem_of_getElem? (i := 33) (by decide +kernel))
theorem ml_RX9_139 : tables_1[1260]? = some (Cond.methodLink RX9 139 yX9_pushFresh) := by decide +kernel
theorem mf_X9_barTruth : ix_mf yX9_barTruth cX9_barTruth 3 (none : Option Jvm.ClassFile.FieldType) 1 := ⟨ix_wm (i := 1505) (by decide +kernel), ix_wm (i := 5) (by decide +kernel), ⟨by decide +kernel, by decide +kernel⟩, by decide +kernel, by decide +kernel⟩
theorem mi_X9_barTruth : Cond.instanceMethod yX9_barTruth ∈ lw_tbl := ix_wm (i := 1503) (by decide +kernel)
theorem fl_RX9_44 : ix_flb 288 0 false RX9 44 "ClauseCourt$Solver" [8] 9 2 = true := by decide +kernel
theorem mf_X9_gatherFrom : ix_mf yX9_gatherFrom cX9_gatherFrom 4 (none : Option Jvm.ClassFile.FieldType) 2 := ⟨ix_wm (i := 1216) (by decide +kernel), ix_wm (i := 5) (by decide +kernel), ⟨by decide +kernel, by decide +kernel⟩, by decide +kernel, by decide +kernel⟩
theorem mi_X9_gatherFrom : Cond.instanceMethod yX9_gatherFrom ∈ lw_tbl := ix_wm (i := 1215) (by decide +kernel)
theorem fl_RX9_110 : ix_flb 230 0 true RX9 110 "ClauseCourt$Board" [1] 15 0 = true := by decide +kernel
theorem fl_RX9_113 : ix_flb 232 0 true RX9 113 "ClauseCourt$Board" [1] 16 0 = true := by decide +kernel
theorem fl_RX9_38 : ix_flb 286 0 false RX9 38 "ClauseCourt$Solver" [8] 7 2 = true := by decide +kernel
theorem ms_X9_gatherFrom : Cond.selects yX9_gatherFrom.cls yX9_gatherFrom yX9_gatherFrom ∈ lw_tbl := List.mem_append_left _ (List.mem_of_getElem? (i := 25) (by decide +kernel))
theorem ml_RX9_312 : tables_1[1213]? = some (Cond.methodLink RX9 312 yX9_gatherFrom) := by decide +kernel
theorem mf_X9_gatherRow : ix_mf yX9_gatherRow cX9_gatherRow 2 (none : Option Jvm.ClassFile.FieldType) 1 := ⟨ix_wm (i := 1212) (by decide +kernel), ix_wm (i := 5) (by decide +kernel), ⟨by decide +kernel, by decide +kernel⟩, by decide +kernel, by decide +kernel⟩
theorem mi_X9_gatherRow : Cond.instanceMethod yX9_gatherRow ∈ lw_tbl := ix_wm (i := 1211) (by decide +kernel)
theorem fl_RX9_41 : ix_flb 287 0 false RX9 41 "ClauseCourt$Solver" [8] 8 2 = true := by decide +kernel
theorem mf_X9_gatherName : ix_mf yX9_gatherName cX9_gatherName 2 (none : Option Jvm.ClassFile.FieldType) 1 := ⟨ix_wm (i := 1221) (by decide +kernel), ix_wm (i := 5) (by decide +kernel), ⟨by decide +kernel, by decide +kernel⟩, by decide +kernel, by decide +kernel⟩
theorem mi_X9_gatherName : Cond.instanceMethod yX9_gatherName ∈ lw_tbl := ix_wm (i := 1220) (by decide +kernel)
theorem ms_X9_gatherRow : Cond.selects yX9_gatherRow.cls yX9_gatherRow yX9_gatherRow ∈ lw_tbl := List.mem_append_left _ (List.mem_of_getElem? (i := 24) (by decide +kernel))
theorem ml_RX9_256 : tables_1[1209]? = some (Cond.methodLink RX9 256 yX9_gatherRow) := by decide +kernel
theorem fl_RX9_259 : ix_flb 118 0 true RX9 259 "ClauseCourt$Rows" [7] 1 2 = true := by decide +kernel
theorem fl_RX9_262 : ix_flb 114 0 true RX9 262 "ClauseCourt$Rows" [7] 0 2 = true := by decide +kernel
theorem ml_RX9_201 : tables_1[1217]? = some (Cond.methodLink RX9 201 Lib.Math.abs.name) := by decide +kernel
theorem ms_X9_gatherName : Cond.selects yX9_gatherName.cls yX9_gatherName yX9_gatherName ∈ lw_tbl := List.mem_append_left _ (List.mem_of_getElem? (i := 26) (by decide +kernel))
theorem ml_RX9_265 : tables_1[1218]? = some (Cond.methodLink RX9 265 yX9_gatherName) := by decide +kernel
theorem mf_X9_gatherWhole : ix_mf yX9_gatherWhole cX9_gatherWhole 4 (none : Option Jvm.ClassFile.FieldType) 1 := ⟨ix_wm (i := 1208) (by decide +kernel), ix_wm (i := 5) (by decide +kernel), ⟨by decide +kernel, by decide +kernel⟩, by decide +kernel, by decide +kernel⟩
theorem mi_X9_gatherWhole : Cond.instanceMethod yX9_gatherWhole ∈ lw_tbl := ix_wm (i := 1207) (by decide +kernel)
theorem ml_RX9_316 : tables_1[1239]? = some (Cond.methodLink RX9 316 arraycopyName) := by decide +kernel
theorem mf_X9_keepSources : ix_mf yX9_keepSources cX9_keepSources 2 (none : Option Jvm.ClassFile.FieldType) 1 := ⟨ix_wm (i := 1238) (by decide +kernel), ix_wm (i := 5) (by decide +kernel), ⟨by decide +kernel, by decide +kernel⟩, by decide +kernel, by decide +kernel⟩
theorem mi_X9_keepSources : Cond.instanceMethod yX9_keepSources ∈ lw_tbl := ix_wm (i := 1237) (by decide +kernel)
theorem ms_X1_recordTakes : Cond.selects yX1_recordTakes.cls yX1_recordTakes yX1_recordTakes ∈ lw_tbl := ix_wm (i := 1228) (by decide +kernel)
theorem ml_RX9_213 : tables_1[1226]? = some (Cond.methodLink RX9 213 yX1_recordTakes) := by decide +kernel
theorem ms_X9_keepSources : Cond.selects yX9_keepSources.cls yX9_keepSources yX9_keepSources ∈ lw_tbl := List.mem_append_left _ (List.mem_of_getElem? (i := 28) (by decide +kernel))
theorem ml_RX9_231 : tables_1[1235]? = some (Cond.methodLink RX9 231 yX9_keepSources) := by decide +kernel
theorem mf_X9_keepLast : ix_mf yX9_keepLast cX9_keepLast 1 (some .boolean) 0 := ⟨ix_wm (i := 1225) (by decide +kernel), ix_wm (i := 5) (by decide +kernel), ⟨by decide +kernel, by decide +kernel⟩, by decide +kernel, by decide +kernel⟩
theorem mi_X9_keepLast : Cond.instanceMethod yX9_keepLast ∈ lw_tbl := ix_wm (i := 1224) (by decide +kernel)
theorem ml_RX9_238 : tables_1[1204]? = some (Cond.methodLink RX9 238 yJ7_fill_d0a16) := by decide +kernel
theorem ms_X9_gatherWhole : Cond.selects yX9_gatherWhole.cls yX9_gatherWhole yX9_gatherWhole ∈ lw_tbl := List.mem_append_left _ (List.mem_of_getElem? (i := 23) (by decide +kernel))
theorem ml_RX9_302 : tables_1[1205]? = some (Cond.methodLink RX9 302 yX9_gatherWhole) := by decide +kernel
theorem ms_X9_keepLast : Cond.selects yX9_keepLast.cls yX9_keepLast yX9_keepLast ∈ lw_tbl := List.mem_append_left _ (List.mem_of_getElem? (i := 27) (by decide +kernel))
theorem ml_RX9_305 : tables_1[1222]? = some (Cond.methodLink RX9 305 yX9_keepLast) := by decide +kernel
theorem ms_X1_numberOf : Cond.selects yX1_numberOf.cls yX1_numberOf yX1_numberOf ∈ lw_tbl := ix_wm (i := 1242) (by decide +kernel)
theorem ml_RX9_216 : tables_1[1240]? = some (Cond.methodLink RX9 216 yX1_numberOf) := by decide +kernel
theorem mf_X9_refute : ix_mf yX9_refute cX9_refute 2 (some .int) 1 := ⟨ix_wm (i := 1203) (by decide +kernel), ix_wm (i := 5) (by decide +kernel), ⟨by decide +kernel, by decide +kernel⟩, by decide +kernel, by decide +kernel⟩
theorem mi_X9_refute : Cond.instanceMethod yX9_refute ∈ lw_tbl := ix_wm (i := 1202) (by decide +kernel)
theorem fl_RX9_250 : ix_flb 215 0 true RX9 250 "ClauseCourt$Board" [1] 9 2 = true := by decide +kernel
theorem fl_RX9_53 : ix_flb 293 0 false RX9 53 "ClauseCourt$Solver" [8] 12 2 = true := by decide +kernel
theorem fl_RX9_222 : ix_flb 297 0 false RX9 222 "ClauseCourt$Solver" [8] 16 0 = true := by decide +kernel
theorem fl_RX9_59 : ix_flb 296 0 false RX9 59 "ClauseCourt$Solver" [8] 15 2 = true := by decide +kernel
theorem fp_RX9_222 : ix_fpb 297 0 false RX9 222 "ClauseCourt$Solver" [8] 16 "I" false = true := by decide +kernel
theorem mf_X9_takeIn : ix_mf yX9_takeIn cX9_takeIn 7 (some .int) 2 := ⟨ix_wm (i := 1255) (by decide +kernel), ix_wm (i := 5) (by decide +kernel), ⟨by decide +kernel, by decide +kernel⟩, by decide +kernel, by decide +kernel⟩
theorem mi_X9_takeIn : Cond.instanceMethod yX9_takeIn ∈ lw_tbl := ix_wm (i := 1254) (by decide +kernel)
theorem ms_X9_takeIn : Cond.selects yX9_takeIn.cls yX9_takeIn yX9_takeIn ∈ lw_tbl := List.mem_append_left _ (List.mem_of_getElem? (i := 31) (by decide +kernel))
theorem ml_RX9_241 : tables_1[1252]? = some (Cond.methodLink RX9 241 yX9_takeIn) := by decide +kernel
theorem fl_RX9_244 : ix_flb 223 0 true RX9 244 "ClauseCourt$Board" [1] 12 0 = true := by decide +kernel
theorem fl_RX9_247 : ix_flb 220 0 true RX9 247 "ClauseCourt$Board" [1] 11 2 = true := by decide +kernel
theorem fl_RX9_253 : ix_flb 217 0 true RX9 253 "ClauseCourt$Board" [1] 10 2 = true := by decide +kernel
theorem mf_X9_walkBack : ix_mf yX9_walkBack cX9_walkBack 6 (some .int) 2 := ⟨ix_wm (i := 1251) (by decide +kernel), ix_wm (i := 5) (by decide +kernel), ⟨by decide +kernel, by decide +kernel⟩, by decide +kernel, by decide +kernel⟩
theorem mi_X9_walkBack : Cond.instanceMethod yX9_walkBack ∈ lw_tbl := ix_wm (i := 1250) (by decide +kernel)
theorem mf_X9_makeFresh : ix_mf yX9_makeFresh cX9_makeFresh 4 (none : Option Jvm.ClassFile.FieldType) 1 := ⟨ix_wm (i := 1259) (by decide +kernel), ix_wm (i := 5) (by decide +kernel), ⟨by decide +kernel, by decide +kernel⟩, by decide +kernel, by decide +kernel⟩
theorem mi_X9_makeFresh : Cond.instanceMethod yX9_makeFresh ∈ lw_tbl := ix_wm (i := 1258) (by decide +kernel)
theorem fl_RX9_185 : ix_flb 228 0 true RX9 185 "ClauseCourt$Board" [1] 14 0 = true := by decide +kernel
theorem fl_RX9_82 : ix_flb 282 0 false RX9 82 "ClauseCourt$Solver" [8] 3 1 = true := by decide +kernel
theorem ml_RX9_274 : tables_1[1271]? = some (Cond.methodLink RX9 274 Lib.MathLoose.max_long.x) := by decide +kernel
theorem mf_X9_raiseWeights : ix_mf yX9_raiseWeights cX9_raiseWeights 4 (some .int) 0 := ⟨ix_wm (i := 1267) (by decide +kernel), ix_wm (i := 5) (by decide +kernel), ⟨by decide +kernel, by decide +kernel⟩, by decide +kernel, by decide +kernel⟩
theorem mi_X9_raiseWeights : Cond.instanceMethod yX9_raiseWeights ∈ lw_tbl := ix_wm (i := 1266) (by decide +kernel)
theorem mf_X9_pace : ix_mf yX9_pace cX9_pace 5 (some .int) 1 := ⟨ix_wm (i := 1290) (by decide +kernel), ix_wm (i := 5) (by decide +kernel), ⟨by decide +kernel, by decide +kernel⟩, by decide +kernel, by decide +kernel⟩
theorem st_X9_pace : Cond.static yX9_pace ∈ lw_tbl := ix_wm (i := 1289) (by decide +kernel)
theorem ml_RX9_277 : tables_1[1279]? = some (Cond.methodLink RX9 277 yX1_backTo) := by decide +kernel
theorem fl_RX9_97 : ix_flb 300 0 false RX9 97 "ClauseCourt$Solver" [8] 19 0 = true := by decide +kernel
theorem fl_RX9_92 : ix_flb 298 0 false RX9 92 "ClauseCourt$Solver" [8] 17 0 = true := by decide +kernel
theorem ml_RX9_280 : tables_1[1288]? = some (Cond.methodLink RX9 280 yX9_pace) := by decide +kernel
theorem ml_RX9_189 : tables_1[1278]? = some (Cond.methodLink RX9 189 Lib.Math.max.name) := by decide +kernel
theorem mf_X9_goBack : ix_mf yX9_goBack cX9_goBack 3 (none : Option Jvm.ClassFile.FieldType) 0 := ⟨ix_wm (i := 1277) (by decide +kernel), ix_wm (i := 5) (by decide +kernel), ⟨by decide +kernel, by decide +kernel⟩, by decide +kernel, by decide +kernel⟩
theorem mi_X9_goBack : Cond.instanceMethod yX9_goBack ∈ lw_tbl := ix_wm (i := 1276) (by decide +kernel)
theorem fl_RX9_298 : ix_flb 207 0 true RX9 298 "ClauseCourt$Board" [1] 4 2 = true := by decide +kernel
theorem mf_X9_isThere : ix_mf yX9_isThere cX9_isThere 2 (some .boolean) 1 := ⟨ix_wm (i := 1298) (by decide +kernel), ix_wm (i := 5) (by decide +kernel), ⟨by decide +kernel, by decide +kernel⟩, by decide +kernel, by decide +kernel⟩
theorem mi_X9_isThere : Cond.instanceMethod yX9_isThere ∈ lw_tbl := ix_wm (i := 1297) (by decide +kernel)
theorem fl_RX9_35 : ix_flb 285 0 false RX9 35 "ClauseCourt$Solver" [8] 6 2 = true := by decide +kernel
theorem mf_X9_queueByUse : ix_mf yX9_queueByUse cX9_queueByUse 3 (none : Option Jvm.ClassFile.FieldType) 1 := ⟨ix_wm (i := 1309) (by decide +kernel), ix_wm (i := 5) (by decide +kernel), ⟨by decide +kernel, by decide +kernel⟩, by decide +kernel, by decide +kernel⟩
theorem mi_X9_queueByUse : Cond.instanceMethod yX9_queueByUse ∈ lw_tbl := ix_wm (i := 1308) (by decide +kernel)
theorem fl_RX9_96 : ix_flb 299 0 false RX9 96 "ClauseCourt$Solver" [8] 18 0 = true := by decide +kernel
theorem ms_X1_bury : Cond.selects yX1_bury.cls yX1_bury yX1_bury ∈ lw_tbl := ix_wm (i := 1312) (by decide +kernel)
theorem ml_RX9_295 : tables_1[1310]? = some (Cond.methodLink RX9 295 yX1_bury) := by decide +kernel
theorem ms_X9_isThere : Cond.selects yX9_isThere.cls yX9_isThere yX9_isThere ∈ lw_tbl := List.mem_append_left _ (List.mem_of_getElem? (i := 38) (by decide +kernel))
theorem ml_RX9_283 : tables_1[1295]? = some (Cond.methodLink RX9 283 yX9_isThere) := by decide +kernel
theorem ml_RX9_286 : tables_1[1300]? = some (Cond.methodLink RX9 286 yX7_size) := by decide +kernel
theorem ms_X1_isReason : Cond.selects yX1_isReason.cls yX1_isReason yX1_isReason ∈ lw_tbl := ix_wm (i := 1303) (by decide +kernel)
theorem ml_RX9_289 : tables_1[1301]? = some (Cond.methodLink RX9 289 yX1_isReason) := by decide +kernel
theorem ms_X9_queueByUse : Cond.selects yX9_queueByUse.cls yX9_queueByUse yX9_queueByUse ∈ lw_tbl := List.mem_append_left _ (List.mem_of_getElem? (i := 39) (by decide +kernel))
theorem ml_RX9_292 : tables_1[1306]? = some (Cond.methodLink RX9 292 yX9_queueByUse) := by decide +kernel
theorem mf_X9_forgetSome : ix_mf yX9_forgetSome cX9_forgetSome 3 (none : Option Jvm.ClassFile.FieldType) 0 := ⟨ix_wm (i := 1294) (by decide +kernel), ix_wm (i := 5) (by decide +kernel), ⟨by decide +kernel, by decide +kernel⟩, by decide +kernel, by decide +kernel⟩
theorem mi_X9_forgetSome : Cond.instanceMethod yX9_forgetSome ∈ lw_tbl := ix_wm (i := 1293) (by decide +kernel)
def tab_X6_fewest : List (Nat × Instr × Nat) := [(0, .aload_n 1, 1), (1, .bipush 31, 2), (3, .invokevirtual 31, 3), (6, .aload_n 0, 1), (7, .aload_n 1, 1), (8, .invokespecial 41, 3), (11, .aload_n 0, 1), (12, .getfield 7, 3), (15, .ifCond .eq 7, 3), (18, .iconst 1, 1), (19, .goto 4, 3), (22, .iconst 0, 1), (23, .iadd, 1), (24, .ireturn, 1)]
theorem tb_X6_fewest : ix_tab cX6_fewest tab_X6_fewest := by
  unfold ix_tab
  decide +kernel
noncomputable def v_RX6_41 (n : Nat) (z : ix_Z) (b : Nat) (p0 : Nat) (d : ix_D2) : Option (Int32 × ix_D2) := f_X8_fewest n z b p0 d
theorem tv_RX6_41 {l : Launch} {p : Program} {e : Env} {s : State} {m : MethodId} {args : Array Value} {below : List Frame} {meth : Method} {c : Code} {K : ix_Cx} {R : Room} {Q : State → Prop} {nL k n pc : Nat} {cc : ByteArray} {L : List (Nat × Value)} {rest : List Value} (hKp : ix_Kp K) (X : ix_X p s m args c K cc RX6 nL) {N : Nat} {z : ix_Z} {b : Nat} {p0 : Nat} {d : ix_D2} {r : Int32} {d1 : ix_D2} (hk : ix_ok z [6] b) (hcall : v_RX6_41 N z b p0 d = some (r, d1)) (hfr : 2 ≤ R.frames) (hlo : 42 ≤ R.locals) (hcs : k + 0 ≤ R.cells ∧ n + 0 ≤ R.slots) (hrm : (rest.map fun v => v.category).sum ≤ 8) (hd : decode cc pc = .ok (.invokespecial 41, 3)) {pc1 : Nat} (hp : pc + 3 = pc1) (kk : ix_G p l e R s m args below meth c Q K nL k n pc1 L (.int r :: rest) (ix_w z d1)) : ix_G p l e R s m args below meth c Q K nL k n pc L (.ref (K.2.2.1 + p0) :: .ref (K.2.2.1 + b) :: rest) (ix_w z d) := by
  unfold v_RX6_41 at hcall
  have h2 := hk.2
  simp only [List.mem_cons, List.not_mem_nil, or_false] at h2
  rcases h2 with h2
  · exact ix_callSU (As := [.ref (K.2.2.1 + p0)]) (rest := rest) (C := RX6) (T := TX6) (nf := 4) (ci := 6) X mf_X8_fewest mi_X8_fewest (ix_wm (i := 964) (by decide +kernel)) (ix_wm (i := 678) (by decide +kernel)) (by decide) rfl (by decide) ml_RX6_41 ⟨Nat.le_trans (Nat.le_of_ble_eq_true rfl) hfr, Nat.le_trans (Nat.le_of_ble_eq_true rfl) hlo⟩ hcs rfl hrm hd ⟨hk.1, h2⟩ (c_X8_fewest hKp hcall) rfl hp kk
noncomputable def f_X6_fewest_23 (n : Nat) (z : ix_Z)  (s0 : Int32) (s1 : Int32) (d : ix_D2) : Option (Int32 × ix_D2) :=
  some (s1 + s0, d)
noncomputable def f_X6_fewest (n : Nat) (z : ix_Z) (a0 : Nat) (a1 : Nat) (d : ix_D2) : Option (Int32 × ix_D2) :=
  ix_ck (ix_ok z [4] a1) (ix_bd1 (f_X4_note n z a1 31 d) (fun d_1 => ix_ck (ix_ok z [6] a0) (ix_bd2 (v_RX6_41 n z a0 a1 d_1) (fun r_7 d_5 => ix_if (d_5.1 a0 3 = 0) (f_X6_fewest_23 n z  0 r_7 d_5) (f_X6_fewest_23 n z  1 r_7 d_5)))))
set_option maxRecDepth 20000 in
theorem t_X6_fewest_23 {l : Launch} {p : Program} {e : Env} {s : State} {m : MethodId} {args : Array Value} {below : List Frame} {meth : Method} {c : Code} {K : ix_Cx} (hKp : ix_Kp K) {n : Nat} {z : ix_Z} (X : ix_X p s m args c K cX6_fewest RX6 2) (hr : meth.sig.returnType = (some .int)) (hlk : meth.locks = false)  {s0 : Int32} {s1 : Int32} {r : Int32} {d1 : ix_D2}  {d : ix_D2} (h : f_X6_fewest_23 n z  s0 s1 d = some (r, d1)) : ix_G p l e (ix_rm 2 42 0 0) s m args below meth c (MQ below (ix_Post K (some (.int r)) (ix_w z d1)) args s 0 0 (ix_A K)) K 2 0 0 23 [] [.int s0, .int s1] (ix_w z d) := by
  unfold f_X6_fewest_23 at h
  refine ix_iadd X (ix_tb_at tb_X6_fewest 12 rfl) (pc1 := 24) rfl ?_
  exact ix_iret X hr hlk (ix_r2 (f := fun r => some (.int r)) (g := ix_w z) h) (ix_tb_at tb_X6_fewest 13 rfl)
set_option maxRecDepth 20000 in
theorem c_X6_fewest {l : Launch} {K : ix_Cx} (hKp : ix_Kp K) {n : Nat} {z : ix_Z} {a0 : Nat} {a1 : Nat} {d : ix_D2} {r : Int32} {d1 : ix_D2} (h : f_X6_fewest n z a0 a1 d = some (r, d1)) : ix_M l K yX6_fewest cX6_fewest 2 (some .int) 2 42 0 0 [.ref (K.2.2.1 + a0), .ref (K.2.2.1 + a1)] (ix_w z d) (some (.int r)) (ix_w z d1) := by
  refine ix_met mf_X6_fewest hKp (Nat.le_of_ble_eq_true rfl) ?_
  intro p e s m args below meth c hr hlk hnm X
  have X : ix_X p s m args c K cX6_fewest RX6 2 := X
  show ix_G p l e (ix_rm 2 42 0 0) s m args below meth c (MQ below (ix_Post K (some (.int r)) (ix_w z d1)) args s 0 0 (ix_A K)) K 2 0 0 0 [(0, .ref (K.2.2.1 + a0)), (1, .ref (K.2.2.1 + a1))] [] (ix_w z d)
  unfold f_X6_fewest at h
  refine ix_aload_n (i := 1) (j := 1) X (ix_tb_at tb_X6_fewest 0 rfl) rfl rfl (pc1 := 1) rfl ?_
  refine ix_bipush (v := 31) X (ix_tb_at tb_X6_fewest 1 rfl) (by decide) (pc1 := 3) rfl ?_
  obtain ⟨k_3, h⟩ := ix_ck_some h
  obtain ⟨d_1, h_2, h⟩ := ix_bd1_ex h
  refine ix_callV (As := [.int 31]) (rest := []) (ci := 4) (T := TX4) (nf := 17) X mf_X4_note mi_X4_note ms_X4_note rfl (Nat.le_of_ble_eq_true rfl) ml_RX6_31 ⟨Nat.le_of_ble_eq_true rfl, Nat.le_of_ble_eq_true rfl⟩ ⟨Nat.le_of_ble_eq_true rfl, Nat.le_of_ble_eq_true rfl⟩ rfl (Nat.le_of_ble_eq_true rfl) (ix_tb_at tb_X6_fewest 2 rfl) ⟨k_3.1, List.mem_singleton.mp k_3.2⟩ (c_X4_note hKp h_2) rfl (pc1 := 6) rfl ?_
  refine ix_aload_n (i := 0) (j := 0) X (ix_tb_at tb_X6_fewest 3 rfl) rfl rfl (pc1 := 7) rfl ?_
  refine ix_aload_n (i := 1) (j := 1) X (ix_tb_at tb_X6_fewest 4 rfl) rfl rfl (pc1 := 8) rfl ?_
  obtain ⟨k_4, h⟩ := ix_ck_some h
  obtain ⟨r_7, d_5, h_6, h⟩ := ix_bd2_ex h
  refine tv_RX6_41 (rest := []) hKp X k_4 h_6 (Nat.le_of_ble_eq_true rfl) (Nat.le_of_ble_eq_true rfl) ⟨Nat.le_of_ble_eq_true rfl, Nat.le_of_ble_eq_true rfl⟩ (Nat.le_of_ble_eq_true rfl) (ix_tb_at tb_X6_fewest 5 rfl) (pc1 := 11) rfl ?_
  refine ix_aload_n (i := 0) (j := 0) X (ix_tb_at tb_X6_fewest 6 rfl) rfl rfl (pc1 := 12) rfl ?_
  refine iz_getI X fl_RX6_7 k_4 (ix_tb_at tb_X6_fewest 7 rfl) (pc1 := 15) rfl ?_
  refine ix_if_eq (tgt := 22) X (ix_tb_at tb_X6_fewest 8 rfl) (by decide) (pc1 := 18) rfl (fun q_8 => ?_) (fun q_8 => ?_)
  · have h := ix_ift q_8 h
    refine ix_iconst (v := 0) X (ix_tb_at tb_X6_fewest 11 rfl) (by decide) (pc1 := 23) rfl ?_
    refine ix_sub (L1 := []) [] rfl ?_
    exact t_X6_fewest_23 hKp X hr hlk  h
  · have h := ix_iff q_8 h
    refine ix_iconst (v := 1) X (ix_tb_at tb_X6_fewest 9 rfl) (by decide) (pc1 := 19) rfl ?_
    refine ix_goto (tgt := 23) X (ix_tb_at tb_X6_fewest 10 rfl) (by decide) ?_
    refine ix_sub (L1 := []) [] rfl ?_
    exact t_X6_fewest_23 hKp X hr hlk  h
def tab_X6_greatest : List (Nat × Instr × Nat) := [(0, .aload_n 1, 1), (1, .bipush 32, 2), (3, .invokevirtual 31, 3), (6, .aload_n 0, 1), (7, .aload_n 1, 1), (8, .invokespecial 45, 3), (11, .istore_n 2, 1), (12, .iload_n 2, 1), (13, .iconst 2, 1), (14, .irem, 1), (15, .iconst 1, 1), (16, .if_icmp .ne 7, 3), (19, .iconst 1, 1), (20, .goto 4, 3), (23, .iconst 0, 1), (24, .aload_n 0, 1), (25, .getfield 7, 3), (28, .if_icmp .ne 7, 3), (31, .iload_n 2, 1), (32, .goto 6, 3), (35, .iload_n 2, 1), (36, .iconst 1, 1), (37, .isub, 1), (38, .ireturn, 1)]
theorem tb_X6_greatest : ix_tab cX6_greatest tab_X6_greatest := by
  unfold ix_tab
  decide +kernel
noncomputable def v_RX6_45 (n : Nat) (z : ix_Z) (b : Nat) (p0 : Nat) (d : ix_D2) : Option (Int32 × ix_D2) := f_X8_greatest n z b p0 d
theorem tv_RX6_45 {l : Launch} {p : Program} {e : Env} {s : State} {m : MethodId} {args : Array Value} {below : List Frame} {meth : Method} {c : Code} {K : ix_Cx} {R : Room} {Q : State → Prop} {nL k n pc : Nat} {cc : ByteArray} {L : List (Nat × Value)} {rest : List Value} (hKp : ix_Kp K) (X : ix_X p s m args c K cc RX6 nL) {N : Nat} {z : ix_Z} {b : Nat} {p0 : Nat} {d : ix_D2} {r : Int32} {d1 : ix_D2} (hk : ix_ok z [6] b) (hcall : v_RX6_45 N z b p0 d = some (r, d1)) (hfr : 2 ≤ R.frames) (hlo : 42 ≤ R.locals) (hcs : k + 0 ≤ R.cells ∧ n + 0 ≤ R.slots) (hrm : (rest.map fun v => v.category).sum ≤ 8) (hd : decode cc pc = .ok (.invokespecial 45, 3)) {pc1 : Nat} (hp : pc + 3 = pc1) (kk : ix_G p l e R s m args below meth c Q K nL k n pc1 L (.int r :: rest) (ix_w z d1)) : ix_G p l e R s m args below meth c Q K nL k n pc L (.ref (K.2.2.1 + p0) :: .ref (K.2.2.1 + b) :: rest) (ix_w z d) := by
  unfold v_RX6_45 at hcall
  have h2 := hk.2
  simp only [List.mem_cons, List.not_mem_nil, or_false] at h2
  rcases h2 with h2
  · exact ix_callSU (As := [.ref (K.2.2.1 + p0)]) (rest := rest) (C := RX6) (T := TX6) (nf := 4) (ci := 6) X mf_X8_greatest mi_X8_greatest (ix_wm (i := 985) (by decide +kernel)) (ix_wm (i := 678) (by decide +kernel)) (by decide) rfl (by decide) ml_RX6_45 ⟨Nat.le_trans (Nat.le_of_ble_eq_true rfl) hfr, Nat.le_trans (Nat.le_of_ble_eq_true rfl) hlo⟩ hcs rfl hrm hd ⟨hk.1, h2⟩ (c_X8_greatest hKp hcall) rfl hp kk
noncomputable def f_X6_greatest_24 (n : Nat) (z : ix_Z)  (a0 : Nat) (x2 : Int32) (s0 : Int32) (d : ix_D2) : Option (Int32 × ix_D2) :=
  ix_ck (ix_ok z [6] a0) (ix_if (s0 = d.1 a0 3) (some (x2, d)) (some (x2 - 1, d)))
noncomputable def f_X6_greatest (n : Nat) (z : ix_Z) (a0 : Nat) (a1 : Nat) (d : ix_D2) : Option (Int32 × ix_D2) :=
  ix_ck (ix_ok z [4] a1) (ix_bd1 (f_X4_note n z a1 32 d) (fun d_1 => ix_ck (ix_ok z [6] a0) (ix_bd2 (v_RX6_45 n z a0 a1 d_1) (fun r_7 d_5 => ix_if (r_7 - r_7 / 2 * 2 = 1) (f_X6_greatest_24 n z  a0 r_7 1 d_5) (f_X6_greatest_24 n z  a0 r_7 0 d_5)))))
set_option maxRecDepth 20000 in
theorem t_X6_greatest_24 {l : Launch} {p : Program} {e : Env} {s : State} {m : MethodId} {args : Array Value} {below : List Frame} {meth : Method} {c : Code} {K : ix_Cx} (hKp : ix_Kp K) {n : Nat} {z : ix_Z} (X : ix_X p s m args c K cX6_greatest RX6 3) (hr : meth.sig.returnType = (some .int)) (hlk : meth.locks = false)  {a0 : Nat} {x2 : Int32} {s0 : Int32} {r : Int32} {d1 : ix_D2}  {d : ix_D2} (h : f_X6_greatest_24 n z  a0 x2 s0 d = some (r, d1)) : ix_G p l e (ix_rm 2 42 0 0) s m args below meth c (MQ below (ix_Post K (some (.int r)) (ix_w z d1)) args s 0 0 (ix_A K)) K 3 0 0 24 [(0, .ref (K.2.2.1 + a0)), (2, .int x2)] [.int s0] (ix_w z d) := by
  unfold f_X6_greatest_24 at h
  refine ix_aload_n (i := 0) (j := 0) X (ix_tb_at tb_X6_greatest 15 rfl) rfl rfl (pc1 := 25) rfl ?_
  obtain ⟨k_9, h⟩ := ix_ck_some h
  refine iz_getI X fl_RX6_7 k_9 (ix_tb_at tb_X6_greatest 16 rfl) (pc1 := 28) rfl ?_
  refine ix_icmp_ne (tgt := 35) X (ix_tb_at tb_X6_greatest 17 rfl) (by decide) (pc1 := 31) rfl (fun q_10 => ?_) (fun q_10 => ?_)
  · have h := ix_iff q_10 h
    refine ix_iload_n (i := 2) (j := 1) X (ix_tb_at tb_X6_greatest 20 rfl) rfl rfl (pc1 := 36) rfl ?_
    refine ix_iconst (v := 1) X (ix_tb_at tb_X6_greatest 21 rfl) (by decide) (pc1 := 37) rfl ?_
    refine ix_isub X (ix_tb_at tb_X6_greatest 22 rfl) (pc1 := 38) rfl ?_
    exact ix_iret X hr hlk (ix_r2 (f := fun r => some (.int r)) (g := ix_w z) h) (ix_tb_at tb_X6_greatest 23 rfl)
  · have h := ix_ift q_10 h
    refine ix_iload_n (i := 2) (j := 1) X (ix_tb_at tb_X6_greatest 18 rfl) rfl rfl (pc1 := 32) rfl ?_
    refine ix_goto (tgt := 38) X (ix_tb_at tb_X6_greatest 19 rfl) (by decide) ?_
    exact ix_iret X hr hlk (ix_r2 (f := fun r => some (.int r)) (g := ix_w z) h) (ix_tb_at tb_X6_greatest 23 rfl)
set_option maxRecDepth 20000 in
theorem c_X6_greatest {l : Launch} {K : ix_Cx} (hKp : ix_Kp K) {n : Nat} {z : ix_Z} {a0 : Nat} {a1 : Nat} {d : ix_D2} {r : Int32} {d1 : ix_D2} (h : f_X6_greatest n z a0 a1 d = some (r, d1)) : ix_M l K yX6_greatest cX6_greatest 3 (some .int) 2 42 0 0 [.ref (K.2.2.1 + a0), .ref (K.2.2.1 + a1)] (ix_w z d) (some (.int r)) (ix_w z d1) := by
  refine ix_met mf_X6_greatest hKp (Nat.le_of_ble_eq_true rfl) ?_
  intro p e s m args below meth c hr hlk hnm X
  have X : ix_X p s m args c K cX6_greatest RX6 3 := X
  show ix_G p l e (ix_rm 2 42 0 0) s m args below meth c (MQ below (ix_Post K (some (.int r)) (ix_w z d1)) args s 0 0 (ix_A K)) K 3 0 0 0 [(0, .ref (K.2.2.1 + a0)), (1, .ref (K.2.2.1 + a1))] [] (ix_w z d)
  unfold f_X6_greatest at h
  refine ix_aload_n (i := 1) (j := 1) X (ix_tb_at tb_X6_greatest 0 rfl) rfl rfl (pc1 := 1) rfl ?_
  refine ix_bipush (v := 32) X (ix_tb_at tb_X6_greatest 1 rfl) (by decide) (pc1 := 3) rfl ?_
  obtain ⟨k_3, h⟩ := ix_ck_some h
  obtain ⟨d_1, h_2, h⟩ := ix_bd1_ex h
  refine ix_callV (As := [.int 32]) (rest := []) (ci := 4) (T := TX4) (nf := 17) X mf_X4_note mi_X4_note ms_X4_note rfl (Nat.le_of_ble_eq_true rfl) ml_RX6_31 ⟨Nat.le_of_ble_eq_true rfl, Nat.le_of_ble_eq_true rfl⟩ ⟨Nat.le_of_ble_eq_true rfl, Nat.le_of_ble_eq_true rfl⟩ rfl (Nat.le_of_ble_eq_true rfl) (ix_tb_at tb_X6_greatest 2 rfl) ⟨k_3.1, List.mem_singleton.mp k_3.2⟩ (c_X4_note hKp h_2) rfl (pc1 := 6) rfl ?_
  refine ix_aload_n (i := 0) (j := 0) X (ix_tb_at tb_X6_greatest 3 rfl) rfl rfl (pc1 := 7) rfl ?_
  refine ix_aload_n (i := 1) (j := 1) X (ix_tb_at tb_X6_greatest 4 rfl) rfl rfl (pc1 := 8) rfl ?_
  obtain ⟨k_4, h⟩ := ix_ck_some h
  obtain ⟨r_7, d_5, h_6, h⟩ := ix_bd2_ex h
  refine tv_RX6_45 (rest := []) hKp X k_4 h_6 (Nat.le_of_ble_eq_true rfl) (Nat.le_of_ble_eq_true rfl) ⟨Nat.le_of_ble_eq_true rfl, Nat.le_of_ble_eq_true rfl⟩ (Nat.le_of_ble_eq_true rfl) (ix_tb_at tb_X6_greatest 5 rfl) (pc1 := 11) rfl ?_
  refine ix_istore_n (i := 2) (L1 := [(2, .int r_7), (0, .ref (K.2.2.1 + a0)), (1, .ref (K.2.2.1 + a1))]) X (ix_tb_at tb_X6_greatest 6 rfl) rfl (Nat.le_of_ble_eq_true rfl) rfl (pc1 := 12) rfl ?_
  refine ix_iload_n (i := 2) (j := 0) X (ix_tb_at tb_X6_greatest 7 rfl) rfl rfl (pc1 := 13) rfl ?_
  refine ix_iconst (v := 2) X (ix_tb_at tb_X6_greatest 8 rfl) (by decide) (pc1 := 14) rfl ?_
  refine ix_irem X (ix_tb_at tb_X6_greatest 9 rfl) (by decide) (pc1 := 15) rfl ?_
  refine ix_iconst (v := 1) X (ix_tb_at tb_X6_greatest 10 rfl) (by decide) (pc1 := 16) rfl ?_
  refine ix_icmp_ne (tgt := 23) X (ix_tb_at tb_X6_greatest 11 rfl) (by decide) (pc1 := 19) rfl (fun q_8 => ?_) (fun q_8 => ?_)
  · have h := ix_iff q_8 h
    refine ix_iconst (v := 0) X (ix_tb_at tb_X6_greatest 14 rfl) (by decide) (pc1 := 24) rfl ?_
    refine ix_sub (L1 := [(0, .ref (K.2.2.1 + a0)), (2, .int r_7)]) [1, 0] rfl ?_
    exact t_X6_greatest_24 hKp X hr hlk  h
  · have h := ix_ift q_8 h
    refine ix_iconst (v := 1) X (ix_tb_at tb_X6_greatest 12 rfl) (by decide) (pc1 := 20) rfl ?_
    refine ix_goto (tgt := 24) X (ix_tb_at tb_X6_greatest 13 rfl) (by decide) ?_
    refine ix_sub (L1 := [(0, .ref (K.2.2.1 + a0)), (2, .int r_7)]) [1, 0] rfl ?_
    exact t_X6_greatest_24 hKp X hr hlk  h
def tab_X6_write : List (Nat × Instr × Nat) := [(0, .aload_n 1, 1), (1, .bipush 34, 2), (3, .invokevirtual 31, 3), (6, .aload_n 1, 1), (7, .aload_n 0, 1), (8, .getfield 7, 3), (11, .ifCond .eq 8, 3), (14, .ldc 48, 2), (16, .goto 5, 3), (19, .ldc 49, 2), (21, .invokevirtual 51, 3), (24, .aload_n 1, 1), (25, .aload_n 0, 1), (26, .getfield 13, 3), (29, .invokevirtual 55, 3), (32, .return_, 1)]
theorem tb_X6_write : ix_tab cX6_write tab_X6_write := by
  unfold ix_tab
  decide +kernel
noncomputable def f_X6_write_21 (n : Nat) (z : ix_Z)  (a0 : Nat) (a1 : Nat) (s0 : Nat) (s1 : Nat) (d : ix_D2) : Option (ix_D2) :=
  ix_ck (ix_ok z [4] s1) (ix_bd1 (f_X4_writeText n z s1 s0 d) (fun d_6 => ix_ck (ix_ok z [6] a0) (ix_bd1 (z.1 a0 0) (fun b_10 => ix_ck (ix_ok z [4] a1) (ix_bd1 (f_X4_writeList n z a1 b_10 d_6) (fun d_12 => some d_12))))))
noncomputable def f_X6_write (n : Nat) (z : ix_Z) (a0 : Nat) (a1 : Nat) (d : ix_D2) : Option (ix_D2) :=
  ix_ck (ix_ok z [4] a1) (ix_bd1 (f_X4_note n z a1 34 d) (fun d_1 => ix_ck (ix_ok z [6] a0) (ix_if (d_1.1 a0 3 = 0) (f_X6_write_21 n z  a0 a1 5 a1 d_1) (f_X6_write_21 n z  a0 a1 4 a1 d_1))))
set_option maxRecDepth 20000 in
theorem t_X6_write_21 {l : Launch} {p : Program} {e : Env} {s : State} {m : MethodId} {args : Array Value} {below : List Frame} {meth : Method} {c : Code} {K : ix_Cx} (hKp : ix_Kp K) {n : Nat} {z : ix_Z} (hT : ix_Tc K) (X : ix_X p s m args c K cX6_write RX6 2) (hr : meth.sig.returnType = (none : Option Jvm.ClassFile.FieldType)) (hlk : meth.locks = false)  {a0 : Nat} {a1 : Nat} {s0 : Nat} {s1 : Nat} {d1 : ix_D2}  {d : ix_D2} (h : f_X6_write_21 n z  a0 a1 s0 s1 d = some d1) : ix_G p l e (ix_rm 5 107 0 0) s m args below meth c (MQ below (ix_Post K none (ix_w z d1)) args s 0 0 (ix_A K)) K 2 0 0 21 [(0, .ref (K.2.2.1 + a0)), (1, .ref (K.2.2.1 + a1))] [.ref (K.2.1 (100 + s0)), .ref (K.2.2.1 + s1)] (ix_w z d) := by
  unfold f_X6_write_21 at h
  obtain ⟨k_8, h⟩ := ix_ck_some h
  obtain ⟨d_6, h_7, h⟩ := ix_bd1_ex h
  refine ix_callV (As := [.ref (K.2.1 (100 + s0))]) (rest := []) (ci := 4) (T := TX4) (nf := 17) X mf_X4_writeText mi_X4_writeText ms_X4_writeText rfl (Nat.le_of_ble_eq_true rfl) ml_RX6_51 ⟨Nat.le_of_ble_eq_true rfl, Nat.le_of_ble_eq_true rfl⟩ ⟨Nat.le_of_ble_eq_true rfl, Nat.le_of_ble_eq_true rfl⟩ rfl (Nat.le_of_ble_eq_true rfl) (ix_tb_at tb_X6_write 10 rfl) ⟨k_8.1, List.mem_singleton.mp k_8.2⟩ (c_X4_writeText hKp hT h_7) rfl (pc1 := 24) rfl ?_
  refine ix_aload_n (i := 1) (j := 1) X (ix_tb_at tb_X6_write 11 rfl) rfl rfl (pc1 := 25) rfl ?_
  refine ix_aload_n (i := 0) (j := 0) X (ix_tb_at tb_X6_write 12 rfl) rfl rfl (pc1 := 26) rfl ?_
  obtain ⟨k_9, h⟩ := ix_ck_some h
  obtain ⟨b_10, q_11, h⟩ := ix_bd1_ex h
  refine iz_getR X fl_RX6_13 k_9 q_11 (ix_tb_at tb_X6_write 13 rfl) (pc1 := 29) rfl ?_
  obtain ⟨k_14, h⟩ := ix_ck_some h
  obtain ⟨d_12, h_13, h⟩ := ix_bd1_ex h
  refine ix_callV (As := [.ref (K.2.2.1 + b_10)]) (rest := []) (ci := 4) (T := TX4) (nf := 17) X mf_X4_writeList mi_X4_writeList ms_X4_writeList rfl (Nat.le_of_ble_eq_true rfl) ml_RX6_55 ⟨Nat.le_of_ble_eq_true rfl, Nat.le_of_ble_eq_true rfl⟩ ⟨Nat.le_of_ble_eq_true rfl, Nat.le_of_ble_eq_true rfl⟩ rfl (Nat.le_of_ble_eq_true rfl) (ix_tb_at tb_X6_write 14 rfl) ⟨k_14.1, List.mem_singleton.mp k_14.2⟩ (c_X4_writeList hKp h_13) rfl (pc1 := 32) rfl ?_
  exact ix_vret X hr hlk (ix_r1 (g := ix_w z) h) (ix_tb_at tb_X6_write 15 rfl)
set_option maxRecDepth 20000 in
theorem c_X6_write {l : Launch} {K : ix_Cx} (hKp : ix_Kp K) (hT : ix_Tc K) {n : Nat} {z : ix_Z} {a0 : Nat} {a1 : Nat} {d : ix_D2} {d1 : ix_D2} (h : f_X6_write n z a0 a1 d = some d1) : ix_M l K yX6_write cX6_write 2 (none : Option Jvm.ClassFile.FieldType) 5 107 0 0 [.ref (K.2.2.1 + a0), .ref (K.2.2.1 + a1)] (ix_w z d) none (ix_w z d1) := by
  refine ix_met mf_X6_write hKp (Nat.le_of_ble_eq_true rfl) ?_
  intro p e s m args below meth c hr hlk hnm X
  have X : ix_X p s m args c K cX6_write RX6 2 := X
  show ix_G p l e (ix_rm 5 107 0 0) s m args below meth c (MQ below (ix_Post K none (ix_w z d1)) args s 0 0 (ix_A K)) K 2 0 0 0 [(0, .ref (K.2.2.1 + a0)), (1, .ref (K.2.2.1 + a1))] [] (ix_w z d)
  unfold f_X6_write at h
  refine ix_aload_n (i := 1) (j := 1) X (ix_tb_at tb_X6_write 0 rfl) rfl rfl (pc1 := 1) rfl ?_
  refine ix_bipush (v := 34) X (ix_tb_at tb_X6_write 1 rfl) (by decide) (pc1 := 3) rfl ?_
  obtain ⟨k_3, h⟩ := ix_ck_some h
  obtain ⟨d_1, h_2, h⟩ := ix_bd1_ex h
  refine ix_callV (As := [.int 34]) (rest := []) (ci := 4) (T := TX4) (nf := 17) X mf_X4_note mi_X4_note ms_X4_note rfl (Nat.le_of_ble_eq_true rfl) ml_RX6_31 ⟨Nat.le_of_ble_eq_true rfl, Nat.le_of_ble_eq_true rfl⟩ ⟨Nat.le_of_ble_eq_true rfl, Nat.le_of_ble_eq_true rfl⟩ rfl (Nat.le_of_ble_eq_true rfl) (ix_tb_at tb_X6_write 2 rfl) ⟨k_3.1, List.mem_singleton.mp k_3.2⟩ (c_X4_note hKp h_2) rfl (pc1 := 6) rfl ?_
  refine ix_aload_n (i := 1) (j := 1) X (ix_tb_at tb_X6_write 3 rfl) rfl rfl (pc1 := 7) rfl ?_
  refine ix_aload_n (i := 0) (j := 0) X (ix_tb_at tb_X6_write 4 rfl) rfl rfl (pc1 := 8) rfl ?_
  obtain ⟨k_4, h⟩ := ix_ck_some h
  refine iz_getI X fl_RX6_7 k_4 (ix_tb_at tb_X6_write 5 rfl) (pc1 := 11) rfl ?_
  refine ix_if_eq (tgt := 19) X (ix_tb_at tb_X6_write 6 rfl) (by decide) (pc1 := 14) rfl (fun q_5 => ?_) (fun q_5 => ?_)
  · have h := ix_ift q_5 h
    refine ix_ldcS (j := 5) (tx := "even") X hT rfl (ix_tb_at tb_X6_write 9 rfl) (pc1 := 21) rfl ?_
    refine ix_sub (L1 := [(0, .ref (K.2.2.1 + a0)), (1, .ref (K.2.2.1 + a1))]) [0, 1] rfl ?_
    exact t_X6_write_21 hKp hT X hr hlk  h
  · have h := ix_iff q_5 h
    refine ix_ldcS (j := 4) (tx := "odd") X hT rfl (ix_tb_at tb_X6_write 7 rfl) (pc1 := 16) rfl ?_
    refine ix_goto (tgt := 21) X (ix_tb_at tb_X6_write 8 rfl) (by decide) ?_
    refine ix_sub (L1 := [(0, .ref (K.2.2.1 + a0)), (1, .ref (K.2.2.1 + a1))]) [0, 1] rfl ?_
    exact t_X6_write_21 hKp hT X hr hlk  h
def tab_X7_remove : List (Nat × Instr × Nat) := [(0, .aload_n 0, 1), (1, .iload_n 1, 1), (2, .invokevirtual 28, 3), (5, .ifCond .ne 4, 3), (8, .return_, 1), (9, .aload_n 0, 1), (10, .iload_n 1, 1), (11, .invokevirtual 32, 3), (14, .istore_n 2, 1), (15, .aload_n 0, 1), (16, .getfield 9, 3), (19, .aload_n 0, 1), (20, .getfield 15, 3), (23, .iload_n 1, 1), (24, .iconst 1, 1), (25, .iadd, 1), (26, .iaload, 1), (27, .aload_n 0, 1), (28, .getfield 9, 3), (31, .aload_n 0, 1), (32, .getfield 15, 3), (35, .iload_n 1, 1), (36, .iaload, 1), (37, .aload_n 0, 1), (38, .getfield 15, 3), (41, .aload_n 0, 1), (42, .getfield 18, 3), (45, .iaload, 1), (46, .aload_n 0, 1), (47, .getfield 15, 3), (50, .iload_n 1, 1), (51, .iconst 1, 1), (52, .iadd, 1), (53, .iaload, 1), (54, .isub, 1), (55, .invokestatic 22, 3), (58, .iload_n 1, 1), (59, .iconst 1, 1), (60, .iadd, 1), (61, .istore_n 3, 1), (62, .iload_n 3, 1), (63, .aload_n 0, 1), (64, .getfield 18, 3), (67, .if_icmp .ge 25, 3), (70, .aload_n 0, 1), (71, .getfield 15, 3), (74, .iload_n 3, 1), (75, .aload_n 0, 1), (76, .getfield 15, 3), (79, .iload_n 3, 1), (80, .iconst 1, 1), (81, .iadd, 1), (82, .iaload, 1), (83, .iload_n 2, 1), (84, .isub, 1), (85, .iastore, 1), (86, .iinc 3 1, 3), (89, .goto (-27), 3), (92, .aload_n 0, 1), (93, .dup, 1), (94, .getfield 18, 3), (97, .iconst 1, 1), (98, .isub, 1), (99, .putfield 18, 3), (102, .return_, 1)]
theorem tb_X7_remove : ix_tab cX7_remove tab_X7_remove := by
  unfold ix_tab
  decide +kernel
noncomputable def b_X7_remove_62 (n : Nat) (z : ix_Z)  (a0 : Nat) (x2 : Int32) (rec62 : Int32 → ix_D2 → Option (ix_D2)) (x3 : Int32) (d : ix_D2) : Option (ix_D2) :=
  ix_ck (ix_ok z [7] a0) (ix_if (d.1 a0 2 ≤ x3) (ix_lt (ix_di d a0 2 ((d.1 a0 2) - 1)) (fun d_23 => some d_23)) (ix_bd1 (z.1 a0 1) (fun b_25 => ix_ck (ix_ix z 20 b_25 (x3 + 1)) (ix_ck (ix_ix z 20 b_25 x3) (ix_lt (ix_di d b_25 (ix_n x3) ((d.1 b_25 (ix_n (x3 + 1))) - x2)) (fun d_29 => ix_lt (x3 + 1) (fun x3_31 => rec62 x3_31 d_29)))))))
noncomputable def f_X7_remove_62 (n : Nat) (z : ix_Z)  (a0 : Nat) (x2 : Int32) (x3 : Int32) (d : ix_D2) : Option (ix_D2) := ix_fix (b_X7_remove_62 n z  a0 x2) (fun _ _ => none) n x3 d
noncomputable def f_X7_remove (n : Nat) (z : ix_Z) (a0 : Nat) (x1 : Int32) (d : ix_D2) : Option (ix_D2) :=
  ix_ck (ix_ok z [7] a0) (ix_bd2 (f_X7_has n z a0 x1 d) (fun r_4 d_1 => ix_if (r_4 = 0) (some d_1) (ix_bd2 (f_X7_size n z a0 x1 d_1) (fun r_8 d_6 => ix_bd1 (z.1 a0 0) (fun b_9 => ix_bd1 (z.1 a0 1) (fun b_11 => ix_ck (ix_ix z 20 b_11 (x1 + 1)) (ix_ck (ix_ix z 20 b_11 x1) (ix_ck (ix_ix z 20 b_11 (d_6.1 a0 2)) (ix_ck (ix_cpk z 20 b_9 (d_6.1 b_11 (ix_n (x1 + 1))) b_9 (d_6.1 b_11 (ix_n x1)) ((d_6.1 b_11 (ix_n (d_6.1 a0 2))) - (d_6.1 b_11 (ix_n (x1 + 1))))) (ix_lt (ix_cpI d_6 b_9 b_9 (ix_n (d_6.1 b_11 (ix_n (x1 + 1)))) (ix_n (d_6.1 b_11 (ix_n x1))) (ix_n ((d_6.1 b_11 (ix_n (d_6.1 a0 2))) - (d_6.1 b_11 (ix_n (x1 + 1)))))) (fun d_17 => ix_lt (x1 + 1) (fun x3_19 => f_X7_remove_62 n z  a0 r_8 x3_19 d_17))))))))))))
set_option maxRecDepth 20000 in
theorem tb_X7_remove_62 {l : Launch} {p : Program} {e : Env} {s : State} {m : MethodId} {args : Array Value} {below : List Frame} {meth : Method} {c : Code} {K : ix_Cx} (hKp : ix_Kp K) {n : Nat} {z : ix_Z} (hsz : s.heap.size + 0 = K.2.2.1 + z.2.2) (X : ix_X p s m args c K cX7_remove RX7 4) (hr : meth.sig.returnType = (none : Option Jvm.ClassFile.FieldType)) (hlk : meth.locks = false)  {a0 : Nat} {x2 : Int32} {rec62 : Int32 → ix_D2 → Option (ix_D2)} {d1 : ix_D2} (hrec62 : ∀ (x3 : Int32) (d : ix_D2), rec62 x3 d = some d1 → ix_G p l e (ix_rm 2 42 0 0) s m args below meth c (MQ below (ix_Post K none (ix_w z d1)) args s 0 0 (ix_A K)) K 4 0 0 62 [(0, .ref (K.2.2.1 + a0)), (2, .int x2), (3, .int x3)] [] (ix_w z d)) {x3 : Int32} {d : ix_D2} (h : b_X7_remove_62 n z  a0 x2 rec62 x3 d = some d1) : ix_G p l e (ix_rm 2 42 0 0) s m args below meth c (MQ below (ix_Post K none (ix_w z d1)) args s 0 0 (ix_A K)) K 4 0 0 62 [(0, .ref (K.2.2.1 + a0)), (2, .int x2), (3, .int x3)] [] (ix_w z d) := by
  unfold b_X7_remove_62 at h
  refine ix_iload_n (i := 3) (j := 2) X (ix_tb_at tb_X7_remove 40 rfl) rfl rfl (pc1 := 63) rfl ?_
  refine ix_aload_n (i := 0) (j := 0) X (ix_tb_at tb_X7_remove 41 rfl) rfl rfl (pc1 := 64) rfl ?_
  obtain ⟨k_21, h⟩ := ix_ck_some h
  refine iz_getI X fl_RX7_18 k_21 (ix_tb_at tb_X7_remove 42 rfl) (pc1 := 67) rfl ?_
  refine ix_icmp_ge (tgt := 92) X (ix_tb_at tb_X7_remove 43 rfl) (by decide) (pc1 := 70) rfl (fun q_22 => ?_) (fun q_22 => ?_)
  · have h := ix_ift q_22 h
    refine ix_aload_n (i := 0) (j := 0) X (ix_tb_at tb_X7_remove 58 rfl) rfl rfl (pc1 := 93) rfl ?_
    refine ix_dup X (ix_tb_at tb_X7_remove 59 rfl) rfl (pc1 := 94) rfl ?_
    refine iz_getI X fl_RX7_18 k_21 (ix_tb_at tb_X7_remove 60 rfl) (pc1 := 97) rfl ?_
    refine ix_iconst (v := 1) X (ix_tb_at tb_X7_remove 61 rfl) (by decide) (pc1 := 98) rfl ?_
    refine ix_isub X (ix_tb_at tb_X7_remove 62 rfl) (pc1 := 99) rfl ?_
    obtain ⟨d_23, e_24, h⟩ := ix_lt_ex h
    refine iz_putI X fp_RX7_18 k_21 (ix_tb_at tb_X7_remove 63 rfl) e_24 (pc1 := 102) rfl ?_
    exact ix_vret X hr hlk (ix_r1 (g := ix_w z) h) (ix_tb_at tb_X7_remove 64 rfl)
  · have h := ix_iff q_22 h
    refine ix_aload_n (i := 0) (j := 0) X (ix_tb_at tb_X7_remove 44 rfl) rfl rfl (pc1 := 71) rfl ?_
    obtain ⟨b_25, q_26, h⟩ := ix_bd1_ex h
    refine iz_getR X fl_RX7_15 k_21 q_26 (ix_tb_at tb_X7_remove 45 rfl) (pc1 := 74) rfl ?_
    refine ix_iload_n (i := 3) (j := 2) X (ix_tb_at tb_X7_remove 46 rfl) rfl rfl (pc1 := 75) rfl ?_
    refine ix_aload_n (i := 0) (j := 0) X (ix_tb_at tb_X7_remove 47 rfl) rfl rfl (pc1 := 76) rfl ?_
    refine iz_getR X fl_RX7_15 k_21 q_26 (ix_tb_at tb_X7_remove 48 rfl) (pc1 := 79) rfl ?_
    refine ix_iload_n (i := 3) (j := 2) X (ix_tb_at tb_X7_remove 49 rfl) rfl rfl (pc1 := 80) rfl ?_
    refine ix_iconst (v := 1) X (ix_tb_at tb_X7_remove 50 rfl) (by decide) (pc1 := 81) rfl ?_
    refine ix_iadd X (ix_tb_at tb_X7_remove 51 rfl) (pc1 := 82) rfl ?_
    obtain ⟨k_27, h⟩ := ix_ck_some h
    refine iz_iald X k_27 (ix_tb_at tb_X7_remove 52 rfl) (pc1 := 83) rfl ?_
    refine ix_iload_n (i := 2) (j := 1) X (ix_tb_at tb_X7_remove 53 rfl) rfl rfl (pc1 := 84) rfl ?_
    refine ix_isub X (ix_tb_at tb_X7_remove 54 rfl) (pc1 := 85) rfl ?_
    obtain ⟨k_28, h⟩ := ix_ck_some h
    obtain ⟨d_29, e_30, h⟩ := ix_lt_ex h
    refine iz_iast X k_28 (ix_tb_at tb_X7_remove 55 rfl) e_30 (pc1 := 86) rfl ?_
    obtain ⟨x3_31, e_32, h⟩ := ix_lt_ex h
    refine ix_iinc (i := 3) (j := 2) (v := x3_31) (L1 := [(3, .int x3_31), (0, .ref (K.2.2.1 + a0)), (2, .int x2)]) X (ix_tb_at tb_X7_remove 56 rfl) rfl (by rw [oi_1]; exact e_32.symm) (Nat.le_of_ble_eq_true rfl) rfl (pc1 := 89) rfl ?_
    refine ix_goto (tgt := 62) X (ix_tb_at tb_X7_remove 57 rfl) (by decide) ?_
    refine ix_sub (L1 := [(0, .ref (K.2.2.1 + a0)), (2, .int x2), (3, .int x3_31)]) [1, 2, 0] rfl ?_
    exact hrec62 x3_31 d_29 h
theorem t_X7_remove_62 {l : Launch} {p : Program} {e : Env} {s : State} {m : MethodId} {args : Array Value} {below : List Frame} {meth : Method} {c : Code} {K : ix_Cx} (hKp : ix_Kp K) {n : Nat} {z : ix_Z} (hsz : s.heap.size + 0 = K.2.2.1 + z.2.2) (X : ix_X p s m args c K cX7_remove RX7 4) (hr : meth.sig.returnType = (none : Option Jvm.ClassFile.FieldType)) (hlk : meth.locks = false)  {a0 : Nat} {x2 : Int32} {d1 : ix_D2}  {x3 : Int32} {d : ix_D2} (h : f_X7_remove_62 n z  a0 x2 x3 d = some d1) : ix_G p l e (ix_rm 2 42 0 0) s m args below meth c (MQ below (ix_Post K none (ix_w z d1)) args s 0 0 (ix_A K)) K 4 0 0 62 [(0, .ref (K.2.2.1 + a0)), (2, .int x2), (3, .int x3)] [] (ix_w z d) := by
  have key : ∀ (f : Nat) (x3 : Int32) (d : ix_D2), ix_fix (b_X7_remove_62 n z  a0 x2) (fun _ _ => none) f x3 d = some d1 → ix_G p l e (ix_rm 2 42 0 0) s m args below meth c (MQ below (ix_Post K none (ix_w z d1)) args s 0 0 (ix_A K)) K 4 0 0 62 [(0, .ref (K.2.2.1 + a0)), (2, .int x2), (3, .int x3)] [] (ix_w z d) := by
    intro f
    induction f with
    | zero =>
      intro x3 d h
      have h : (none : Option (ix_D2)) = some d1 := h
      cases h
    | succ f ih =>
      intro x3 d h
      exact tb_X7_remove_62 hKp hsz X hr hlk (rec62 := ix_fix (b_X7_remove_62 n z  a0 x2) (fun _ _ => none) f)  ih h
  exact key n x3 d h
set_option maxRecDepth 20000 in
theorem c_X7_remove {l : Launch} {K : ix_Cx} (hKp : ix_Kp K) {n : Nat} {z : ix_Z} {a0 : Nat} {x1 : Int32} {d : ix_D2} {d1 : ix_D2} (h : f_X7_remove n z a0 x1 d = some d1) : ix_M l K yX7_remove cX7_remove 4 (none : Option Jvm.ClassFile.FieldType) 2 42 0 0 [.ref (K.2.2.1 + a0), .int x1] (ix_w z d) none (ix_w z d1) := by
  refine ix_met2 mf_X7_remove hKp (Nat.le_of_ble_eq_true rfl) ?_
  intro p e s m args below meth c hr hlk hnm hsz X
  have X : ix_X p s m args c K cX7_remove RX7 4 := X
  show ix_G p l e (ix_rm 2 42 0 0) s m args below meth c (MQ below (ix_Post K none (ix_w z d1)) args s 0 0 (ix_A K)) K 4 0 0 0 [(0, .ref (K.2.2.1 + a0)), (1, .int x1)] [] (ix_w z d)
  unfold f_X7_remove at h
  refine ix_aload_n (i := 0) (j := 0) X (ix_tb_at tb_X7_remove 0 rfl) rfl rfl (pc1 := 1) rfl ?_
  refine ix_iload_n (i := 1) (j := 1) X (ix_tb_at tb_X7_remove 1 rfl) rfl rfl (pc1 := 2) rfl ?_
  obtain ⟨k_3, h⟩ := ix_ck_some h
  obtain ⟨r_4, d_1, h_2, h⟩ := ix_bd2_ex h
  refine ix_callV (As := [.int x1]) (rest := []) (ci := 7) (T := TX7) (nf := 3) X mf_X7_has mi_X7_has ms_X7_has rfl (Nat.le_of_ble_eq_true rfl) ml_RX7_28 ⟨Nat.le_of_ble_eq_true rfl, Nat.le_of_ble_eq_true rfl⟩ ⟨Nat.le_of_ble_eq_true rfl, Nat.le_of_ble_eq_true rfl⟩ rfl (Nat.le_of_ble_eq_true rfl) (ix_tb_at tb_X7_remove 2 rfl) ⟨k_3.1, List.mem_singleton.mp k_3.2⟩ (c_X7_has hKp h_2) rfl (pc1 := 5) rfl ?_
  refine ix_if_ne (tgt := 9) X (ix_tb_at tb_X7_remove 3 rfl) (by decide) (pc1 := 8) rfl (fun q_5 => ?_) (fun q_5 => ?_)
  · have h := ix_iff q_5 h
    refine ix_aload_n (i := 0) (j := 0) X (ix_tb_at tb_X7_remove 5 rfl) rfl rfl (pc1 := 10) rfl ?_
    refine ix_iload_n (i := 1) (j := 1) X (ix_tb_at tb_X7_remove 6 rfl) rfl rfl (pc1 := 11) rfl ?_
    obtain ⟨r_8, d_6, h_7, h⟩ := ix_bd2_ex h
    refine ix_callV (As := [.int x1]) (rest := []) (ci := 7) (T := TX7) (nf := 3) X mf_X7_size mi_X7_size ms_X7_size rfl (Nat.le_of_ble_eq_true rfl) ml_RX7_32 ⟨Nat.le_of_ble_eq_true rfl, Nat.le_of_ble_eq_true rfl⟩ ⟨Nat.le_of_ble_eq_true rfl, Nat.le_of_ble_eq_true rfl⟩ rfl (Nat.le_of_ble_eq_true rfl) (ix_tb_at tb_X7_remove 7 rfl) ⟨k_3.1, List.mem_singleton.mp k_3.2⟩ (c_X7_size hKp h_7) rfl (pc1 := 14) rfl ?_
    refine ix_istore_n (i := 2) (L1 := [(2, .int r_8), (0, .ref (K.2.2.1 + a0)), (1, .int x1)]) X (ix_tb_at tb_X7_remove 8 rfl) rfl (Nat.le_of_ble_eq_true rfl) rfl (pc1 := 15) rfl ?_
    refine ix_aload_n (i := 0) (j := 1) X (ix_tb_at tb_X7_remove 9 rfl) rfl rfl (pc1 := 16) rfl ?_
    obtain ⟨b_9, q_10, h⟩ := ix_bd1_ex h
    refine iz_getR X fl_RX7_9 k_3 q_10 (ix_tb_at tb_X7_remove 10 rfl) (pc1 := 19) rfl ?_
    refine ix_aload_n (i := 0) (j := 1) X (ix_tb_at tb_X7_remove 11 rfl) rfl rfl (pc1 := 20) rfl ?_
    obtain ⟨b_11, q_12, h⟩ := ix_bd1_ex h
    refine iz_getR X fl_RX7_15 k_3 q_12 (ix_tb_at tb_X7_remove 12 rfl) (pc1 := 23) rfl ?_
    refine ix_iload_n (i := 1) (j := 2) X (ix_tb_at tb_X7_remove 13 rfl) rfl rfl (pc1 := 24) rfl ?_
    refine ix_iconst (v := 1) X (ix_tb_at tb_X7_remove 14 rfl) (by decide) (pc1 := 25) rfl ?_
    refine ix_iadd X (ix_tb_at tb_X7_remove 15 rfl) (pc1 := 26) rfl ?_
    obtain ⟨k_13, h⟩ := ix_ck_some h
    refine iz_iald X k_13 (ix_tb_at tb_X7_remove 16 rfl) (pc1 := 27) rfl ?_
    refine ix_aload_n (i := 0) (j := 1) X (ix_tb_at tb_X7_remove 17 rfl) rfl rfl (pc1 := 28) rfl ?_
    refine iz_getR X fl_RX7_9 k_3 q_10 (ix_tb_at tb_X7_remove 18 rfl) (pc1 := 31) rfl ?_
    refine ix_aload_n (i := 0) (j := 1) X (ix_tb_at tb_X7_remove 19 rfl) rfl rfl (pc1 := 32) rfl ?_
    refine iz_getR X fl_RX7_15 k_3 q_12 (ix_tb_at tb_X7_remove 20 rfl) (pc1 := 35) rfl ?_
    refine ix_iload_n (i := 1) (j := 2) X (ix_tb_at tb_X7_remove 21 rfl) rfl rfl (pc1 := 36) rfl ?_
    obtain ⟨k_14, h⟩ := ix_ck_some h
    refine iz_iald X k_14 (ix_tb_at tb_X7_remove 22 rfl) (pc1 := 37) rfl ?_
    refine ix_aload_n (i := 0) (j := 1) X (ix_tb_at tb_X7_remove 23 rfl) rfl rfl (pc1 := 38) rfl ?_
    refine iz_getR X fl_RX7_15 k_3 q_12 (ix_tb_at tb_X7_remove 24 rfl) (pc1 := 41) rfl ?_
    refine ix_aload_n (i := 0) (j := 1) X (ix_tb_at tb_X7_remove 25 rfl) rfl rfl (pc1 := 42) rfl ?_
    refine iz_getI X fl_RX7_18 k_3 (ix_tb_at tb_X7_remove 26 rfl) (pc1 := 45) rfl ?_
    obtain ⟨k_15, h⟩ := ix_ck_some h
    refine iz_iald X k_15 (ix_tb_at tb_X7_remove 27 rfl) (pc1 := 46) rfl ?_
    refine ix_aload_n (i := 0) (j := 1) X (ix_tb_at tb_X7_remove 28 rfl) rfl rfl (pc1 := 47) rfl ?_
    refine iz_getR X fl_RX7_15 k_3 q_12 (ix_tb_at tb_X7_remove 29 rfl) (pc1 := 50) rfl ?_
    refine ix_iload_n (i := 1) (j := 2) X (ix_tb_at tb_X7_remove 30 rfl) rfl rfl (pc1 := 51) rfl ?_
    refine ix_iconst (v := 1) X (ix_tb_at tb_X7_remove 31 rfl) (by decide) (pc1 := 52) rfl ?_
    refine ix_iadd X (ix_tb_at tb_X7_remove 32 rfl) (pc1 := 53) rfl ?_
    refine iz_iald X k_13 (ix_tb_at tb_X7_remove 33 rfl) (pc1 := 54) rfl ?_
    refine ix_isub X (ix_tb_at tb_X7_remove 34 rfl) (pc1 := 55) rfl ?_
    obtain ⟨k_16, h⟩ := ix_ck_some h
    obtain ⟨d_17, e_18, h⟩ := ix_lt_ex h
    refine iz_copyI X hsz (Or.inl rfl) ml_RX7_22 k_16 (Nat.le_of_ble_eq_true rfl) (Nat.le_of_ble_eq_true rfl) (ix_tb_at tb_X7_remove 35 rfl) e_18 (pc1 := 58) rfl ?_
    refine ix_iload_n (i := 1) (j := 2) X (ix_tb_at tb_X7_remove 36 rfl) rfl rfl (pc1 := 59) rfl ?_
    refine ix_iconst (v := 1) X (ix_tb_at tb_X7_remove 37 rfl) (by decide) (pc1 := 60) rfl ?_
    refine ix_iadd X (ix_tb_at tb_X7_remove 38 rfl) (pc1 := 61) rfl ?_
    obtain ⟨x3_19, e_20, h⟩ := ix_lt_ex h
    refine ix_nmi e_20 ?_
    refine ix_istore_n (i := 3) (L1 := [(3, .int x3_19), (2, .int r_8), (0, .ref (K.2.2.1 + a0)), (1, .int x1)]) X (ix_tb_at tb_X7_remove 39 rfl) rfl (Nat.le_of_ble_eq_true rfl) rfl (pc1 := 62) rfl ?_
    refine ix_sub (L1 := [(0, .ref (K.2.2.1 + a0)), (2, .int r_8), (3, .int x3_19)]) [2, 1, 0] rfl ?_
    exact t_X7_remove_62 hKp hsz X hr hlk  h
  · have h := ix_ift q_5 h
    exact ix_vret X hr hlk (ix_r1 (g := ix_w z) h) (ix_tb_at tb_X7_remove 4 rfl)
def tab_X8_laid : List (Nat × Instr × Nat) := [(0, .aload_n 1, 1), (1, .bipush 53, 2), (3, .invokevirtual 13, 3), (6, .aload_n 0, 1), (7, .getfield 19, 3), (10, .ireturn, 1)]
theorem tb_X8_laid : ix_tab cX8_laid tab_X8_laid := by
  unfold ix_tab
  decide +kernel
noncomputable def f_X8_laid (n : Nat) (z : ix_Z) (a0 : Nat) (a1 : Nat) (d : ix_D2) : Option (Int32 × ix_D2) :=
  ix_ck (ix_ok z [4] a1) (ix_bd1 (f_X4_note n z a1 53 d) (fun d_1 => ix_ck (ix_ok z [0, 3, 5, 6, 9] a0) (some (d_1.1 a0 2, d_1))))
set_option maxRecDepth 20000 in
theorem c_X8_laid {l : Launch} {K : ix_Cx} (hKp : ix_Kp K) {n : Nat} {z : ix_Z} {a0 : Nat} {a1 : Nat} {d : ix_D2} {r : Int32} {d1 : ix_D2} (h : f_X8_laid n z a0 a1 d = some (r, d1)) : ix_M l K yX8_laid cX8_laid 2 (some .int) 1 21 0 0 [.ref (K.2.2.1 + a0), .ref (K.2.2.1 + a1)] (ix_w z d) (some (.int r)) (ix_w z d1) := by
  refine ix_met mf_X8_laid hKp (Nat.le_of_ble_eq_true rfl) ?_
  intro p e s m args below meth c hr hlk hnm X
  have X : ix_X p s m args c K cX8_laid RX8 2 := X
  show ix_G p l e (ix_rm 1 21 0 0) s m args below meth c (MQ below (ix_Post K (some (.int r)) (ix_w z d1)) args s 0 0 (ix_A K)) K 2 0 0 0 [(0, .ref (K.2.2.1 + a0)), (1, .ref (K.2.2.1 + a1))] [] (ix_w z d)
  unfold f_X8_laid at h
  refine ix_aload_n (i := 1) (j := 1) X (ix_tb_at tb_X8_laid 0 rfl) rfl rfl (pc1 := 1) rfl ?_
  refine ix_bipush (v := 53) X (ix_tb_at tb_X8_laid 1 rfl) (by decide) (pc1 := 3) rfl ?_
  obtain ⟨k_3, h⟩ := ix_ck_some h
  obtain ⟨d_1, h_2, h⟩ := ix_bd1_ex h
  refine ix_callV (As := [.int 53]) (rest := []) (ci := 4) (T := TX4) (nf := 17) X mf_X4_note mi_X4_note ms_X4_note rfl (Nat.le_of_ble_eq_true rfl) ml_RX8_13 ⟨Nat.le_of_ble_eq_true rfl, Nat.le_of_ble_eq_true rfl⟩ ⟨Nat.le_of_ble_eq_true rfl, Nat.le_of_ble_eq_true rfl⟩ rfl (Nat.le_of_ble_eq_true rfl) (ix_tb_at tb_X8_laid 2 rfl) ⟨k_3.1, List.mem_singleton.mp k_3.2⟩ (c_X4_note hKp h_2) rfl (pc1 := 6) rfl ?_
  refine ix_aload_n (i := 0) (j := 0) X (ix_tb_at tb_X8_laid 3 rfl) rfl rfl (pc1 := 7) rfl ?_
  obtain ⟨k_4, h⟩ := ix_ck_some h
  refine iz_getI X fl_RX8_19 k_4 (ix_tb_at tb_X8_laid 4 rfl) (pc1 := 10) rfl ?_
  exact ix_iret X hr hlk (ix_r2 (f := fun r => some (.int r)) (g := ix_w z) h) (ix_tb_at tb_X8_laid 5 rfl)
def tab_X9_openBoard : List (Nat × Instr × Nat) := [(0, .aload_n 0, 1), (1, .getfield 12, 3), (4, .aload_n 1, 1), (5, .getfield 68, 3), (8, .invokevirtual 74, 3), (11, .iconst 1, 1), (12, .istore_n 2, 1), (13, .iload_n 2, 1), (14, .aload_n 1, 1), (15, .getfield 68, 3), (18, .if_icmp .gt 22, 3), (21, .aload_n 0, 1), (22, .getfield 27, 3), (25, .iload_n 2, 1), (26, .aload_n 1, 1), (27, .getfield 78, 3), (30, .iload_n 2, 1), (31, .iaload, 1), (32, .i2l, 1), (33, .lastore, 1), (34, .iinc 2 1, 3), (37, .goto (-24), 3), (40, .aload_n 0, 1), (41, .ldc2_w 80, 3), (44, .putfield 82, 3), (47, .aload_n 0, 1), (48, .iconst 0, 1), (49, .putfield 86, 3), (52, .aload_n 0, 1), (53, .aload_n 1, 1), (54, .getfield 89, 3), (57, .putfield 92, 3), (60, .aload_n 0, 1), (61, .aload_n 1, 1), (62, .getfield 93, 3), (65, .putfield 96, 3), (68, .aload_n 0, 1), (69, .iconst 0, 1), (70, .putfield 97, 3), (73, .aload_n 0, 1), (74, .getfield 47, 3), (77, .iconst 0, 1), (78, .invokestatic 62, 3), (81, .aload_n 0, 1), (82, .getfield 50, 3), (85, .sipush (-1005), 3), (88, .invokestatic 62, 3), (91, .return_, 1)]
theorem tb_X9_openBoard : ix_tab cX9_openBoard tab_X9_openBoard := by
  unfold ix_tab
  decide +kernel
noncomputable def b_X9_openBoard_13 (n : Nat) (z : ix_Z)  (a0 : Nat) (a1 : Nat) (rec13 : Int32 → ix_D2 → Option (ix_D2)) (x2 : Int32) (d : ix_D2) : Option (ix_D2) :=
  ix_ck (ix_ok z [2] a1) (ix_if (d.1 a1 5 < x2) (ix_ck (ix_ok z [8] a0) (ix_lt (ix_dj d a0 3 64) (fun d_11 => ix_lt (ix_di d_11 a0 5 0) (fun d_13 => ix_lt (ix_di d_13 a0 17 (d_13.1 a1 8)) (fun d_15 => ix_lt (ix_di d_15 a0 18 (d_15.1 a1 9)) (fun d_17 => ix_lt (ix_di d_17 a0 19 0) (fun d_19 => ix_bd1 (z.1 a0 10) (fun b_21 => ix_bd1 (f_J7_fill_53178 n z b_21 0 d_19) (fun d_23 => ix_bd1 (z.1 a0 11) (fun b_25 => ix_bd1 (f_J7_fill_53178 n z b_25 ((-1005)) d_23) (fun d_27 => some d_27))))))))))) (ix_ck (ix_ok z [8] a0) (ix_bd1 (z.1 a0 2) (fun b_30 => ix_bd1 (z.1 a1 1) (fun b_32 => ix_ck (ix_ix z 20 b_32 x2) (ix_ck (ix_ix z 23 b_30 x2) (ix_lt (ix_dj d b_30 (ix_n x2) ((d.1 b_32 (ix_n x2)).toInt64)) (fun d_36 => ix_lt (x2 + 1) (fun x2_38 => rec13 x2_38 d_36)))))))))
noncomputable def f_X9_openBoard_13 (n : Nat) (z : ix_Z)  (a0 : Nat) (a1 : Nat) (x2 : Int32) (d : ix_D2) : Option (ix_D2) := ix_fix (b_X9_openBoard_13 n z  a0 a1) (fun _ _ => none) n x2 d
noncomputable def f_X9_openBoard (n : Nat) (z : ix_Z) (a0 : Nat) (a1 : Nat) (d : ix_D2) : Option (ix_D2) :=
  ix_ck (ix_ok z [8] a0) (ix_bd1 (z.1 a0 0) (fun b_2 => ix_ck (ix_ok z [2] a1) (ix_ck (ix_ok z [1] b_2) (ix_bd1 (f_X1_clear n z b_2 (d.1 a1 5) d) (fun d_5 => f_X9_openBoard_13 n z  a0 a1 1 d_5)))))
set_option maxRecDepth 20000 in
theorem tb_X9_openBoard_13 {l : Launch} {p : Program} {e : Env} {s : State} {m : MethodId} {args : Array Value} {below : List Frame} {meth : Method} {c : Code} {K : ix_Cx} (hKp : ix_Kp K) {n : Nat} {z : ix_Z} (X : ix_X p s m args c K cX9_openBoard RX9 3) (hr : meth.sig.returnType = (none : Option Jvm.ClassFile.FieldType)) (hlk : meth.locks = false)  {a0 : Nat} {a1 : Nat} {rec13 : Int32 → ix_D2 → Option (ix_D2)} {d1 : ix_D2} (hrec13 : ∀ (x2 : Int32) (d : ix_D2), rec13 x2 d = some d1 → ix_G p l e (ix_rm 2 45 0 0) s m args below meth c (MQ below (ix_Post K none (ix_w z d1)) args s 0 0 (ix_A K)) K 3 0 0 13 [(0, .ref (K.2.2.1 + a0)), (1, .ref (K.2.2.1 + a1)), (2, .int x2)] [] (ix_w z d)) {x2 : Int32} {d : ix_D2} (h : b_X9_openBoard_13 n z  a0 a1 rec13 x2 d = some d1) : ix_G p l e (ix_rm 2 45 0 0) s m args below meth c (MQ below (ix_Post K none (ix_w z d1)) args s 0 0 (ix_A K)) K 3 0 0 13 [(0, .ref (K.2.2.1 + a0)), (1, .ref (K.2.2.1 + a1)), (2, .int x2)] [] (ix_w z d) := by
  unfold b_X9_openBoard_13 at h
  refine ix_iload_n (i := 2) (j := 2) X (ix_tb_at tb_X9_openBoard 7 rfl) rfl rfl (pc1 := 14) rfl ?_
  refine ix_aload_n (i := 1) (j := 1) X (ix_tb_at tb_X9_openBoard 8 rfl) rfl rfl (pc1 := 15) rfl ?_
  obtain ⟨k_8, h⟩ := ix_ck_some h
  refine iz_getI X fl_RX9_68 k_8 (ix_tb_at tb_X9_openBoard 9 rfl) (pc1 := 18) rfl ?_
  refine ix_icmp_gt (tgt := 40) X (ix_tb_at tb_X9_openBoard 10 rfl) (by decide) (pc1 := 21) rfl (fun q_9 => ?_) (fun q_9 => ?_)
  · have h := ix_ift q_9 h
    refine ix_aload_n (i := 0) (j := 0) X (ix_tb_at tb_X9_openBoard 22 rfl) rfl rfl (pc1 := 41) rfl ?_
    refine ix_ldc2 (pl := 1151) (v := 64) X (ix_tb_at tb_X9_openBoard 23 rfl) (by decide +kernel) (pc1 := 44) rfl ?_
    obtain ⟨k_10, h⟩ := ix_ck_some h
    obtain ⟨d_11, e_12, h⟩ := ix_lt_ex h
    refine iz_putJ X fp_RX9_82 k_10 (ix_tb_at tb_X9_openBoard 24 rfl) e_12 (pc1 := 47) rfl ?_
    refine ix_aload_n (i := 0) (j := 0) X (ix_tb_at tb_X9_openBoard 25 rfl) rfl rfl (pc1 := 48) rfl ?_
    refine ix_iconst (v := 0) X (ix_tb_at tb_X9_openBoard 26 rfl) (by decide) (pc1 := 49) rfl ?_
    obtain ⟨d_13, e_14, h⟩ := ix_lt_ex h
    refine iz_putI X fp_RX9_86 k_10 (ix_tb_at tb_X9_openBoard 27 rfl) e_14 (pc1 := 52) rfl ?_
    refine ix_aload_n (i := 0) (j := 0) X (ix_tb_at tb_X9_openBoard 28 rfl) rfl rfl (pc1 := 53) rfl ?_
    refine ix_aload_n (i := 1) (j := 1) X (ix_tb_at tb_X9_openBoard 29 rfl) rfl rfl (pc1 := 54) rfl ?_
    refine iz_getI X fl_RX9_89 k_8 (ix_tb_at tb_X9_openBoard 30 rfl) (pc1 := 57) rfl ?_
    obtain ⟨d_15, e_16, h⟩ := ix_lt_ex h
    refine iz_putI X fp_RX9_92 k_10 (ix_tb_at tb_X9_openBoard 31 rfl) e_16 (pc1 := 60) rfl ?_
    refine ix_aload_n (i := 0) (j := 0) X (ix_tb_at tb_X9_openBoard 32 rfl) rfl rfl (pc1 := 61) rfl ?_
    refine ix_aload_n (i := 1) (j := 1) X (ix_tb_at tb_X9_openBoard 33 rfl) rfl rfl (pc1 := 62) rfl ?_
    refine iz_getI X fl_RX9_93 k_8 (ix_tb_at tb_X9_openBoard 34 rfl) (pc1 := 65) rfl ?_
    obtain ⟨d_17, e_18, h⟩ := ix_lt_ex h
    refine iz_putI X fp_RX9_96 k_10 (ix_tb_at tb_X9_openBoard 35 rfl) e_18 (pc1 := 68) rfl ?_
    refine ix_aload_n (i := 0) (j := 0) X (ix_tb_at tb_X9_openBoard 36 rfl) rfl rfl (pc1 := 69) rfl ?_
    refine ix_iconst (v := 0) X (ix_tb_at tb_X9_openBoard 37 rfl) (by decide) (pc1 := 70) rfl ?_
    obtain ⟨d_19, e_20, h⟩ := ix_lt_ex h
    refine iz_putI X fp_RX9_97 k_10 (ix_tb_at tb_X9_openBoard 38 rfl) e_20 (pc1 := 73) rfl ?_
    refine ix_aload_n (i := 0) (j := 0) X (ix_tb_at tb_X9_openBoard 39 rfl) rfl rfl (pc1 := 74) rfl ?_
    obtain ⟨b_21, q_22, h⟩ := ix_bd1_ex h
    refine iz_getR X fl_RX9_47 k_10 q_22 (ix_tb_at tb_X9_openBoard 40 rfl) (pc1 := 77) rfl ?_
    refine ix_iconst (v := 0) X (ix_tb_at tb_X9_openBoard 41 rfl) (by decide) (pc1 := 78) rfl ?_
    obtain ⟨d_23, h_24, h⟩ := ix_bd1_ex h
    refine ix_callS (As := [.ref (K.2.2.1 + b_21), .int 0]) (rest := []) X mf_J7_fill_53178 st_J7_fill_53178 ml_RX9_62 ⟨Nat.le_of_ble_eq_true rfl, Nat.le_of_ble_eq_true rfl⟩ ⟨Nat.le_of_ble_eq_true rfl, Nat.le_of_ble_eq_true rfl⟩ rfl (Nat.le_of_ble_eq_true rfl) (ix_tb_at tb_X9_openBoard 42 rfl) (c_J7_fill_53178 hKp h_24) rfl (pc1 := 81) rfl ?_
    refine ix_aload_n (i := 0) (j := 0) X (ix_tb_at tb_X9_openBoard 43 rfl) rfl rfl (pc1 := 82) rfl ?_
    obtain ⟨b_25, q_26, h⟩ := ix_bd1_ex h
    refine iz_getR X fl_RX9_50 k_10 q_26 (ix_tb_at tb_X9_openBoard 44 rfl) (pc1 := 85) rfl ?_
    refine ix_sipush (v := (-1005)) X (ix_tb_at tb_X9_openBoard 45 rfl) (by decide) (pc1 := 88) rfl ?_
    obtain ⟨d_27, h_28, h⟩ := ix_bd1_ex h
    refine ix_callS (As := [.ref (K.2.2.1 + b_25), .int ((-1005))]) (rest := []) X mf_J7_fill_53178 st_J7_fill_53178 ml_RX9_62 ⟨Nat.le_of_ble_eq_true rfl, Nat.le_of_ble_eq_true rfl⟩ ⟨Nat.le_of_ble_eq_true rfl, Nat.le_of_ble_eq_true rfl⟩ rfl (Nat.le_of_ble_eq_true rfl) (ix_tb_at tb_X9_openBoard 46 rfl) (c_J7_fill_53178 hKp h_28) rfl (pc1 := 91) rfl ?_
    exact ix_vret X hr hlk (ix_r1 (g := ix_w z) h) (ix_tb_at tb_X9_openBoard 47 rfl)
  · have h := ix_iff q_9 h
    refine ix_aload_n (i := 0) (j := 0) X (ix_tb_at tb_X9_openBoard 11 rfl) rfl rfl (pc1 := 22) rfl ?_
    obtain ⟨k_29, h⟩ := ix_ck_some h
    obtain ⟨b_30, q_31, h⟩ := ix_bd1_ex h
    refine iz_getR X fl_RX9_27 k_29 q_31 (ix_tb_at tb_X9_openBoard 12 rfl) (pc1 := 25) rfl ?_
    refine ix_iload_n (i := 2) (j := 2) X (ix_tb_at tb_X9_openBoard 13 rfl) rfl rfl (pc1 := 26) rfl ?_
    refine ix_aload_n (i := 1) (j := 1) X (ix_tb_at tb_X9_openBoard 14 rfl) rfl rfl (pc1 := 27) rfl ?_
    obtain ⟨b_32, q_33, h⟩ := ix_bd1_ex h
    refine iz_getR X fl_RX9_78 k_8 q_33 (ix_tb_at tb_X9_openBoard 15 rfl) (pc1 := 30) rfl ?_
    refine ix_iload_n (i := 2) (j := 2) X (ix_tb_at tb_X9_openBoard 16 rfl) rfl rfl (pc1 := 31) rfl ?_
    obtain ⟨k_34, h⟩ := ix_ck_some h
    refine iz_iald X k_34 (ix_tb_at tb_X9_openBoard 17 rfl) (pc1 := 32) rfl ?_
    refine ix_i2l X (ix_tb_at tb_X9_openBoard 18 rfl) (pc1 := 33) rfl ?_
    obtain ⟨k_35, h⟩ := ix_ck_some h
    obtain ⟨d_36, e_37, h⟩ := ix_lt_ex h
    refine iz_last X k_35 (ix_tb_at tb_X9_openBoard 19 rfl) e_37 (pc1 := 34) rfl ?_
    obtain ⟨x2_38, e_39, h⟩ := ix_lt_ex h
    refine ix_iinc (i := 2) (j := 2) (v := x2_38) (L1 := [(2, .int x2_38), (0, .ref (K.2.2.1 + a0)), (1, .ref (K.2.2.1 + a1))]) X (ix_tb_at tb_X9_openBoard 20 rfl) rfl (by rw [oi_1]; exact e_39.symm) (Nat.le_of_ble_eq_true rfl) rfl (pc1 := 37) rfl ?_
    refine ix_goto (tgt := 13) X (ix_tb_at tb_X9_openBoard 21 rfl) (by decide) ?_
    refine ix_sub (L1 := [(0, .ref (K.2.2.1 + a0)), (1, .ref (K.2.2.1 + a1)), (2, .int x2_38)]) [1, 2, 0] rfl ?_
    exact hrec13 x2_38 d_36 h
theorem t_X9_openBoard_13 {l : Launch} {p : Program} {e : Env} {s : State} {m : MethodId} {args : Array Value} {below : List Frame} {meth : Method} {c : Code} {K : ix_Cx} (hKp : ix_Kp K) {n : Nat} {z : ix_Z} (X : ix_X p s m args c K cX9_openBoard RX9 3) (hr : meth.sig.returnType = (none : Option Jvm.ClassFile.FieldType)) (hlk : meth.locks = false)  {a0 : Nat} {a1 : Nat} {d1 : ix_D2}  {x2 : Int32} {d : ix_D2} (h : f_X9_openBoard_13 n z  a0 a1 x2 d = some d1) : ix_G p l e (ix_rm 2 45 0 0) s m args below meth c (MQ below (ix_Post K none (ix_w z d1)) args s 0 0 (ix_A K)) K 3 0 0 13 [(0, .ref (K.2.2.1 + a0)), (1, .ref (K.2.2.1 + a1)), (2, .int x2)] [] (ix_w z d) := by
  have key : ∀ (f : Nat) (x2 : Int32) (d : ix_D2), ix_fix (b_X9_openBoard_13 n z  a0 a1) (fun _ _ => none) f x2 d = some d1 → ix_G p l e (ix_rm 2 45 0 0) s m args below meth c (MQ below (ix_Post K none (ix_w z d1)) args s 0 0 (ix_A K)) K 3 0 0 13 [(0, .ref (K.2.2.1 + a0)), (1, .ref (K.2.2.1 + a1)), (2, .int x2)] [] (ix_w z d) := by
    intro f
    induction f with
    | zero =>
      intro x2 d h
      have h : (none : Option (ix_D2)) = some d1 := h
      cases h
    | succ f ih =>
      intro x2 d h
      exact tb_X9_openBoard_13 hKp X hr hlk (rec13 := ix_fix (b_X9_openBoard_13 n z  a0 a1) (fun _ _ => none) f)  ih h
  exact key n x2 d h
set_option maxRecDepth 20000 in
theorem c_X9_openBoard {l : Launch} {K : ix_Cx} (hKp : ix_Kp K) {n : Nat} {z : ix_Z} {a0 : Nat} {a1 : Nat} {d : ix_D2} {d1 : ix_D2} (h : f_X9_openBoard n z a0 a1 d = some d1) : ix_M l K yX9_openBoard cX9_openBoard 3 (none : Option Jvm.ClassFile.FieldType) 2 45 0 0 [.ref (K.2.2.1 + a0), .ref (K.2.2.1 + a1)] (ix_w z d) none (ix_w z d1) := by
  refine ix_met mf_X9_openBoard hKp (Nat.le_of_ble_eq_true rfl) ?_
  intro p e s m args below meth c hr hlk hnm X
  have X : ix_X p s m args c K cX9_openBoard RX9 3 := X
  show ix_G p l e (ix_rm 2 45 0 0) s m args below meth c (MQ below (ix_Post K none (ix_w z d1)) args s 0 0 (ix_A K)) K 3 0 0 0 [(0, .ref (K.2.2.1 + a0)), (1, .ref (K.2.2.1 + a1))] [] (ix_w z d)
  unfold f_X9_openBoard at h
  refine ix_aload_n (i := 0) (j := 0) X (ix_tb_at tb_X9_openBoard 0 rfl) rfl rfl (pc1 := 1) rfl ?_
  obtain ⟨k_1, h⟩ := ix_ck_some h
  obtain ⟨b_2, q_3, h⟩ := ix_bd1_ex h
  refine iz_getR X fl_RX9_12 k_1 q_3 (ix_tb_at tb_X9_openBoard 1 rfl) (pc1 := 4) rfl ?_
  refine ix_aload_n (i := 1) (j := 1) X (ix_tb_at tb_X9_openBoard 2 rfl) rfl rfl (pc1 := 5) rfl ?_
  obtain ⟨k_4, h⟩ := ix_ck_some h
  refine iz_getI X fl_RX9_68 k_4 (ix_tb_at tb_X9_openBoard 3 rfl) (pc1 := 8) rfl ?_
  obtain ⟨k_7, h⟩ := ix_ck_some h
  obtain ⟨d_5, h_6, h⟩ := ix_bd1_ex h
  refine ix_callV (As := [.int (d.1 a1 5)]) (rest := []) (ci := 1) (T := TX1) (nf := 17) X mf_X1_clear mi_X1_clear ms_X1_clear rfl (Nat.le_of_ble_eq_true rfl) ml_RX9_74 ⟨Nat.le_of_ble_eq_true rfl, Nat.le_of_ble_eq_true rfl⟩ ⟨Nat.le_of_ble_eq_true rfl, Nat.le_of_ble_eq_true rfl⟩ rfl (Nat.le_of_ble_eq_true rfl) (ix_tb_at tb_X9_openBoard 4 rfl) ⟨k_7.1, List.mem_singleton.mp k_7.2⟩ (c_X1_clear hKp h_6) rfl (pc1 := 11) rfl ?_
  refine ix_iconst (v := 1) X (ix_tb_at tb_X9_openBoard 5 rfl) (by decide) (pc1 := 12) rfl ?_
  refine ix_istore_n (i := 2) (L1 := [(2, .int 1), (0, .ref (K.2.2.1 + a0)), (1, .ref (K.2.2.1 + a1))]) X (ix_tb_at tb_X9_openBoard 6 rfl) rfl (Nat.le_of_ble_eq_true rfl) rfl (pc1 := 13) rfl ?_
  refine ix_sub (L1 := [(0, .ref (K.2.2.1 + a0)), (1, .ref (K.2.2.1 + a1)), (2, .int 1)]) [1, 2, 0] rfl ?_
  exact t_X9_openBoard_13 hKp X hr hlk  h
def tab_X9_layAll : List (Nat × Instr × Nat) := [(0, .iconst 0, 1), (1, .istore_n 2, 1), (2, .iload_n 2, 1), (3, .aload_n 1, 1), (4, .getfield 100, 3), (7, .if_icmp .ge 18, 3), (10, .aload_n 0, 1), (11, .getfield 12, 3), (14, .aload_n 1, 1), (15, .iload_n 2, 1), (16, .invokevirtual 103, 3), (19, .iinc 2 1, 3), (22, .goto (-20), 3), (25, .return_, 1)]
theorem tb_X9_layAll : ix_tab cX9_layAll tab_X9_layAll := by
  unfold ix_tab
  decide +kernel
noncomputable def b_X9_layAll_2 (n : Nat) (z : ix_Z)  (a0 : Nat) (a1 : Nat) (rec2 : Int32 → ix_D2 → Option (ix_D2)) (x2 : Int32) (d : ix_D2) : Option (ix_D2) :=
  ix_ck (ix_ok z [7] a1) (ix_if (d.1 a1 2 ≤ x2) (some d) (ix_ck (ix_ok z [8] a0) (ix_bd1 (z.1 a0 0) (fun b_4 => ix_ck (ix_ok z [1] b_4) (ix_bd1 (f_X1_layRow n z b_4 a1 x2 d) (fun d_6 => ix_lt (x2 + 1) (fun x2_9 => rec2 x2_9 d_6)))))))
noncomputable def f_X9_layAll_2 (n : Nat) (z : ix_Z)  (a0 : Nat) (a1 : Nat) (x2 : Int32) (d : ix_D2) : Option (ix_D2) := ix_fix (b_X9_layAll_2 n z  a0 a1) (fun _ _ => none) n x2 d
noncomputable def f_X9_layAll (n : Nat) (z : ix_Z) (a0 : Nat) (a1 : Nat) (d : ix_D2) : Option (ix_D2) :=
  f_X9_layAll_2 n z  a0 a1 0 d
set_option maxRecDepth 20000 in
theorem tb_X9_layAll_2 {l : Launch} {p : Program} {e : Env} {s : State} {m : MethodId} {args : Array Value} {below : List Frame} {meth : Method} {c : Code} {K : ix_Cx} (hKp : ix_Kp K) {n : Nat} {z : ix_Z} (X : ix_X p s m args c K cX9_layAll RX9 3) (hr : meth.sig.returnType = (none : Option Jvm.ClassFile.FieldType)) (hlk : meth.locks = false)  {a0 : Nat} {a1 : Nat} {rec2 : Int32 → ix_D2 → Option (ix_D2)} {d1 : ix_D2} (hrec2 : ∀ (x2 : Int32) (d : ix_D2), rec2 x2 d = some d1 → ix_G p l e (ix_rm 4 99 0 0) s m args below meth c (MQ below (ix_Post K none (ix_w z d1)) args s 0 0 (ix_A K)) K 3 0 0 2 [(0, .ref (K.2.2.1 + a0)), (1, .ref (K.2.2.1 + a1)), (2, .int x2)] [] (ix_w z d)) {x2 : Int32} {d : ix_D2} (h : b_X9_layAll_2 n z  a0 a1 rec2 x2 d = some d1) : ix_G p l e (ix_rm 4 99 0 0) s m args below meth c (MQ below (ix_Post K none (ix_w z d1)) args s 0 0 (ix_A K)) K 3 0 0 2 [(0, .ref (K.2.2.1 + a0)), (1, .ref (K.2.2.1 + a1)), (2, .int x2)] [] (ix_w z d) := by
  unfold b_X9_layAll_2 at h
  refine ix_iload_n (i := 2) (j := 2) X (ix_tb_at tb_X9_layAll 2 rfl) rfl rfl (pc1 := 3) rfl ?_
  refine ix_aload_n (i := 1) (j := 1) X (ix_tb_at tb_X9_layAll 3 rfl) rfl rfl (pc1 := 4) rfl ?_
  obtain ⟨k_1, h⟩ := ix_ck_some h
  refine iz_getI X fl_RX9_100 k_1 (ix_tb_at tb_X9_layAll 4 rfl) (pc1 := 7) rfl ?_
  refine ix_icmp_ge (tgt := 25) X (ix_tb_at tb_X9_layAll 5 rfl) (by decide) (pc1 := 10) rfl (fun q_2 => ?_) (fun q_2 => ?_)
  · have h := ix_ift q_2 h
    exact ix_vret X hr hlk (ix_r1 (g := ix_w z) h) (ix_tb_at tb_X9_layAll 13 rfl)
  · have h := ix_iff q_2 h
    refine ix_aload_n (i := 0) (j := 0) X (ix_tb_at tb_X9_layAll 6 rfl) rfl rfl (pc1 := 11) rfl ?_
    obtain ⟨k_3, h⟩ := ix_ck_some h
    obtain ⟨b_4, q_5, h⟩ := ix_bd1_ex h
    refine iz_getR X fl_RX9_12 k_3 q_5 (ix_tb_at tb_X9_layAll 7 rfl) (pc1 := 14) rfl ?_
    refine ix_aload_n (i := 1) (j := 1) X (ix_tb_at tb_X9_layAll 8 rfl) rfl rfl (pc1 := 15) rfl ?_
    refine ix_iload_n (i := 2) (j := 2) X (ix_tb_at tb_X9_layAll 9 rfl) rfl rfl (pc1 := 16) rfl ?_
    obtain ⟨k_8, h⟩ := ix_ck_some h
    obtain ⟨d_6, h_7, h⟩ := ix_bd1_ex h
    refine ix_callV (As := [.ref (K.2.2.1 + a1), .int x2]) (rest := []) (ci := 1) (T := TX1) (nf := 17) X mf_X1_layRow mi_X1_layRow ms_X1_layRow rfl (Nat.le_of_ble_eq_true rfl) ml_RX9_103 ⟨Nat.le_of_ble_eq_true rfl, Nat.le_of_ble_eq_true rfl⟩ ⟨Nat.le_of_ble_eq_true rfl, Nat.le_of_ble_eq_true rfl⟩ rfl (Nat.le_of_ble_eq_true rfl) (ix_tb_at tb_X9_layAll 10 rfl) ⟨k_8.1, List.mem_singleton.mp k_8.2⟩ (c_X1_layRow hKp h_7) rfl (pc1 := 19) rfl ?_
    obtain ⟨x2_9, e_10, h⟩ := ix_lt_ex h
    refine ix_iinc (i := 2) (j := 2) (v := x2_9) (L1 := [(2, .int x2_9), (0, .ref (K.2.2.1 + a0)), (1, .ref (K.2.2.1 + a1))]) X (ix_tb_at tb_X9_layAll 11 rfl) rfl (by rw [oi_1]; exact e_10.symm) (Nat.le_of_ble_eq_true rfl) rfl (pc1 := 22) rfl ?_
    refine ix_goto (tgt := 2) X (ix_tb_at tb_X9_layAll 12 rfl) (by decide) ?_
    refine ix_sub (L1 := [(0, .ref (K.2.2.1 + a0)), (1, .ref (K.2.2.1 + a1)), (2, .int x2_9)]) [1, 2, 0] rfl ?_
    exact hrec2 x2_9 d_6 h
theorem t_X9_layAll_2 {l : Launch} {p : Program} {e : Env} {s : State} {m : MethodId} {args : Array Value} {below : List Frame} {meth : Method} {c : Code} {K : ix_Cx} (hKp : ix_Kp K) {n : Nat} {z : ix_Z} (X : ix_X p s m args c K cX9_layAll RX9 3) (hr : meth.sig.returnType = (none : Option Jvm.ClassFile.FieldType)) (hlk : meth.locks = false)  {a0 : Nat} {a1 : Nat} {d1 : ix_D2}  {x2 : Int32} {d : ix_D2} (h : f_X9_layAll_2 n z  a0 a1 x2 d = some d1) : ix_G p l e (ix_rm 4 99 0 0) s m args below meth c (MQ below (ix_Post K none (ix_w z d1)) args s 0 0 (ix_A K)) K 3 0 0 2 [(0, .ref (K.2.2.1 + a0)), (1, .ref (K.2.2.1 + a1)), (2, .int x2)] [] (ix_w z d) := by
  have key : ∀ (f : Nat) (x2 : Int32) (d : ix_D2), ix_fix (b_X9_layAll_2 n z  a0 a1) (fun _ _ => none) f x2 d = some d1 → ix_G p l e (ix_rm 4 99 0 0) s m args below meth c (MQ below (ix_Post K none (ix_w z d1)) args s 0 0 (ix_A K)) K 3 0 0 2 [(0, .ref (K.2.2.1 + a0)), (1, .ref (K.2.2.1 + a1)), (2, .int x2)] [] (ix_w z d) := by
    intro f
    induction f with
    | zero =>
      intro x2 d h
      have h : (none : Option (ix_D2)) = some d1 := h
      cases h
    | succ f ih =>
      intro x2 d h
      exact tb_X9_layAll_2 hKp X hr hlk (rec2 := ix_fix (b_X9_layAll_2 n z  a0 a1) (fun _ _ => none) f)  ih h
  exact key n x2 d h
set_option maxRecDepth 20000 in
theorem c_X9_layAll {l : Launch} {K : ix_Cx} (hKp : ix_Kp K) {n : Nat} {z : ix_Z} {a0 : Nat} {a1 : Nat} {d : ix_D2} {d1 : ix_D2} (h : f_X9_layAll n z a0 a1 d = some d1) : ix_M l K yX9_layAll cX9_layAll 3 (none : Option Jvm.ClassFile.FieldType) 4 99 0 0 [.ref (K.2.2.1 + a0), .ref (K.2.2.1 + a1)] (ix_w z d) none (ix_w z d1) := by
  refine ix_met mf_X9_layAll hKp (Nat.le_of_ble_eq_true rfl) ?_
  intro p e s m args below meth c hr hlk hnm X
  have X : ix_X p s m args c K cX9_layAll RX9 3 := X
  show ix_G p l e (ix_rm 4 99 0 0) s m args below meth c (MQ below (ix_Post K none (ix_w z d1)) args s 0 0 (ix_A K)) K 3 0 0 0 [(0, .ref (K.2.2.1 + a0)), (1, .ref (K.2.2.1 + a1))] [] (ix_w z d)
  unfold f_X9_layAll at h
  refine ix_iconst (v := 0) X (ix_tb_at tb_X9_layAll 0 rfl) (by decide) (pc1 := 1) rfl ?_
  refine ix_istore_n (i := 2) (L1 := [(2, .int 0), (0, .ref (K.2.2.1 + a0)), (1, .ref (K.2.2.1 + a1))]) X (ix_tb_at tb_X9_layAll 1 rfl) rfl (Nat.le_of_ble_eq_true rfl) rfl (pc1 := 2) rfl ?_
  refine ix_sub (L1 := [(0, .ref (K.2.2.1 + a0)), (1, .ref (K.2.2.1 + a1)), (2, .int 0)]) [1, 2, 0] rfl ?_
  exact t_X9_layAll_2 hKp X hr hlk  h
def tab_X9_suppose : List (Nat × Instr × Nat) := [(0, .aload_n 0, 1), (1, .getfield 86, 3), (4, .bipush 20, 2), (6, .if_icmp .ge 23, 3), (9, .aload_n 0, 1), (10, .getfield 31, 3), (13, .aload_n 0, 1), (14, .getfield 86, 3), (17, .iload_n 1, 1), (18, .iastore, 1), (19, .aload_n 0, 1), (20, .dup, 1), (21, .getfield 86, 3), (24, .iconst 1, 1), (25, .iadd, 1), (26, .putfield 86, 3), (29, .return_, 1)]
theorem tb_X9_suppose : ix_tab cX9_suppose tab_X9_suppose := by
  unfold ix_tab
  decide +kernel
noncomputable def f_X9_suppose (n : Nat) (z : ix_Z) (a0 : Nat) (x1 : Int32) (d : ix_D2) : Option (ix_D2) :=
  ix_ck (ix_ok z [8] a0) (ix_if (20 ≤ d.1 a0 5) (some d) (ix_bd1 (z.1 a0 4) (fun b_3 => ix_ck (ix_ix z 20 b_3 (d.1 a0 5)) (ix_lt (ix_di d b_3 (ix_n (d.1 a0 5)) x1) (fun d_6 => ix_lt (ix_di d_6 a0 5 ((d_6.1 a0 5) + 1)) (fun d_8 => some d_8))))))
set_option maxRecDepth 20000 in
theorem c_X9_suppose {l : Launch} {K : ix_Cx} (hKp : ix_Kp K) {n : Nat} {z : ix_Z} {a0 : Nat} {x1 : Int32} {d : ix_D2} {d1 : ix_D2} (h : f_X9_suppose n z a0 x1 d = some d1) : ix_M l K yX9_suppose cX9_suppose 2 (none : Option Jvm.ClassFile.FieldType) 0 0 0 0 [.ref (K.2.2.1 + a0), .int x1] (ix_w z d) none (ix_w z d1) := by
  refine ix_met mf_X9_suppose hKp (Nat.le_of_ble_eq_true rfl) ?_
  intro p e s m args below meth c hr hlk hnm X
  have X : ix_X p s m args c K cX9_suppose RX9 2 := X
  show ix_G p l e (ix_rm 0 0 0 0) s m args below meth c (MQ below (ix_Post K none (ix_w z d1)) args s 0 0 (ix_A K)) K 2 0 0 0 [(0, .ref (K.2.2.1 + a0)), (1, .int x1)] [] (ix_w z d)
  unfold f_X9_suppose at h
  refine ix_aload_n (i := 0) (j := 0) X (ix_tb_at tb_X9_suppose 0 rfl) rfl rfl (pc1 := 1) rfl ?_
  obtain ⟨k_1, h⟩ := ix_ck_some h
  refine iz_getI X fl_RX9_86 k_1 (ix_tb_at tb_X9_suppose 1 rfl) (pc1 := 4) rfl ?_
  refine ix_bipush (v := 20) X (ix_tb_at tb_X9_suppose 2 rfl) (by decide) (pc1 := 6) rfl ?_
  refine ix_icmp_ge (tgt := 29) X (ix_tb_at tb_X9_suppose 3 rfl) (by decide) (pc1 := 9) rfl (fun q_2 => ?_) (fun q_2 => ?_)
  · have h := ix_ift q_2 h
    exact ix_vret X hr hlk (ix_r1 (g := ix_w z) h) (ix_tb_at tb_X9_suppose 16 rfl)
  · have h := ix_iff q_2 h
    refine ix_aload_n (i := 0) (j := 0) X (ix_tb_at tb_X9_suppose 4 rfl) rfl rfl (pc1 := 10) rfl ?_
    obtain ⟨b_3, q_4, h⟩ := ix_bd1_ex h
    refine iz_getR X fl_RX9_31 k_1 q_4 (ix_tb_at tb_X9_suppose 5 rfl) (pc1 := 13) rfl ?_
    refine ix_aload_n (i := 0) (j := 0) X (ix_tb_at tb_X9_suppose 6 rfl) rfl rfl (pc1 := 14) rfl ?_
    refine iz_getI X fl_RX9_86 k_1 (ix_tb_at tb_X9_suppose 7 rfl) (pc1 := 17) rfl ?_
    refine ix_iload_n (i := 1) (j := 1) X (ix_tb_at tb_X9_suppose 8 rfl) rfl rfl (pc1 := 18) rfl ?_
    obtain ⟨k_5, h⟩ := ix_ck_some h
    obtain ⟨d_6, e_7, h⟩ := ix_lt_ex h
    refine iz_iast X k_5 (ix_tb_at tb_X9_suppose 9 rfl) e_7 (pc1 := 19) rfl ?_
    refine ix_aload_n (i := 0) (j := 0) X (ix_tb_at tb_X9_suppose 10 rfl) rfl rfl (pc1 := 20) rfl ?_
    refine ix_dup X (ix_tb_at tb_X9_suppose 11 rfl) rfl (pc1 := 21) rfl ?_
    refine iz_getI X fl_RX9_86 k_1 (ix_tb_at tb_X9_suppose 12 rfl) (pc1 := 24) rfl ?_
    refine ix_iconst (v := 1) X (ix_tb_at tb_X9_suppose 13 rfl) (by decide) (pc1 := 25) rfl ?_
    refine ix_iadd X (ix_tb_at tb_X9_suppose 14 rfl) (pc1 := 26) rfl ?_
    obtain ⟨d_8, e_9, h⟩ := ix_lt_ex h
    refine iz_putI X fp_RX9_86 k_1 (ix_tb_at tb_X9_suppose 15 rfl) e_9 (pc1 := 29) rfl ?_
    exact ix_vret X hr hlk (ix_r1 (g := ix_w z) h) (ix_tb_at tb_X9_suppose 16 rfl)
def tab_X9_closeBoard : List (Nat × Instr × Nat) := [(0, .aload_n 0, 1), (1, .getfield 12, 3), (4, .aload_n 0, 1), (5, .getfield 12, 3), (8, .getfield 107, 3), (11, .getfield 100, 3), (14, .putfield 110, 3), (17, .aload_n 0, 1), (18, .getfield 12, 3), (21, .aload_n 0, 1), (22, .getfield 12, 3), (25, .getfield 107, 3), (28, .getfield 100, 3), (31, .putfield 113, 3), (34, .return_, 1)]
theorem tb_X9_closeBoard : ix_tab cX9_closeBoard tab_X9_closeBoard := by
  unfold ix_tab
  decide +kernel
noncomputable def f_X9_closeBoard (n : Nat) (z : ix_Z) (a0 : Nat) (d : ix_D2) : Option (ix_D2) :=
  ix_ck (ix_ok z [8] a0) (ix_bd1 (z.1 a0 0) (fun b_2 => ix_ck (ix_ok z [1] b_2) (ix_bd1 (z.1 b_2 0) (fun b_5 => ix_ck (ix_ok z [7] b_5) (ix_lt (ix_di d b_2 15 (d.1 b_5 2)) (fun d_8 => ix_lt (ix_di d_8 b_2 16 (d_8.1 b_5 2)) (fun d_10 => some d_10)))))))
set_option maxRecDepth 20000 in
theorem c_X9_closeBoard {l : Launch} {K : ix_Cx} (hKp : ix_Kp K) {n : Nat} {z : ix_Z} {a0 : Nat} {d : ix_D2} {d1 : ix_D2} (h : f_X9_closeBoard n z a0 d = some d1) : ix_M l K yX9_closeBoard cX9_closeBoard 1 (none : Option Jvm.ClassFile.FieldType) 0 0 0 0 [.ref (K.2.2.1 + a0)] (ix_w z d) none (ix_w z d1) := by
  refine ix_met mf_X9_closeBoard hKp (Nat.le_of_ble_eq_true rfl) ?_
  intro p e s m args below meth c hr hlk hnm X
  have X : ix_X p s m args c K cX9_closeBoard RX9 1 := X
  show ix_G p l e (ix_rm 0 0 0 0) s m args below meth c (MQ below (ix_Post K none (ix_w z d1)) args s 0 0 (ix_A K)) K 1 0 0 0 [(0, .ref (K.2.2.1 + a0))] [] (ix_w z d)
  unfold f_X9_closeBoard at h
  refine ix_aload_n (i := 0) (j := 0) X (ix_tb_at tb_X9_closeBoard 0 rfl) rfl rfl (pc1 := 1) rfl ?_
  obtain ⟨k_1, h⟩ := ix_ck_some h
  obtain ⟨b_2, q_3, h⟩ := ix_bd1_ex h
  refine iz_getR X fl_RX9_12 k_1 q_3 (ix_tb_at tb_X9_closeBoard 1 rfl) (pc1 := 4) rfl ?_
  refine ix_aload_n (i := 0) (j := 0) X (ix_tb_at tb_X9_closeBoard 2 rfl) rfl rfl (pc1 := 5) rfl ?_
  refine iz_getR X fl_RX9_12 k_1 q_3 (ix_tb_at tb_X9_closeBoard 3 rfl) (pc1 := 8) rfl ?_
  obtain ⟨k_4, h⟩ := ix_ck_some h
  obtain ⟨b_5, q_6, h⟩ := ix_bd1_ex h
  refine iz_getR X fl_RX9_107 k_4 q_6 (ix_tb_at tb_X9_closeBoard 4 rfl) (pc1 := 11) rfl ?_
  obtain ⟨k_7, h⟩ := ix_ck_some h
  refine iz_getI X fl_RX9_100 k_7 (ix_tb_at tb_X9_closeBoard 5 rfl) (pc1 := 14) rfl ?_
  obtain ⟨d_8, e_9, h⟩ := ix_lt_ex h
  refine iz_putI X fp_RX9_110 k_4 (ix_tb_at tb_X9_closeBoard 6 rfl) e_9 (pc1 := 17) rfl ?_
  refine ix_aload_n (i := 0) (j := 0) X (ix_tb_at tb_X9_closeBoard 7 rfl) rfl rfl (pc1 := 18) rfl ?_
  refine iz_getR X fl_RX9_12 k_1 q_3 (ix_tb_at tb_X9_closeBoard 8 rfl) (pc1 := 21) rfl ?_
  refine ix_aload_n (i := 0) (j := 0) X (ix_tb_at tb_X9_closeBoard 9 rfl) rfl rfl (pc1 := 22) rfl ?_
  refine iz_getR X fl_RX9_12 k_1 q_3 (ix_tb_at tb_X9_closeBoard 10 rfl) (pc1 := 25) rfl ?_
  refine iz_getR X fl_RX9_107 k_4 q_6 (ix_tb_at tb_X9_closeBoard 11 rfl) (pc1 := 28) rfl ?_
  refine iz_getI X fl_RX9_100 k_7 (ix_tb_at tb_X9_closeBoard 12 rfl) (pc1 := 31) rfl ?_
  obtain ⟨d_10, e_11, h⟩ := ix_lt_ex h
  refine iz_putI X fp_RX9_113 k_4 (ix_tb_at tb_X9_closeBoard 13 rfl) e_11 (pc1 := 34) rfl ?_
  exact ix_vret X hr hlk (ix_r1 (g := ix_w z) h) (ix_tb_at tb_X9_closeBoard 14 rfl)
def tab_X9_openNext : List (Nat × Instr × Nat) := [(0, .aload_n 0, 1), (1, .aload_n 1, 1), (2, .invokevirtual 116, 3), (5, .aload_n 0, 1), (6, .aload_n 1, 1), (7, .getfield 120, 3), (10, .invokevirtual 121, 3), (13, .aload_n 0, 1), (14, .invokevirtual 125, 3), (17, .aload_n 0, 1), (18, .aload_n 0, 1), (19, .getfield 23, 3), (22, .invokevirtual 121, 3), (25, .aload_n 0, 1), (26, .getfield 12, 3), (29, .aload_n 0, 1), (30, .getfield 12, 3), (33, .getfield 107, 3), (36, .getfield 100, 3), (39, .putfield 113, 3), (42, .return_, 1)]
theorem tb_X9_openNext : ix_tab cX9_openNext tab_X9_openNext := by
  unfold ix_tab
  decide +kernel
noncomputable def f_X9_openNext (n : Nat) (z : ix_Z) (a0 : Nat) (a1 : Nat) (d : ix_D2) : Option (ix_D2) :=
  ix_ck (ix_ok z [8] a0) (ix_bd1 (f_X9_openBoard n z a0 a1 d) (fun d_1 => ix_ck (ix_ok z [2] a1) (ix_bd1 (z.1 a1 0) (fun b_5 => ix_bd1 (f_X9_layAll n z a0 b_5 d_1) (fun d_7 => ix_bd1 (f_X9_closeBoard n z a0 d_7) (fun d_9 => ix_bd1 (z.1 a0 1) (fun b_11 => ix_bd1 (f_X9_layAll n z a0 b_11 d_9) (fun d_13 => ix_bd1 (z.1 a0 0) (fun b_15 => ix_ck (ix_ok z [1] b_15) (ix_bd1 (z.1 b_15 0) (fun b_18 => ix_ck (ix_ok z [7] b_18) (ix_lt (ix_di d_13 b_15 16 (d_13.1 b_18 2)) (fun d_21 => some d_21)))))))))))))
set_option maxRecDepth 20000 in
theorem c_X9_openNext {l : Launch} {K : ix_Cx} (hKp : ix_Kp K) {n : Nat} {z : ix_Z} {a0 : Nat} {a1 : Nat} {d : ix_D2} {d1 : ix_D2} (h : f_X9_openNext n z a0 a1 d = some d1) : ix_M l K yX9_openNext cX9_openNext 2 (none : Option Jvm.ClassFile.FieldType) 5 121 0 0 [.ref (K.2.2.1 + a0), .ref (K.2.2.1 + a1)] (ix_w z d) none (ix_w z d1) := by
  refine ix_met mf_X9_openNext hKp (Nat.le_of_ble_eq_true rfl) ?_
  intro p e s m args below meth c hr hlk hnm X
  have X : ix_X p s m args c K cX9_openNext RX9 2 := X
  show ix_G p l e (ix_rm 5 121 0 0) s m args below meth c (MQ below (ix_Post K none (ix_w z d1)) args s 0 0 (ix_A K)) K 2 0 0 0 [(0, .ref (K.2.2.1 + a0)), (1, .ref (K.2.2.1 + a1))] [] (ix_w z d)
  unfold f_X9_openNext at h
  refine ix_aload_n (i := 0) (j := 0) X (ix_tb_at tb_X9_openNext 0 rfl) rfl rfl (pc1 := 1) rfl ?_
  refine ix_aload_n (i := 1) (j := 1) X (ix_tb_at tb_X9_openNext 1 rfl) rfl rfl (pc1 := 2) rfl ?_
  obtain ⟨k_3, h⟩ := ix_ck_some h
  obtain ⟨d_1, h_2, h⟩ := ix_bd1_ex h
  refine ix_callV (As := [.ref (K.2.2.1 + a1)]) (rest := []) (ci := 8) (T := TX9) (nf := 20) X mf_X9_openBoard mi_X9_openBoard ms_X9_openBoard rfl (Nat.le_of_ble_eq_true rfl) ml_RX9_116 ⟨Nat.le_of_ble_eq_true rfl, Nat.le_of_ble_eq_true rfl⟩ ⟨Nat.le_of_ble_eq_true rfl, Nat.le_of_ble_eq_true rfl⟩ rfl (Nat.le_of_ble_eq_true rfl) (ix_tb_at tb_X9_openNext 2 rfl) ⟨k_3.1, List.mem_singleton.mp k_3.2⟩ (c_X9_openBoard hKp h_2) rfl (pc1 := 5) rfl ?_
  refine ix_aload_n (i := 0) (j := 0) X (ix_tb_at tb_X9_openNext 3 rfl) rfl rfl (pc1 := 6) rfl ?_
  refine ix_aload_n (i := 1) (j := 1) X (ix_tb_at tb_X9_openNext 4 rfl) rfl rfl (pc1 := 7) rfl ?_
  obtain ⟨k_4, h⟩ := ix_ck_some h
  obtain ⟨b_5, q_6, h⟩ := ix_bd1_ex h
  refine iz_getR X fl_RX9_120 k_4 q_6 (ix_tb_at tb_X9_openNext 5 rfl) (pc1 := 10) rfl ?_
  obtain ⟨d_7, h_8, h⟩ := ix_bd1_ex h
  refine ix_callV (As := [.ref (K.2.2.1 + b_5)]) (rest := []) (ci := 8) (T := TX9) (nf := 20) X mf_X9_layAll mi_X9_layAll ms_X9_layAll rfl (Nat.le_of_ble_eq_true rfl) ml_RX9_121 ⟨Nat.le_of_ble_eq_true rfl, Nat.le_of_ble_eq_true rfl⟩ ⟨Nat.le_of_ble_eq_true rfl, Nat.le_of_ble_eq_true rfl⟩ rfl (Nat.le_of_ble_eq_true rfl) (ix_tb_at tb_X9_openNext 6 rfl) ⟨k_3.1, List.mem_singleton.mp k_3.2⟩ (c_X9_layAll hKp h_8) rfl (pc1 := 13) rfl ?_
  refine ix_aload_n (i := 0) (j := 0) X (ix_tb_at tb_X9_openNext 7 rfl) rfl rfl (pc1 := 14) rfl ?_
  obtain ⟨d_9, h_10, h⟩ := ix_bd1_ex h
  refine ix_callV (As := []) (rest := []) (ci := 8) (T := TX9) (nf := 20) X mf_X9_closeBoard mi_X9_closeBoard ms_X9_closeBoard rfl (Nat.le_of_ble_eq_true rfl) ml_RX9_125 ⟨Nat.le_of_ble_eq_true rfl, Nat.le_of_ble_eq_true rfl⟩ ⟨Nat.le_of_ble_eq_true rfl, Nat.le_of_ble_eq_true rfl⟩ rfl (Nat.le_of_ble_eq_true rfl) (ix_tb_at tb_X9_openNext 8 rfl) ⟨k_3.1, List.mem_singleton.mp k_3.2⟩ (c_X9_closeBoard hKp h_10) rfl (pc1 := 17) rfl ?_
  refine ix_aload_n (i := 0) (j := 0) X (ix_tb_at tb_X9_openNext 9 rfl) rfl rfl (pc1 := 18) rfl ?_
  refine ix_aload_n (i := 0) (j := 0) X (ix_tb_at tb_X9_openNext 10 rfl) rfl rfl (pc1 := 19) rfl ?_
  obtain ⟨b_11, q_12, h⟩ := ix_bd1_ex h
  refine iz_getR X fl_RX9_23 k_3 q_12 (ix_tb_at tb_X9_openNext 11 rfl) (pc1 := 22) rfl ?_
  obtain ⟨d_13, h_14, h⟩ := ix_bd1_ex h
  refine ix_callV (As := [.ref (K.2.2.1 + b_11)]) (rest := []) (ci := 8) (T := TX9) (nf := 20) X mf_X9_layAll mi_X9_layAll ms_X9_layAll rfl (Nat.le_of_ble_eq_true rfl) ml_RX9_121 ⟨Nat.le_of_ble_eq_true rfl, Nat.le_of_ble_eq_true rfl⟩ ⟨Nat.le_of_ble_eq_true rfl, Nat.le_of_ble_eq_true rfl⟩ rfl (Nat.le_of_ble_eq_true rfl) (ix_tb_at tb_X9_openNext 12 rfl) ⟨k_3.1, List.mem_singleton.mp k_3.2⟩ (c_X9_layAll hKp h_14) rfl (pc1 := 25) rfl ?_
  refine ix_aload_n (i := 0) (j := 0) X (ix_tb_at tb_X9_openNext 13 rfl) rfl rfl (pc1 := 26) rfl ?_
  obtain ⟨b_15, q_16, h⟩ := ix_bd1_ex h
  refine iz_getR X fl_RX9_12 k_3 q_16 (ix_tb_at tb_X9_openNext 14 rfl) (pc1 := 29) rfl ?_
  refine ix_aload_n (i := 0) (j := 0) X (ix_tb_at tb_X9_openNext 15 rfl) rfl rfl (pc1 := 30) rfl ?_
  refine iz_getR X fl_RX9_12 k_3 q_16 (ix_tb_at tb_X9_openNext 16 rfl) (pc1 := 33) rfl ?_
  obtain ⟨k_17, h⟩ := ix_ck_some h
  obtain ⟨b_18, q_19, h⟩ := ix_bd1_ex h
  refine iz_getR X fl_RX9_107 k_17 q_19 (ix_tb_at tb_X9_openNext 17 rfl) (pc1 := 36) rfl ?_
  obtain ⟨k_20, h⟩ := ix_ck_some h
  refine iz_getI X fl_RX9_100 k_20 (ix_tb_at tb_X9_openNext 18 rfl) (pc1 := 39) rfl ?_
  obtain ⟨d_21, e_22, h⟩ := ix_lt_ex h
  refine iz_putI X fp_RX9_113 k_17 (ix_tb_at tb_X9_openNext 19 rfl) e_22 (pc1 := 42) rfl ?_
  exact ix_vret X hr hlk (ix_r1 (g := ix_w z) h) (ix_tb_at tb_X9_openNext 20 rfl)
def tab_X9_pushFresh : List (Nat × Instr × Nat) := [(0, .aload_n 0, 1), (1, .getfield 128, 3), (4, .aload_n 0, 1), (5, .getfield 56, 3), (8, .arraylength, 1), (9, .if_icmp .ge 23, 3), (12, .aload_n 0, 1), (13, .getfield 56, 3), (16, .aload_n 0, 1), (17, .getfield 128, 3), (20, .iload_n 1, 1), (21, .iastore, 1), (22, .aload_n 0, 1), (23, .dup, 1), (24, .getfield 128, 3), (27, .iconst 1, 1), (28, .iadd, 1), (29, .putfield 128, 3), (32, .return_, 1)]
theorem tb_X9_pushFresh : ix_tab cX9_pushFresh tab_X9_pushFresh := by
  unfold ix_tab
  decide +kernel
noncomputable def f_X9_pushFresh (n : Nat) (z : ix_Z) (a0 : Nat) (x1 : Int32) (d : ix_D2) : Option (ix_D2) :=
  ix_ck (ix_ok z [8] a0) (ix_bd1 (z.1 a0 13) (fun b_2 => ix_ck (b_2 < z.2.2 ∧ 20 ≤ (z.2.1 b_2).1 ∧ (z.2.1 b_2).1 < 26) (ix_if (nI (z.2.1 b_2).2 ≤ d.1 a0 14) (some d) (ix_ck (ix_ix z 20 b_2 (d.1 a0 14)) (ix_lt (ix_di d b_2 (ix_n (d.1 a0 14)) x1) (fun d_7 => ix_lt (ix_di d_7 a0 14 ((d_7.1 a0 14) + 1)) (fun d_9 => some d_9)))))))
set_option maxRecDepth 20000 in
theorem c_X9_pushFresh {l : Launch} {K : ix_Cx} (hKp : ix_Kp K) {n : Nat} {z : ix_Z} {a0 : Nat} {x1 : Int32} {d : ix_D2} {d1 : ix_D2} (h : f_X9_pushFresh n z a0 x1 d = some d1) : ix_M l K yX9_pushFresh cX9_pushFresh 2 (none : Option Jvm.ClassFile.FieldType) 0 0 0 0 [.ref (K.2.2.1 + a0), .int x1] (ix_w z d) none (ix_w z d1) := by
  refine ix_met mf_X9_pushFresh hKp (Nat.le_of_ble_eq_true rfl) ?_
  intro p e s m args below meth c hr hlk hnm X
  have X : ix_X p s m args c K cX9_pushFresh RX9 2 := X
  show ix_G p l e (ix_rm 0 0 0 0) s m args below meth c (MQ below (ix_Post K none (ix_w z d1)) args s 0 0 (ix_A K)) K 2 0 0 0 [(0, .ref (K.2.2.1 + a0)), (1, .int x1)] [] (ix_w z d)
  unfold f_X9_pushFresh at h
  refine ix_aload_n (i := 0) (j := 0) X (ix_tb_at tb_X9_pushFresh 0 rfl) rfl rfl (pc1 := 1) rfl ?_
  obtain ⟨k_1, h⟩ := ix_ck_some h
  refine iz_getI X fl_RX9_128 k_1 (ix_tb_at tb_X9_pushFresh 1 rfl) (pc1 := 4) rfl ?_
  refine ix_aload_n (i := 0) (j := 0) X (ix_tb_at tb_X9_pushFresh 2 rfl) rfl rfl (pc1 := 5) rfl ?_
  obtain ⟨b_2, q_3, h⟩ := ix_bd1_ex h
  refine iz_getR X fl_RX9_56 k_1 q_3 (ix_tb_at tb_X9_pushFresh 3 rfl) (pc1 := 8) rfl ?_
  obtain ⟨k_4, h⟩ := ix_ck_some h
  refine iz_alen X k_4 (ix_tb_at tb_X9_pushFresh 4 rfl) (pc1 := 9) rfl ?_
  refine ix_icmp_ge (tgt := 32) X (ix_tb_at tb_X9_pushFresh 5 rfl) (by decide) (pc1 := 12) rfl (fun q_5 => ?_) (fun q_5 => ?_)
  · have h := ix_ift q_5 h
    exact ix_vret X hr hlk (ix_r1 (g := ix_w z) h) (ix_tb_at tb_X9_pushFresh 18 rfl)
  · have h := ix_iff q_5 h
    refine ix_aload_n (i := 0) (j := 0) X (ix_tb_at tb_X9_pushFresh 6 rfl) rfl rfl (pc1 := 13) rfl ?_
    refine iz_getR X fl_RX9_56 k_1 q_3 (ix_tb_at tb_X9_pushFresh 7 rfl) (pc1 := 16) rfl ?_
    refine ix_aload_n (i := 0) (j := 0) X (ix_tb_at tb_X9_pushFresh 8 rfl) rfl rfl (pc1 := 17) rfl ?_
    refine iz_getI X fl_RX9_128 k_1 (ix_tb_at tb_X9_pushFresh 9 rfl) (pc1 := 20) rfl ?_
    refine ix_iload_n (i := 1) (j := 1) X (ix_tb_at tb_X9_pushFresh 10 rfl) rfl rfl (pc1 := 21) rfl ?_
    obtain ⟨k_6, h⟩ := ix_ck_some h
    obtain ⟨d_7, e_8, h⟩ := ix_lt_ex h
    refine iz_iast X k_6 (ix_tb_at tb_X9_pushFresh 11 rfl) e_8 (pc1 := 22) rfl ?_
    refine ix_aload_n (i := 0) (j := 0) X (ix_tb_at tb_X9_pushFresh 12 rfl) rfl rfl (pc1 := 23) rfl ?_
    refine ix_dup X (ix_tb_at tb_X9_pushFresh 13 rfl) rfl (pc1 := 24) rfl ?_
    refine iz_getI X fl_RX9_128 k_1 (ix_tb_at tb_X9_pushFresh 14 rfl) (pc1 := 27) rfl ?_
    refine ix_iconst (v := 1) X (ix_tb_at tb_X9_pushFresh 15 rfl) (by decide) (pc1 := 28) rfl ?_
    refine ix_iadd X (ix_tb_at tb_X9_pushFresh 16 rfl) (pc1 := 29) rfl ?_
    obtain ⟨d_9, e_10, h⟩ := ix_lt_ex h
    refine iz_putI X fp_RX9_128 k_1 (ix_tb_at tb_X9_pushFresh 17 rfl) e_10 (pc1 := 32) rfl ?_
    exact ix_vret X hr hlk (ix_r1 (g := ix_w z) h) (ix_tb_at tb_X9_pushFresh 18 rfl)
def tab_X9_barTruth : List (Nat × Instr × Nat) := [(0, .aload_n 0, 1), (1, .iconst 0, 1), (2, .putfield 128, 3), (5, .iconst 1, 1), (6, .istore_n 2, 1), (7, .iload_n 2, 1), (8, .aload_n 1, 1), (9, .getfield 68, 3), (12, .if_icmp .gt 39, 3), (15, .aload_n 1, 1), (16, .getfield 131, 3), (19, .iload_n 2, 1), (20, .baload, 1), (21, .ifCond .eq 24, 3), (24, .aload_n 0, 1), (25, .aload_n 0, 1), (26, .getfield 12, 3), (29, .iload_n 2, 1), (30, .invokevirtual 135, 3), (33, .ifCond .eq 8, 3), (36, .iload_n 2, 1), (37, .ineg, 1), (38, .goto 4, 3), (41, .iload_n 2, 1), (42, .invokevirtual 139, 3), (45, .iinc 2 1, 3), (48, .goto (-41), 3), (51, .aload_n 0, 1), (52, .getfield 23, 3), (55, .aload_n 0, 1), (56, .getfield 56, 3), (59, .iconst 0, 1), (60, .aload_n 0, 1), (61, .getfield 128, 3), (64, .invokevirtual 142, 3), (67, .pop, 1), (68, .return_, 1)]
theorem tb_X9_barTruth : ix_tab cX9_barTruth tab_X9_barTruth := by
  unfold ix_tab
  decide +kernel
noncomputable def f_X9_barTruth_45 (n : Nat) (z : ix_Z) (rec7 : Int32 → ix_D2 → Option (ix_D2)) (a0 : Nat) (a1 : Nat) (x2 : Int32) (d : ix_D2) : Option (ix_D2) :=
  ix_lt (x2 + 1) (fun x2_19 => rec7 x2_19 d)
noncomputable def f_X9_barTruth_42 (n : Nat) (z : ix_Z) (rec7 : Int32 → ix_D2 → Option (ix_D2)) (a0 : Nat) (a1 : Nat) (x2 : Int32) (s0 : Int32) (s1 : Nat) (d : ix_D2) : Option (ix_D2) :=
  ix_ck (ix_ok z [8] s1) (ix_bd1 (f_X9_pushFresh n z s1 s0 d) (fun d_29 => f_X9_barTruth_45 n z rec7 a0 a1 x2 d_29))
noncomputable def b_X9_barTruth_7 (n : Nat) (z : ix_Z)  (a0 : Nat) (a1 : Nat) (rec7 : Int32 → ix_D2 → Option (ix_D2)) (x2 : Int32) (d : ix_D2) : Option (ix_D2) :=
  ix_ck (ix_ok z [2] a1) (ix_if (d.1 a1 5 < x2) (ix_ck (ix_ok z [8] a0) (ix_bd1 (z.1 a0 1) (fun b_7 => ix_bd1 (z.1 a0 13) (fun b_9 => ix_ck (ix_ok z [7] b_7) (ix_bd2 (f_X7_push n z b_7 b_9 0 (d.1 a0 14) d) (fun r_14 d_11 => some d_11)))))) (ix_bd1 (z.1 a1 2) (fun b_15 => ix_ck (ix_ix z 22 b_15 x2) (ix_if (d.1 b_15 (ix_n x2) = 0) (f_X9_barTruth_45 n z rec7 a0 a1 x2 d) (ix_ck (ix_ok z [8] a0) (ix_bd1 (z.1 a0 0) (fun b_22 => ix_ck (ix_ok z [1] b_22) (ix_bd2 (f_X1_isTrue n z b_22 x2 d) (fun r_27 d_24 => ix_if (r_27 = 0) (f_X9_barTruth_42 n z rec7 a0 a1 x2 x2 a0 d_24) (f_X9_barTruth_42 n z rec7 a0 a1 x2 (-x2) a0 d_24))))))))))
noncomputable def f_X9_barTruth_7 (n : Nat) (z : ix_Z)  (a0 : Nat) (a1 : Nat) (x2 : Int32) (d : ix_D2) : Option (ix_D2) := ix_fix (b_X9_barTruth_7 n z  a0 a1) (fun _ _ => none) n x2 d
noncomputable def f_X9_barTruth (n : Nat) (z : ix_Z) (a0 : Nat) (a1 : Nat) (d : ix_D2) : Option (ix_D2) :=
  ix_ck (ix_ok z [8] a0) (ix_lt (ix_di d a0 14 0) (fun d_2 => f_X9_barTruth_7 n z  a0 a1 1 d_2))
set_option maxRecDepth 20000 in
theorem t_X9_barTruth_45 {l : Launch} {p : Program} {e : Env} {s : State} {m : MethodId} {args : Array Value} {below : List Frame} {meth : Method} {c : Code} {K : ix_Cx} (hKp : ix_Kp K) {n : Nat} {z : ix_Z} (X : ix_X p s m args c K cX9_barTruth RX9 3) (hr : meth.sig.returnType = (none : Option Jvm.ClassFile.FieldType)) (hlk : meth.locks = false) {rec7 : Int32 → ix_D2 → Option (ix_D2)} {a0 : Nat} {a1 : Nat} {x2 : Int32} {d1 : ix_D2} (hrec7 : ∀ (x2 : Int32) (d : ix_D2), rec7 x2 d = some d1 → ix_G p l e (ix_rm 2 50 0 0) s m args below meth c (MQ below (ix_Post K none (ix_w z d1)) args s 0 0 (ix_A K)) K 3 0 0 7 [(0, .ref (K.2.2.1 + a0)), (1, .ref (K.2.2.1 + a1)), (2, .int x2)] [] (ix_w z d)) {d : ix_D2} (h : f_X9_barTruth_45 n z rec7 a0 a1 x2 d = some d1) : ix_G p l e (ix_rm 2 50 0 0) s m args below meth c (MQ below (ix_Post K none (ix_w z d1)) args s 0 0 (ix_A K)) K 3 0 0 45 [(0, .ref (K.2.2.1 + a0)), (1, .ref (K.2.2.1 + a1)), (2, .int x2)] [] (ix_w z d) := by
  unfold f_X9_barTruth_45 at h
  obtain ⟨x2_19, e_20, h⟩ := ix_lt_ex h
  refine ix_iinc (i := 2) (j := 2) (v := x2_19) (L1 := [(2, .int x2_19), (0, .ref (K.2.2.1 + a0)), (1, .ref (K.2.2.1 + a1))]) X (ix_tb_at tb_X9_barTruth 25 rfl) rfl (by rw [oi_1]; exact e_20.symm) (Nat.le_of_ble_eq_true rfl) rfl (pc1 := 48) rfl ?_
  refine ix_goto (tgt := 7) X (ix_tb_at tb_X9_barTruth 26 rfl) (by decide) ?_
  refine ix_sub (L1 := [(0, .ref (K.2.2.1 + a0)), (1, .ref (K.2.2.1 + a1)), (2, .int x2_19)]) [1, 2, 0] rfl ?_
  exact hrec7 x2_19 d h
set_option maxRecDepth 20000 in
theorem t_X9_barTruth_42 {l : Launch} {p : Program} {e : Env} {s : State} {m : MethodId} {args : Array Value} {below : List Frame} {meth : Method} {c : Code} {K : ix_Cx} (hKp : ix_Kp K) {n : Nat} {z : ix_Z} (X : ix_X p s m args c K cX9_barTruth RX9 3) (hr : meth.sig.returnType = (none : Option Jvm.ClassFile.FieldType)) (hlk : meth.locks = false) {rec7 : Int32 → ix_D2 → Option (ix_D2)} {a0 : Nat} {a1 : Nat} {x2 : Int32} {s0 : Int32} {s1 : Nat} {d1 : ix_D2} (hrec7 : ∀ (x2 : Int32) (d : ix_D2), rec7 x2 d = some d1 → ix_G p l e (ix_rm 2 50 0 0) s m args below meth c (MQ below (ix_Post K none (ix_w z d1)) args s 0 0 (ix_A K)) K 3 0 0 7 [(0, .ref (K.2.2.1 + a0)), (1, .ref (K.2.2.1 + a1)), (2, .int x2)] [] (ix_w z d)) {d : ix_D2} (h : f_X9_barTruth_42 n z rec7 a0 a1 x2 s0 s1 d = some d1) : ix_G p l e (ix_rm 2 50 0 0) s m args below meth c (MQ below (ix_Post K none (ix_w z d1)) args s 0 0 (ix_A K)) K 3 0 0 42 [(0, .ref (K.2.2.1 + a0)), (1, .ref (K.2.2.1 + a1)), (2, .int x2)] [.int s0, .ref (K.2.2.1 + s1)] (ix_w z d) := by
  unfold f_X9_barTruth_42 at h
  obtain ⟨k_31, h⟩ := ix_ck_some h
  obtain ⟨d_29, h_30, h⟩ := ix_bd1_ex h
  refine ix_callV (As := [.int s0]) (rest := []) (ci := 8) (T := TX9) (nf := 20) X mf_X9_pushFresh mi_X9_pushFresh ms_X9_pushFresh rfl (Nat.le_of_ble_eq_true rfl) ml_RX9_139 ⟨Nat.le_of_ble_eq_true rfl, Nat.le_of_ble_eq_true rfl⟩ ⟨Nat.le_of_ble_eq_true rfl, Nat.le_of_ble_eq_true rfl⟩ rfl (Nat.le_of_ble_eq_true rfl) (ix_tb_at tb_X9_barTruth 24 rfl) ⟨k_31.1, List.mem_singleton.mp k_31.2⟩ (c_X9_pushFresh hKp h_30) rfl (pc1 := 45) rfl ?_
  refine ix_sub (L1 := [(0, .ref (K.2.2.1 + a0)), (1, .ref (K.2.2.1 + a1)), (2, .int x2)]) [0, 1, 2] rfl ?_
  exact t_X9_barTruth_45 hKp X hr hlk hrec7 h
set_option maxRecDepth 20000 in
theorem tb_X9_barTruth_7 {l : Launch} {p : Program} {e : Env} {s : State} {m : MethodId} {args : Array Value} {below : List Frame} {meth : Method} {c : Code} {K : ix_Cx} (hKp : ix_Kp K) {n : Nat} {z : ix_Z} (X : ix_X p s m args c K cX9_barTruth RX9 3) (hr : meth.sig.returnType = (none : Option Jvm.ClassFile.FieldType)) (hlk : meth.locks = false)  {a0 : Nat} {a1 : Nat} {rec7 : Int32 → ix_D2 → Option (ix_D2)} {d1 : ix_D2} (hrec7 : ∀ (x2 : Int32) (d : ix_D2), rec7 x2 d = some d1 → ix_G p l e (ix_rm 2 50 0 0) s m args below meth c (MQ below (ix_Post K none (ix_w z d1)) args s 0 0 (ix_A K)) K 3 0 0 7 [(0, .ref (K.2.2.1 + a0)), (1, .ref (K.2.2.1 + a1)), (2, .int x2)] [] (ix_w z d)) {x2 : Int32} {d : ix_D2} (h : b_X9_barTruth_7 n z  a0 a1 rec7 x2 d = some d1) : ix_G p l e (ix_rm 2 50 0 0) s m args below meth c (MQ below (ix_Post K none (ix_w z d1)) args s 0 0 (ix_A K)) K 3 0 0 7 [(0, .ref (K.2.2.1 + a0)), (1, .ref (K.2.2.1 + a1)), (2, .int x2)] [] (ix_w z d) := by
  unfold b_X9_barTruth_7 at h
  refine ix_iload_n (i := 2) (j := 2) X (ix_tb_at tb_X9_barTruth 5 rfl) rfl rfl (pc1 := 8) rfl ?_
  refine ix_aload_n (i := 1) (j := 1) X (ix_tb_at tb_X9_barTruth 6 rfl) rfl rfl (pc1 := 9) rfl ?_
  obtain ⟨k_4, h⟩ := ix_ck_some h
  refine iz_getI X fl_RX9_68 k_4 (ix_tb_at tb_X9_barTruth 7 rfl) (pc1 := 12) rfl ?_
  refine ix_icmp_gt (tgt := 51) X (ix_tb_at tb_X9_barTruth 8 rfl) (by decide) (pc1 := 15) rfl (fun q_5 => ?_) (fun q_5 => ?_)
  · have h := ix_ift q_5 h
    refine ix_aload_n (i := 0) (j := 0) X (ix_tb_at tb_X9_barTruth 27 rfl) rfl rfl (pc1 := 52) rfl ?_
    obtain ⟨k_6, h⟩ := ix_ck_some h
    obtain ⟨b_7, q_8, h⟩ := ix_bd1_ex h
    refine iz_getR X fl_RX9_23 k_6 q_8 (ix_tb_at tb_X9_barTruth 28 rfl) (pc1 := 55) rfl ?_
    refine ix_aload_n (i := 0) (j := 0) X (ix_tb_at tb_X9_barTruth 29 rfl) rfl rfl (pc1 := 56) rfl ?_
    obtain ⟨b_9, q_10, h⟩ := ix_bd1_ex h
    refine iz_getR X fl_RX9_56 k_6 q_10 (ix_tb_at tb_X9_barTruth 30 rfl) (pc1 := 59) rfl ?_
    refine ix_iconst (v := 0) X (ix_tb_at tb_X9_barTruth 31 rfl) (by decide) (pc1 := 60) rfl ?_
    refine ix_aload_n (i := 0) (j := 0) X (ix_tb_at tb_X9_barTruth 32 rfl) rfl rfl (pc1 := 61) rfl ?_
    refine iz_getI X fl_RX9_128 k_6 (ix_tb_at tb_X9_barTruth 33 rfl) (pc1 := 64) rfl ?_
    obtain ⟨k_13, h⟩ := ix_ck_some h
    obtain ⟨r_14, d_11, h_12, h⟩ := ix_bd2_ex h
    refine ix_callV (As := [.ref (K.2.2.1 + b_9), .int 0, .int (d.1 a0 14)]) (rest := []) (ci := 7) (T := TX7) (nf := 3) X mf_X7_push mi_X7_push ms_X7_push rfl (Nat.le_of_ble_eq_true rfl) ml_RX9_142 ⟨Nat.le_of_ble_eq_true rfl, Nat.le_of_ble_eq_true rfl⟩ ⟨Nat.le_of_ble_eq_true rfl, Nat.le_of_ble_eq_true rfl⟩ rfl (Nat.le_of_ble_eq_true rfl) (ix_tb_at tb_X9_barTruth 34 rfl) ⟨k_13.1, List.mem_singleton.mp k_13.2⟩ (c_X7_push hKp h_12) rfl (pc1 := 67) rfl ?_
    refine ix_pop X (ix_tb_at tb_X9_barTruth 35 rfl) rfl (pc1 := 68) rfl ?_
    exact ix_vret X hr hlk (ix_r1 (g := ix_w z) h) (ix_tb_at tb_X9_barTruth 36 rfl)
  · have h := ix_iff q_5 h
    refine ix_aload_n (i := 1) (j := 1) X (ix_tb_at tb_X9_barTruth 9 rfl) rfl rfl (pc1 := 16) rfl ?_
    obtain ⟨b_15, q_16, h⟩ := ix_bd1_ex h
    refine iz_getR X fl_RX9_131 k_4 q_16 (ix_tb_at tb_X9_barTruth 10 rfl) (pc1 := 19) rfl ?_
    refine ix_iload_n (i := 2) (j := 2) X (ix_tb_at tb_X9_barTruth 11 rfl) rfl rfl (pc1 := 20) rfl ?_
    obtain ⟨k_17, h⟩ := ix_ck_some h
    refine iz_zald X k_17 (ix_tb_at tb_X9_barTruth 12 rfl) (pc1 := 21) rfl ?_
    refine ix_if_eq (tgt := 45) X (ix_tb_at tb_X9_barTruth 13 rfl) (by decide) (pc1 := 24) rfl (fun q_18 => ?_) (fun q_18 => ?_)
    · have h := ix_ift q_18 h
      refine ix_sub (L1 := [(0, .ref (K.2.2.1 + a0)), (1, .ref (K.2.2.1 + a1)), (2, .int x2)]) [0, 1, 2] rfl ?_
      exact t_X9_barTruth_45 hKp X hr hlk hrec7 h
    · have h := ix_iff q_18 h
      refine ix_aload_n (i := 0) (j := 0) X (ix_tb_at tb_X9_barTruth 14 rfl) rfl rfl (pc1 := 25) rfl ?_
      refine ix_aload_n (i := 0) (j := 0) X (ix_tb_at tb_X9_barTruth 15 rfl) rfl rfl (pc1 := 26) rfl ?_
      obtain ⟨k_21, h⟩ := ix_ck_some h
      obtain ⟨b_22, q_23, h⟩ := ix_bd1_ex h
      refine iz_getR X fl_RX9_12 k_21 q_23 (ix_tb_at tb_X9_barTruth 16 rfl) (pc1 := 29) rfl ?_
      refine ix_iload_n (i := 2) (j := 2) X (ix_tb_at tb_X9_barTruth 17 rfl) rfl rfl (pc1 := 30) rfl ?_
      obtain ⟨k_26, h⟩ := ix_ck_some h
      obtain ⟨r_27, d_24, h_25, h⟩ := ix_bd2_ex h
      refine ix_callV (As := [.int x2]) (rest := [.ref (K.2.2.1 + a0)]) (ci := 1) (T := TX1) (nf := 17) X mf_X1_isTrue mi_X1_isTrue ms_X1_isTrue rfl (Nat.le_of_ble_eq_true rfl) ml_RX9_135 ⟨Nat.le_of_ble_eq_true rfl, Nat.le_of_ble_eq_true rfl⟩ ⟨Nat.le_of_ble_eq_true rfl, Nat.le_of_ble_eq_true rfl⟩ rfl (Nat.le_of_ble_eq_true rfl) (ix_tb_at tb_X9_barTruth 18 rfl) ⟨k_26.1, List.mem_singleton.mp k_26.2⟩ (c_X1_isTrue hKp h_25) rfl (pc1 := 33) rfl ?_
      refine ix_if_eq (tgt := 41) X (ix_tb_at tb_X9_barTruth 19 rfl) (by decide) (pc1 := 36) rfl (fun q_28 => ?_) (fun q_28 => ?_)
      · have h := ix_ift q_28 h
        refine ix_iload_n (i := 2) (j := 2) X (ix_tb_at tb_X9_barTruth 23 rfl) rfl rfl (pc1 := 42) rfl ?_
        refine ix_sub (L1 := [(0, .ref (K.2.2.1 + a0)), (1, .ref (K.2.2.1 + a1)), (2, .int x2)]) [0, 1, 2] rfl ?_
        exact t_X9_barTruth_42 hKp X hr hlk hrec7 h
      · have h := ix_iff q_28 h
        refine ix_iload_n (i := 2) (j := 2) X (ix_tb_at tb_X9_barTruth 20 rfl) rfl rfl (pc1 := 37) rfl ?_
        refine ix_ineg X (ix_tb_at tb_X9_barTruth 21 rfl) (pc1 := 38) rfl ?_
        refine ix_goto (tgt := 42) X (ix_tb_at tb_X9_barTruth 22 rfl) (by decide) ?_
        refine ix_sub (L1 := [(0, .ref (K.2.2.1 + a0)), (1, .ref (K.2.2.1 + a1)), (2, .int x2)]) [0, 1, 2] rfl ?_
        exact t_X9_barTruth_42 hKp X hr hlk hrec7 h
theorem t_X9_barTruth_7 {l : Launch} {p : Program} {e : Env} {s : State} {m : MethodId} {args : Array Value} {below : List Frame} {meth : Method} {c : Code} {K : ix_Cx} (hKp : ix_Kp K) {n : Nat} {z : ix_Z} (X : ix_X p s m args c K cX9_barTruth RX9 3) (hr : meth.sig.returnType = (none : Option Jvm.ClassFile.FieldType)) (hlk : meth.locks = false)  {a0 : Nat} {a1 : Nat} {d1 : ix_D2}  {x2 : Int32} {d : ix_D2} (h : f_X9_barTruth_7 n z  a0 a1 x2 d = some d1) : ix_G p l e (ix_rm 2 50 0 0) s m args below meth c (MQ below (ix_Post K none (ix_w z d1)) args s 0 0 (ix_A K)) K 3 0 0 7 [(0, .ref (K.2.2.1 + a0)), (1, .ref (K.2.2.1 + a1)), (2, .int x2)] [] (ix_w z d) := by
  have key : ∀ (f : Nat) (x2 : Int32) (d : ix_D2), ix_fix (b_X9_barTruth_7 n z  a0 a1) (fun _ _ => none) f x2 d = some d1 → ix_G p l e (ix_rm 2 50 0 0) s m args below meth c (MQ below (ix_Post K none (ix_w z d1)) args s 0 0 (ix_A K)) K 3 0 0 7 [(0, .ref (K.2.2.1 + a0)), (1, .ref (K.2.2.1 + a1)), (2, .int x2)] [] (ix_w z d) := by
    intro f
    induction f with
    | zero =>
      intro x2 d h
      have h : (none : Option (ix_D2)) = some d1 := h
      cases h
    | succ f ih =>
      intro x2 d h
      exact tb_X9_barTruth_7 hKp X hr hlk (rec7 := ix_fix (b_X9_barTruth_7 n z  a0 a1) (fun _ _ => none) f)  ih h
  exact key n x2 d h
set_option maxRecDepth 20000 in
theorem c_X9_barTruth {l : Launch} {K : ix_Cx} (hKp : ix_Kp K) {n : Nat} {z : ix_Z} {a0 : Nat} {a1 : Nat} {d : ix_D2} {d1 : ix_D2} (h : f_X9_barTruth n z a0 a1 d = some d1) : ix_M l K yX9_barTruth cX9_barTruth 3 (none : Option Jvm.ClassFile.FieldType) 2 50 0 0 [.ref (K.2.2.1 + a0), .ref (K.2.2.1 + a1)] (ix_w z d) none (ix_w z d1) := by
  refine ix_met mf_X9_barTruth hKp (Nat.le_of_ble_eq_true rfl) ?_
  intro p e s m args below meth c hr hlk hnm X
  have X : ix_X p s m args c K cX9_barTruth RX9 3 := X
  show ix_G p l e (ix_rm 2 50 0 0) s m args below meth c (MQ below (ix_Post K none (ix_w z d1)) args s 0 0 (ix_A K)) K 3 0 0 0 [(0, .ref (K.2.2.1 + a0)), (1, .ref (K.2.2.1 + a1))] [] (ix_w z d)
  unfold f_X9_barTruth at h
  refine ix_aload_n (i := 0) (j := 0) X (ix_tb_at tb_X9_barTruth 0 rfl) rfl rfl (pc1 := 1) rfl ?_
  refine ix_iconst (v := 0) X (ix_tb_at tb_X9_barTruth 1 rfl) (by decide) (pc1 := 2) rfl ?_
  obtain ⟨k_1, h⟩ := ix_ck_some h
  obtain ⟨d_2, e_3, h⟩ := ix_lt_ex h
  refine iz_putI X fp_RX9_128 k_1 (ix_tb_at tb_X9_barTruth 2 rfl) e_3 (pc1 := 5) rfl ?_
  refine ix_iconst (v := 1) X (ix_tb_at tb_X9_barTruth 3 rfl) (by decide) (pc1 := 6) rfl ?_
  refine ix_istore_n (i := 2) (L1 := [(2, .int 1), (0, .ref (K.2.2.1 + a0)), (1, .ref (K.2.2.1 + a1))]) X (ix_tb_at tb_X9_barTruth 4 rfl) rfl (Nat.le_of_ble_eq_true rfl) rfl (pc1 := 7) rfl ?_
  refine ix_sub (L1 := [(0, .ref (K.2.2.1 + a0)), (1, .ref (K.2.2.1 + a1)), (2, .int 1)]) [1, 2, 0] rfl ?_
  exact t_X9_barTruth_7 hKp X hr hlk  h
def tab_X9_gatherFrom : List (Nat × Instr × Nat) := [(0, .iconst 0, 1), (1, .istore_n 3, 1), (2, .iload_n 3, 1), (3, .bipush 8, 2), (5, .if_icmp .ge 23, 3), (8, .aload_n 0, 1), (9, .getfield 44, 3), (12, .iload_n 3, 1), (13, .dup2, 1), (14, .laload, 1), (15, .aload_n 1, 1), (16, .iload_n 2, 1), (17, .iload_n 3, 1), (18, .iadd, 1), (19, .laload, 1), (20, .lor, 1), (21, .lastore, 1), (22, .iinc 3 1, 3), (25, .goto (-23), 3), (28, .return_, 1)]
theorem tb_X9_gatherFrom : ix_tab cX9_gatherFrom tab_X9_gatherFrom := by
  unfold ix_tab
  decide +kernel
noncomputable def b_X9_gatherFrom_2 (n : Nat) (z : ix_Z)  (a0 : Nat) (a1 : Nat) (x2 : Int32) (rec2 : Int32 → ix_D2 → Option (ix_D2)) (x3 : Int32) (d : ix_D2) : Option (ix_D2) :=
  ix_if (8 ≤ x3) (some d) (ix_ck (ix_ok z [8] a0) (ix_bd1 (z.1 a0 9) (fun b_3 => ix_ck (ix_ix z 23 b_3 x3) (ix_ck (ix_ix z 23 a1 (x2 + x3)) (ix_lt (ix_dj d b_3 (ix_n x3) ((d.2 b_3 (ix_n x3)) ||| (d.2 a1 (ix_n (x2 + x3))))) (fun d_7 => ix_lt (x3 + 1) (fun x3_9 => rec2 x3_9 d_7)))))))
noncomputable def f_X9_gatherFrom_2 (n : Nat) (z : ix_Z)  (a0 : Nat) (a1 : Nat) (x2 : Int32) (x3 : Int32) (d : ix_D2) : Option (ix_D2) := ix_fix (b_X9_gatherFrom_2 n z  a0 a1 x2) (fun _ _ => none) n x3 d
noncomputable def f_X9_gatherFrom (n : Nat) (z : ix_Z) (a0 : Nat) (a1 : Nat) (x2 : Int32) (d : ix_D2) : Option (ix_D2) :=
  f_X9_gatherFrom_2 n z  a0 a1 x2 0 d
set_option maxRecDepth 20000 in
theorem tb_X9_gatherFrom_2 {l : Launch} {p : Program} {e : Env} {s : State} {m : MethodId} {args : Array Value} {below : List Frame} {meth : Method} {c : Code} {K : ix_Cx} (hKp : ix_Kp K) {n : Nat} {z : ix_Z} (X : ix_X p s m args c K cX9_gatherFrom RX9 4) (hr : meth.sig.returnType = (none : Option Jvm.ClassFile.FieldType)) (hlk : meth.locks = false)  {a0 : Nat} {a1 : Nat} {x2 : Int32} {rec2 : Int32 → ix_D2 → Option (ix_D2)} {d1 : ix_D2} (hrec2 : ∀ (x3 : Int32) (d : ix_D2), rec2 x3 d = some d1 → ix_G p l e (ix_rm 0 0 0 0) s m args below meth c (MQ below (ix_Post K none (ix_w z d1)) args s 0 0 (ix_A K)) K 4 0 0 2 [(0, .ref (K.2.2.1 + a0)), (1, .ref (K.2.2.1 + a1)), (2, .int x2), (3, .int x3)] [] (ix_w z d)) {x3 : Int32} {d : ix_D2} (h : b_X9_gatherFrom_2 n z  a0 a1 x2 rec2 x3 d = some d1) : ix_G p l e (ix_rm 0 0 0 0) s m args below meth c (MQ below (ix_Post K none (ix_w z d1)) args s 0 0 (ix_A K)) K 4 0 0 2 [(0, .ref (K.2.2.1 + a0)), (1, .ref (K.2.2.1 + a1)), (2, .int x2), (3, .int x3)] [] (ix_w z d) := by
  unfold b_X9_gatherFrom_2 at h
  refine ix_iload_n (i := 3) (j := 3) X (ix_tb_at tb_X9_gatherFrom 2 rfl) rfl rfl (pc1 := 3) rfl ?_
  refine ix_bipush (v := 8) X (ix_tb_at tb_X9_gatherFrom 3 rfl) (by decide) (pc1 := 5) rfl ?_
  refine ix_icmp_ge (tgt := 28) X (ix_tb_at tb_X9_gatherFrom 4 rfl) (by decide) (pc1 := 8) rfl (fun q_1 => ?_) (fun q_1 => ?_)
  · have h := ix_ift q_1 h
    exact ix_vret X hr hlk (ix_r1 (g := ix_w z) h) (ix_tb_at tb_X9_gatherFrom 19 rfl)
  · have h := ix_iff q_1 h
    refine ix_aload_n (i := 0) (j := 0) X (ix_tb_at tb_X9_gatherFrom 5 rfl) rfl rfl (pc1 := 9) rfl ?_
    obtain ⟨k_2, h⟩ := ix_ck_some h
    obtain ⟨b_3, q_4, h⟩ := ix_bd1_ex h
    refine iz_getR X fl_RX9_44 k_2 q_4 (ix_tb_at tb_X9_gatherFrom 6 rfl) (pc1 := 12) rfl ?_
    refine ix_iload_n (i := 3) (j := 3) X (ix_tb_at tb_X9_gatherFrom 7 rfl) rfl rfl (pc1 := 13) rfl ?_
    refine ix_dup2 X (ix_tb_at tb_X9_gatherFrom 8 rfl) rfl rfl (pc1 := 14) rfl ?_
    obtain ⟨k_5, h⟩ := ix_ck_some h
    refine iz_lald X k_5 (ix_tb_at tb_X9_gatherFrom 9 rfl) (pc1 := 15) rfl ?_
    refine ix_aload_n (i := 1) (j := 1) X (ix_tb_at tb_X9_gatherFrom 10 rfl) rfl rfl (pc1 := 16) rfl ?_
    refine ix_iload_n (i := 2) (j := 2) X (ix_tb_at tb_X9_gatherFrom 11 rfl) rfl rfl (pc1 := 17) rfl ?_
    refine ix_iload_n (i := 3) (j := 3) X (ix_tb_at tb_X9_gatherFrom 12 rfl) rfl rfl (pc1 := 18) rfl ?_
    refine ix_iadd X (ix_tb_at tb_X9_gatherFrom 13 rfl) (pc1 := 19) rfl ?_
    obtain ⟨k_6, h⟩ := ix_ck_some h
    refine iz_lald X k_6 (ix_tb_at tb_X9_gatherFrom 14 rfl) (pc1 := 20) rfl ?_
    refine ix_lor X (ix_tb_at tb_X9_gatherFrom 15 rfl) (pc1 := 21) rfl ?_
    obtain ⟨d_7, e_8, h⟩ := ix_lt_ex h
    refine iz_last X k_5 (ix_tb_at tb_X9_gatherFrom 16 rfl) e_8 (pc1 := 22) rfl ?_
    obtain ⟨x3_9, e_10, h⟩ := ix_lt_ex h
    refine ix_iinc (i := 3) (j := 3) (v := x3_9) (L1 := [(3, .int x3_9), (0, .ref (K.2.2.1 + a0)), (1, .ref (K.2.2.1 + a1)), (2, .int x2)]) X (ix_tb_at tb_X9_gatherFrom 17 rfl) rfl (by rw [oi_1]; exact e_10.symm) (Nat.le_of_ble_eq_true rfl) rfl (pc1 := 25) rfl ?_
    refine ix_goto (tgt := 2) X (ix_tb_at tb_X9_gatherFrom 18 rfl) (by decide) ?_
    refine ix_sub (L1 := [(0, .ref (K.2.2.1 + a0)), (1, .ref (K.2.2.1 + a1)), (2, .int x2), (3, .int x3_9)]) [1, 2, 3, 0] rfl ?_
    exact hrec2 x3_9 d_7 h
theorem t_X9_gatherFrom_2 {l : Launch} {p : Program} {e : Env} {s : State} {m : MethodId} {args : Array Value} {below : List Frame} {meth : Method} {c : Code} {K : ix_Cx} (hKp : ix_Kp K) {n : Nat} {z : ix_Z} (X : ix_X p s m args c K cX9_gatherFrom RX9 4) (hr : meth.sig.returnType = (none : Option Jvm.ClassFile.FieldType)) (hlk : meth.locks = false)  {a0 : Nat} {a1 : Nat} {x2 : Int32} {d1 : ix_D2}  {x3 : Int32} {d : ix_D2} (h : f_X9_gatherFrom_2 n z  a0 a1 x2 x3 d = some d1) : ix_G p l e (ix_rm 0 0 0 0) s m args below meth c (MQ below (ix_Post K none (ix_w z d1)) args s 0 0 (ix_A K)) K 4 0 0 2 [(0, .ref (K.2.2.1 + a0)), (1, .ref (K.2.2.1 + a1)), (2, .int x2), (3, .int x3)] [] (ix_w z d) := by
  have key : ∀ (f : Nat) (x3 : Int32) (d : ix_D2), ix_fix (b_X9_gatherFrom_2 n z  a0 a1 x2) (fun _ _ => none) f x3 d = some d1 → ix_G p l e (ix_rm 0 0 0 0) s m args below meth c (MQ below (ix_Post K none (ix_w z d1)) args s 0 0 (ix_A K)) K 4 0 0 2 [(0, .ref (K.2.2.1 + a0)), (1, .ref (K.2.2.1 + a1)), (2, .int x2), (3, .int x3)] [] (ix_w z d) := by
    intro f
    induction f with
    | zero =>
      intro x3 d h
      have h : (none : Option (ix_D2)) = some d1 := h
      cases h
    | succ f ih =>
      intro x3 d h
      exact tb_X9_gatherFrom_2 hKp X hr hlk (rec2 := ix_fix (b_X9_gatherFrom_2 n z  a0 a1 x2) (fun _ _ => none) f)  ih h
  exact key n x3 d h
set_option maxRecDepth 20000 in
theorem c_X9_gatherFrom {l : Launch} {K : ix_Cx} (hKp : ix_Kp K) {n : Nat} {z : ix_Z} {a0 : Nat} {a1 : Nat} {x2 : Int32} {d : ix_D2} {d1 : ix_D2} (h : f_X9_gatherFrom n z a0 a1 x2 d = some d1) : ix_M l K yX9_gatherFrom cX9_gatherFrom 4 (none : Option Jvm.ClassFile.FieldType) 0 0 0 0 [.ref (K.2.2.1 + a0), .ref (K.2.2.1 + a1), .int x2] (ix_w z d) none (ix_w z d1) := by
  refine ix_met mf_X9_gatherFrom hKp (Nat.le_of_ble_eq_true rfl) ?_
  intro p e s m args below meth c hr hlk hnm X
  have X : ix_X p s m args c K cX9_gatherFrom RX9 4 := X
  show ix_G p l e (ix_rm 0 0 0 0) s m args below meth c (MQ below (ix_Post K none (ix_w z d1)) args s 0 0 (ix_A K)) K 4 0 0 0 [(0, .ref (K.2.2.1 + a0)), (1, .ref (K.2.2.1 + a1)), (2, .int x2)] [] (ix_w z d)
  unfold f_X9_gatherFrom at h
  refine ix_iconst (v := 0) X (ix_tb_at tb_X9_gatherFrom 0 rfl) (by decide) (pc1 := 1) rfl ?_
  refine ix_istore_n (i := 3) (L1 := [(3, .int 0), (0, .ref (K.2.2.1 + a0)), (1, .ref (K.2.2.1 + a1)), (2, .int x2)]) X (ix_tb_at tb_X9_gatherFrom 1 rfl) rfl (Nat.le_of_ble_eq_true rfl) rfl (pc1 := 2) rfl ?_
  refine ix_sub (L1 := [(0, .ref (K.2.2.1 + a0)), (1, .ref (K.2.2.1 + a1)), (2, .int x2), (3, .int 0)]) [1, 2, 3, 0] rfl ?_
  exact t_X9_gatherFrom_2 hKp X hr hlk  h
def tab_X9_gatherRow : List (Nat × Instr × Nat) := [(0, .iload_n 1, 1), (1, .aload_n 0, 1), (2, .getfield 12, 3), (5, .getfield 110, 3), (8, .if_icmp .ge 24, 3), (11, .aload_n 0, 1), (12, .getfield 44, 3), (15, .iload_n 1, 1), (16, .bipush 64, 2), (18, .idiv, 1), (19, .dup2, 1), (20, .laload, 1), (21, .lconst 1, 1), (22, .iload_n 1, 1), (23, .bipush 64, 2), (25, .irem, 1), (26, .lshl, 1), (27, .lor, 1), (28, .lastore, 1), (29, .goto 34, 3), (32, .iload_n 1, 1), (33, .aload_n 0, 1), (34, .getfield 12, 3), (37, .getfield 113, 3), (40, .if_icmp .lt 23, 3), (43, .aload_n 0, 1), (44, .aload_n 0, 1), (45, .getfield 38, 3), (48, .iload_n 1, 1), (49, .aload_n 0, 1), (50, .getfield 12, 3), (53, .getfield 113, 3), (56, .isub, 1), (57, .bipush 8, 2), (59, .imul, 1), (60, .invokevirtual 312, 3), (63, .return_, 1)]
theorem tb_X9_gatherRow : ix_tab cX9_gatherRow tab_X9_gatherRow := by
  unfold ix_tab
  decide +kernel
noncomputable def f_X9_gatherRow (n : Nat) (z : ix_Z) (a0 : Nat) (x1 : Int32) (d : ix_D2) : Option (ix_D2) :=
  ix_ck (ix_ok z [8] a0) (ix_bd1 (z.1 a0 0) (fun b_2 => ix_ck (ix_ok z [1] b_2) (ix_if (d.1 b_2 15 ≤ x1) (ix_if (x1 < d.1 b_2 16) (some d) (ix_bd1 (z.1 a0 7) (fun b_7 => ix_bd1 (f_X9_gatherFrom n z a0 b_7 ((x1 - (d.1 b_2 16)) * 8) d) (fun d_9 => some d_9)))) (ix_bd1 (z.1 a0 9) (fun b_11 => ix_ck (ix_ix z 23 b_11 (x1 / 64)) (ix_lt (ix_dj d b_11 (ix_n (x1 / 64)) ((d.2 b_11 (ix_n (x1 / 64))) ||| (1 <<< ((x1 - x1 / 64 * 64).toInt64 &&& 63)))) (fun d_14 => some d_14)))))))
set_option maxRecDepth 20000 in
theorem c_X9_gatherRow {l : Launch} {K : ix_Cx} (hKp : ix_Kp K) {n : Nat} {z : ix_Z} {a0 : Nat} {x1 : Int32} {d : ix_D2} {d1 : ix_D2} (h : f_X9_gatherRow n z a0 x1 d = some d1) : ix_M l K yX9_gatherRow cX9_gatherRow 2 (none : Option Jvm.ClassFile.FieldType) 1 23 0 0 [.ref (K.2.2.1 + a0), .int x1] (ix_w z d) none (ix_w z d1) := by
  refine ix_met mf_X9_gatherRow hKp (Nat.le_of_ble_eq_true rfl) ?_
  intro p e s m args below meth c hr hlk hnm X
  have X : ix_X p s m args c K cX9_gatherRow RX9 2 := X
  show ix_G p l e (ix_rm 1 23 0 0) s m args below meth c (MQ below (ix_Post K none (ix_w z d1)) args s 0 0 (ix_A K)) K 2 0 0 0 [(0, .ref (K.2.2.1 + a0)), (1, .int x1)] [] (ix_w z d)
  unfold f_X9_gatherRow at h
  refine ix_iload_n (i := 1) (j := 1) X (ix_tb_at tb_X9_gatherRow 0 rfl) rfl rfl (pc1 := 1) rfl ?_
  refine ix_aload_n (i := 0) (j := 0) X (ix_tb_at tb_X9_gatherRow 1 rfl) rfl rfl (pc1 := 2) rfl ?_
  obtain ⟨k_1, h⟩ := ix_ck_some h
  obtain ⟨b_2, q_3, h⟩ := ix_bd1_ex h
  refine iz_getR X fl_RX9_12 k_1 q_3 (ix_tb_at tb_X9_gatherRow 2 rfl) (pc1 := 5) rfl ?_
  obtain ⟨k_4, h⟩ := ix_ck_some h
  refine iz_getI X fl_RX9_110 k_4 (ix_tb_at tb_X9_gatherRow 3 rfl) (pc1 := 8) rfl ?_
  refine ix_icmp_ge (tgt := 32) X (ix_tb_at tb_X9_gatherRow 4 rfl) (by decide) (pc1 := 11) rfl (fun q_5 => ?_) (fun q_5 => ?_)
  · have h := ix_ift q_5 h
    refine ix_iload_n (i := 1) (j := 1) X (ix_tb_at tb_X9_gatherRow 20 rfl) rfl rfl (pc1 := 33) rfl ?_
    refine ix_aload_n (i := 0) (j := 0) X (ix_tb_at tb_X9_gatherRow 21 rfl) rfl rfl (pc1 := 34) rfl ?_
    refine iz_getR X fl_RX9_12 k_1 q_3 (ix_tb_at tb_X9_gatherRow 22 rfl) (pc1 := 37) rfl ?_
    refine iz_getI X fl_RX9_113 k_4 (ix_tb_at tb_X9_gatherRow 23 rfl) (pc1 := 40) rfl ?_
    refine ix_icmp_lt (tgt := 63) X (ix_tb_at tb_X9_gatherRow 24 rfl) (by decide) (pc1 := 43) rfl (fun q_6 => ?_) (fun q_6 => ?_)
    · have h := ix_ift q_6 h
      exact ix_vret X hr hlk (ix_r1 (g := ix_w z) h) (ix_tb_at tb_X9_gatherRow 36 rfl)
    · have h := ix_iff q_6 h
      refine ix_aload_n (i := 0) (j := 0) X (ix_tb_at tb_X9_gatherRow 25 rfl) rfl rfl (pc1 := 44) rfl ?_
      refine ix_aload_n (i := 0) (j := 0) X (ix_tb_at tb_X9_gatherRow 26 rfl) rfl rfl (pc1 := 45) rfl ?_
      obtain ⟨b_7, q_8, h⟩ := ix_bd1_ex h
      refine iz_getR X fl_RX9_38 k_1 q_8 (ix_tb_at tb_X9_gatherRow 27 rfl) (pc1 := 48) rfl ?_
      refine ix_iload_n (i := 1) (j := 1) X (ix_tb_at tb_X9_gatherRow 28 rfl) rfl rfl (pc1 := 49) rfl ?_
      refine ix_aload_n (i := 0) (j := 0) X (ix_tb_at tb_X9_gatherRow 29 rfl) rfl rfl (pc1 := 50) rfl ?_
      refine iz_getR X fl_RX9_12 k_1 q_3 (ix_tb_at tb_X9_gatherRow 30 rfl) (pc1 := 53) rfl ?_
      refine iz_getI X fl_RX9_113 k_4 (ix_tb_at tb_X9_gatherRow 31 rfl) (pc1 := 56) rfl ?_
      refine ix_isub X (ix_tb_at tb_X9_gatherRow 32 rfl) (pc1 := 57) rfl ?_
      refine ix_bipush (v := 8) X (ix_tb_at tb_X9_gatherRow 33 rfl) (by decide) (pc1 := 59) rfl ?_
      refine ix_imul X (ix_tb_at tb_X9_gatherRow 34 rfl) (pc1 := 60) rfl ?_
      obtain ⟨d_9, h_10, h⟩ := ix_bd1_ex h
      refine ix_callV (As := [.ref (K.2.2.1 + b_7), .int ((x1 - (d.1 b_2 16)) * 8)]) (rest := []) (ci := 8) (T := TX9) (nf := 20) X mf_X9_gatherFrom mi_X9_gatherFrom ms_X9_gatherFrom rfl (Nat.le_of_ble_eq_true rfl) ml_RX9_312 ⟨Nat.le_of_ble_eq_true rfl, Nat.le_of_ble_eq_true rfl⟩ ⟨Nat.le_of_ble_eq_true rfl, Nat.le_of_ble_eq_true rfl⟩ rfl (Nat.le_of_ble_eq_true rfl) (ix_tb_at tb_X9_gatherRow 35 rfl) ⟨k_1.1, List.mem_singleton.mp k_1.2⟩ (c_X9_gatherFrom hKp h_10) rfl (pc1 := 63) rfl ?_
      exact ix_vret X hr hlk (ix_r1 (g := ix_w z) h) (ix_tb_at tb_X9_gatherRow 36 rfl)
  · have h := ix_iff q_5 h
    refine ix_aload_n (i := 0) (j := 0) X (ix_tb_at tb_X9_gatherRow 5 rfl) rfl rfl (pc1 := 12) rfl ?_
    obtain ⟨b_11, q_12, h⟩ := ix_bd1_ex h
    refine iz_getR X fl_RX9_44 k_1 q_12 (ix_tb_at tb_X9_gatherRow 6 rfl) (pc1 := 15) rfl ?_
    refine ix_iload_n (i := 1) (j := 1) X (ix_tb_at tb_X9_gatherRow 7 rfl) rfl rfl (pc1 := 16) rfl ?_
    refine ix_bipush (v := 64) X (ix_tb_at tb_X9_gatherRow 8 rfl) (by decide) (pc1 := 18) rfl ?_
    refine ix_idiv X (ix_tb_at tb_X9_gatherRow 9 rfl) (by decide) (pc1 := 19) rfl ?_
    refine ix_dup2 X (ix_tb_at tb_X9_gatherRow 10 rfl) rfl rfl (pc1 := 20) rfl ?_
    obtain ⟨k_13, h⟩ := ix_ck_some h
    refine iz_lald X k_13 (ix_tb_at tb_X9_gatherRow 11 rfl) (pc1 := 21) rfl ?_
    refine ix_lconst (v := 1) X (ix_tb_at tb_X9_gatherRow 12 rfl) (by decide) (pc1 := 22) rfl ?_
    refine ix_iload_n (i := 1) (j := 1) X (ix_tb_at tb_X9_gatherRow 13 rfl) rfl rfl (pc1 := 23) rfl ?_
    refine ix_bipush (v := 64) X (ix_tb_at tb_X9_gatherRow 14 rfl) (by decide) (pc1 := 25) rfl ?_
    refine ix_irem X (ix_tb_at tb_X9_gatherRow 15 rfl) (by decide) (pc1 := 26) rfl ?_
    refine ix_lshl X (ix_tb_at tb_X9_gatherRow 16 rfl) (pc1 := 27) rfl ?_
    refine ix_lor X (ix_tb_at tb_X9_gatherRow 17 rfl) (pc1 := 28) rfl ?_
    obtain ⟨d_14, e_15, h⟩ := ix_lt_ex h
    refine iz_last X k_13 (ix_tb_at tb_X9_gatherRow 18 rfl) e_15 (pc1 := 29) rfl ?_
    refine ix_goto (tgt := 63) X (ix_tb_at tb_X9_gatherRow 19 rfl) (by decide) ?_
    exact ix_vret X hr hlk (ix_r1 (g := ix_w z) h) (ix_tb_at tb_X9_gatherRow 36 rfl)
def tab_X9_gatherName : List (Nat × Instr × Nat) := [(0, .aload_n 0, 1), (1, .aload_n 0, 1), (2, .getfield 41, 3), (5, .iload_n 1, 1), (6, .bipush 8, 2), (8, .imul, 1), (9, .invokevirtual 312, 3), (12, .return_, 1)]
theorem tb_X9_gatherName : ix_tab cX9_gatherName tab_X9_gatherName := by
  unfold ix_tab
  decide +kernel
noncomputable def f_X9_gatherName (n : Nat) (z : ix_Z) (a0 : Nat) (x1 : Int32) (d : ix_D2) : Option (ix_D2) :=
  ix_ck (ix_ok z [8] a0) (ix_bd1 (z.1 a0 8) (fun b_2 => ix_bd1 (f_X9_gatherFrom n z a0 b_2 (x1 * 8) d) (fun d_4 => some d_4)))
set_option maxRecDepth 20000 in
theorem c_X9_gatherName {l : Launch} {K : ix_Cx} (hKp : ix_Kp K) {n : Nat} {z : ix_Z} {a0 : Nat} {x1 : Int32} {d : ix_D2} {d1 : ix_D2} (h : f_X9_gatherName n z a0 x1 d = some d1) : ix_M l K yX9_gatherName cX9_gatherName 2 (none : Option Jvm.ClassFile.FieldType) 1 23 0 0 [.ref (K.2.2.1 + a0), .int x1] (ix_w z d) none (ix_w z d1) := by
  refine ix_met mf_X9_gatherName hKp (Nat.le_of_ble_eq_true rfl) ?_
  intro p e s m args below meth c hr hlk hnm X
  have X : ix_X p s m args c K cX9_gatherName RX9 2 := X
  show ix_G p l e (ix_rm 1 23 0 0) s m args below meth c (MQ below (ix_Post K none (ix_w z d1)) args s 0 0 (ix_A K)) K 2 0 0 0 [(0, .ref (K.2.2.1 + a0)), (1, .int x1)] [] (ix_w z d)
  unfold f_X9_gatherName at h
  refine ix_aload_n (i := 0) (j := 0) X (ix_tb_at tb_X9_gatherName 0 rfl) rfl rfl (pc1 := 1) rfl ?_
  refine ix_aload_n (i := 0) (j := 0) X (ix_tb_at tb_X9_gatherName 1 rfl) rfl rfl (pc1 := 2) rfl ?_
  obtain ⟨k_1, h⟩ := ix_ck_some h
  obtain ⟨b_2, q_3, h⟩ := ix_bd1_ex h
  refine iz_getR X fl_RX9_41 k_1 q_3 (ix_tb_at tb_X9_gatherName 2 rfl) (pc1 := 5) rfl ?_
  refine ix_iload_n (i := 1) (j := 1) X (ix_tb_at tb_X9_gatherName 3 rfl) rfl rfl (pc1 := 6) rfl ?_
  refine ix_bipush (v := 8) X (ix_tb_at tb_X9_gatherName 4 rfl) (by decide) (pc1 := 8) rfl ?_
  refine ix_imul X (ix_tb_at tb_X9_gatherName 5 rfl) (pc1 := 9) rfl ?_
  obtain ⟨d_4, h_5, h⟩ := ix_bd1_ex h
  refine ix_callV (As := [.ref (K.2.2.1 + b_2), .int (x1 * 8)]) (rest := []) (ci := 8) (T := TX9) (nf := 20) X mf_X9_gatherFrom mi_X9_gatherFrom ms_X9_gatherFrom rfl (Nat.le_of_ble_eq_true rfl) ml_RX9_312 ⟨Nat.le_of_ble_eq_true rfl, Nat.le_of_ble_eq_true rfl⟩ ⟨Nat.le_of_ble_eq_true rfl, Nat.le_of_ble_eq_true rfl⟩ rfl (Nat.le_of_ble_eq_true rfl) (ix_tb_at tb_X9_gatherName 6 rfl) ⟨k_1.1, List.mem_singleton.mp k_1.2⟩ (c_X9_gatherFrom hKp h_5) rfl (pc1 := 12) rfl ?_
  exact ix_vret X hr hlk (ix_r1 (g := ix_w z) h) (ix_tb_at tb_X9_gatherName 7 rfl)
def tab_X9_gatherWhole : List (Nat × Instr × Nat) := [(0, .aload_n 0, 1), (1, .iload_n 1, 1), (2, .invokevirtual 256, 3), (5, .aload_n 0, 1), (6, .getfield 12, 3), (9, .getfield 107, 3), (12, .astore_n 2, 1), (13, .aload_n 2, 1), (14, .getfield 259, 3), (17, .iload_n 1, 1), (18, .iaload, 1), (19, .istore_n 3, 1), (20, .iload_n 3, 1), (21, .aload_n 2, 1), (22, .getfield 259, 3), (25, .iload_n 1, 1), (26, .iconst 1, 1), (27, .iadd, 1), (28, .iaload, 1), (29, .if_icmp .ge 22, 3), (32, .aload_n 0, 1), (33, .aload_n 2, 1), (34, .getfield 262, 3), (37, .iload_n 3, 1), (38, .iaload, 1), (39, .invokestatic 201, 3), (42, .invokevirtual 265, 3), (45, .iinc 3 1, 3), (48, .goto (-28), 3), (51, .return_, 1)]
theorem tb_X9_gatherWhole : ix_tab cX9_gatherWhole tab_X9_gatherWhole := by
  unfold ix_tab
  decide +kernel
noncomputable def b_X9_gatherWhole_20 (n : Nat) (z : ix_Z)  (a0 : Nat) (x1 : Int32) (a2 : Nat) (rec20 : Int32 → ix_D2 → Option (ix_D2)) (x3 : Int32) (d : ix_D2) : Option (ix_D2) :=
  ix_ck (ix_ok z [7] a2) (ix_bd1 (z.1 a2 1) (fun b_16 => ix_ck (ix_ix z 20 b_16 (x1 + 1)) (ix_if (d.1 b_16 (ix_n (x1 + 1)) ≤ x3) (some d) (ix_bd1 (z.1 a2 0) (fun b_20 => ix_ck (ix_ix z 20 b_20 x3) (ix_ck (ix_ok z [8] a0) (ix_bd1 (f_X9_gatherName n z a0 (ix_abs (d.1 b_20 (ix_n x3))) d) (fun d_23 => ix_lt (x3 + 1) (fun x3_26 => rec20 x3_26 d_23)))))))))
noncomputable def f_X9_gatherWhole_20 (n : Nat) (z : ix_Z)  (a0 : Nat) (x1 : Int32) (a2 : Nat) (x3 : Int32) (d : ix_D2) : Option (ix_D2) := ix_fix (b_X9_gatherWhole_20 n z  a0 x1 a2) (fun _ _ => none) n x3 d
noncomputable def f_X9_gatherWhole (n : Nat) (z : ix_Z) (a0 : Nat) (x1 : Int32) (d : ix_D2) : Option (ix_D2) :=
  ix_ck (ix_ok z [8] a0) (ix_bd1 (f_X9_gatherRow n z a0 x1 d) (fun d_1 => ix_bd1 (z.1 a0 0) (fun b_4 => ix_ck (ix_ok z [1] b_4) (ix_bd1 (z.1 b_4 0) (fun b_7 => ix_ck (ix_ok z [7] b_7) (ix_bd1 (z.1 b_7 1) (fun b_10 => ix_ck (ix_ix z 20 b_10 x1) (ix_lt (d_1.1 b_10 (ix_n x1)) (fun x3_13 => f_X9_gatherWhole_20 n z  a0 x1 b_7 x3_13 d_1)))))))))
set_option maxRecDepth 20000 in
theorem tb_X9_gatherWhole_20 {l : Launch} {p : Program} {e : Env} {s : State} {m : MethodId} {args : Array Value} {below : List Frame} {meth : Method} {c : Code} {K : ix_Cx} (hKp : ix_Kp K) {n : Nat} {z : ix_Z} (X : ix_X p s m args c K cX9_gatherWhole RX9 4) (hr : meth.sig.returnType = (none : Option Jvm.ClassFile.FieldType)) (hlk : meth.locks = false)  {a0 : Nat} {x1 : Int32} {a2 : Nat} {rec20 : Int32 → ix_D2 → Option (ix_D2)} {d1 : ix_D2} (hrec20 : ∀ (x3 : Int32) (d : ix_D2), rec20 x3 d = some d1 → ix_G p l e (ix_rm 2 44 0 0) s m args below meth c (MQ below (ix_Post K none (ix_w z d1)) args s 0 0 (ix_A K)) K 4 0 0 20 [(0, .ref (K.2.2.1 + a0)), (1, .int x1), (2, .ref (K.2.2.1 + a2)), (3, .int x3)] [] (ix_w z d)) {x3 : Int32} {d : ix_D2} (h : b_X9_gatherWhole_20 n z  a0 x1 a2 rec20 x3 d = some d1) : ix_G p l e (ix_rm 2 44 0 0) s m args below meth c (MQ below (ix_Post K none (ix_w z d1)) args s 0 0 (ix_A K)) K 4 0 0 20 [(0, .ref (K.2.2.1 + a0)), (1, .int x1), (2, .ref (K.2.2.1 + a2)), (3, .int x3)] [] (ix_w z d) := by
  unfold b_X9_gatherWhole_20 at h
  refine ix_iload_n (i := 3) (j := 3) X (ix_tb_at tb_X9_gatherWhole 12 rfl) rfl rfl (pc1 := 21) rfl ?_
  refine ix_aload_n (i := 2) (j := 2) X (ix_tb_at tb_X9_gatherWhole 13 rfl) rfl rfl (pc1 := 22) rfl ?_
  obtain ⟨k_15, h⟩ := ix_ck_some h
  obtain ⟨b_16, q_17, h⟩ := ix_bd1_ex h
  refine iz_getR X fl_RX9_259 k_15 q_17 (ix_tb_at tb_X9_gatherWhole 14 rfl) (pc1 := 25) rfl ?_
  refine ix_iload_n (i := 1) (j := 1) X (ix_tb_at tb_X9_gatherWhole 15 rfl) rfl rfl (pc1 := 26) rfl ?_
  refine ix_iconst (v := 1) X (ix_tb_at tb_X9_gatherWhole 16 rfl) (by decide) (pc1 := 27) rfl ?_
  refine ix_iadd X (ix_tb_at tb_X9_gatherWhole 17 rfl) (pc1 := 28) rfl ?_
  obtain ⟨k_18, h⟩ := ix_ck_some h
  refine iz_iald X k_18 (ix_tb_at tb_X9_gatherWhole 18 rfl) (pc1 := 29) rfl ?_
  refine ix_icmp_ge (tgt := 51) X (ix_tb_at tb_X9_gatherWhole 19 rfl) (by decide) (pc1 := 32) rfl (fun q_19 => ?_) (fun q_19 => ?_)
  · have h := ix_ift q_19 h
    exact ix_vret X hr hlk (ix_r1 (g := ix_w z) h) (ix_tb_at tb_X9_gatherWhole 29 rfl)
  · have h := ix_iff q_19 h
    refine ix_aload_n (i := 0) (j := 0) X (ix_tb_at tb_X9_gatherWhole 20 rfl) rfl rfl (pc1 := 33) rfl ?_
    refine ix_aload_n (i := 2) (j := 2) X (ix_tb_at tb_X9_gatherWhole 21 rfl) rfl rfl (pc1 := 34) rfl ?_
    obtain ⟨b_20, q_21, h⟩ := ix_bd1_ex h
    refine iz_getR X fl_RX9_262 k_15 q_21 (ix_tb_at tb_X9_gatherWhole 22 rfl) (pc1 := 37) rfl ?_
    refine ix_iload_n (i := 3) (j := 3) X (ix_tb_at tb_X9_gatherWhole 23 rfl) rfl rfl (pc1 := 38) rfl ?_
    obtain ⟨k_22, h⟩ := ix_ck_some h
    refine iz_iald X k_22 (ix_tb_at tb_X9_gatherWhole 24 rfl) (pc1 := 39) rfl ?_
    refine ix_mabs X ml_RX9_201 (Nat.le_of_ble_eq_true rfl) (Nat.le_of_ble_eq_true rfl) ⟨Nat.le_of_ble_eq_true rfl, Nat.le_of_ble_eq_true rfl⟩ (ix_tb_at tb_X9_gatherWhole 25 rfl) (pc1 := 42) rfl ?_
    obtain ⟨k_25, h⟩ := ix_ck_some h
    obtain ⟨d_23, h_24, h⟩ := ix_bd1_ex h
    refine ix_callV (As := [.int (ix_abs (d.1 b_20 (ix_n x3)))]) (rest := []) (ci := 8) (T := TX9) (nf := 20) X mf_X9_gatherName mi_X9_gatherName ms_X9_gatherName rfl (Nat.le_of_ble_eq_true rfl) ml_RX9_265 ⟨Nat.le_of_ble_eq_true rfl, Nat.le_of_ble_eq_true rfl⟩ ⟨Nat.le_of_ble_eq_true rfl, Nat.le_of_ble_eq_true rfl⟩ rfl (Nat.le_of_ble_eq_true rfl) (ix_tb_at tb_X9_gatherWhole 26 rfl) ⟨k_25.1, List.mem_singleton.mp k_25.2⟩ (c_X9_gatherName hKp h_24) rfl (pc1 := 45) rfl ?_
    obtain ⟨x3_26, e_27, h⟩ := ix_lt_ex h
    refine ix_iinc (i := 3) (j := 3) (v := x3_26) (L1 := [(3, .int x3_26), (0, .ref (K.2.2.1 + a0)), (1, .int x1), (2, .ref (K.2.2.1 + a2))]) X (ix_tb_at tb_X9_gatherWhole 27 rfl) rfl (by rw [oi_1]; exact e_27.symm) (Nat.le_of_ble_eq_true rfl) rfl (pc1 := 48) rfl ?_
    refine ix_goto (tgt := 20) X (ix_tb_at tb_X9_gatherWhole 28 rfl) (by decide) ?_
    refine ix_sub (L1 := [(0, .ref (K.2.2.1 + a0)), (1, .int x1), (2, .ref (K.2.2.1 + a2)), (3, .int x3_26)]) [1, 2, 3, 0] rfl ?_
    exact hrec20 x3_26 d_23 h
theorem t_X9_gatherWhole_20 {l : Launch} {p : Program} {e : Env} {s : State} {m : MethodId} {args : Array Value} {below : List Frame} {meth : Method} {c : Code} {K : ix_Cx} (hKp : ix_Kp K) {n : Nat} {z : ix_Z} (X : ix_X p s m args c K cX9_gatherWhole RX9 4) (hr : meth.sig.returnType = (none : Option Jvm.ClassFile.FieldType)) (hlk : meth.locks = false)  {a0 : Nat} {x1 : Int32} {a2 : Nat} {d1 : ix_D2}  {x3 : Int32} {d : ix_D2} (h : f_X9_gatherWhole_20 n z  a0 x1 a2 x3 d = some d1) : ix_G p l e (ix_rm 2 44 0 0) s m args below meth c (MQ below (ix_Post K none (ix_w z d1)) args s 0 0 (ix_A K)) K 4 0 0 20 [(0, .ref (K.2.2.1 + a0)), (1, .int x1), (2, .ref (K.2.2.1 + a2)), (3, .int x3)] [] (ix_w z d) := by
  have key : ∀ (f : Nat) (x3 : Int32) (d : ix_D2), ix_fix (b_X9_gatherWhole_20 n z  a0 x1 a2) (fun _ _ => none) f x3 d = some d1 → ix_G p l e (ix_rm 2 44 0 0) s m args below meth c (MQ below (ix_Post K none (ix_w z d1)) args s 0 0 (ix_A K)) K 4 0 0 20 [(0, .ref (K.2.2.1 + a0)), (1, .int x1), (2, .ref (K.2.2.1 + a2)), (3, .int x3)] [] (ix_w z d) := by
    intro f
    induction f with
    | zero =>
      intro x3 d h
      have h : (none : Option (ix_D2)) = some d1 := h
      cases h
    | succ f ih =>
      intro x3 d h
      exact tb_X9_gatherWhole_20 hKp X hr hlk (rec20 := ix_fix (b_X9_gatherWhole_20 n z  a0 x1 a2) (fun _ _ => none) f)  ih h
  exact key n x3 d h
set_option maxRecDepth 20000 in
theorem c_X9_gatherWhole {l : Launch} {K : ix_Cx} (hKp : ix_Kp K) {n : Nat} {z : ix_Z} {a0 : Nat} {x1 : Int32} {d : ix_D2} {d1 : ix_D2} (h : f_X9_gatherWhole n z a0 x1 d = some d1) : ix_M l K yX9_gatherWhole cX9_gatherWhole 4 (none : Option Jvm.ClassFile.FieldType) 2 44 0 0 [.ref (K.2.2.1 + a0), .int x1] (ix_w z d) none (ix_w z d1) := by
  refine ix_met mf_X9_gatherWhole hKp (Nat.le_of_ble_eq_true rfl) ?_
  intro p e s m args below meth c hr hlk hnm X
  have X : ix_X p s m args c K cX9_gatherWhole RX9 4 := X
  show ix_G p l e (ix_rm 2 44 0 0) s m args below meth c (MQ below (ix_Post K none (ix_w z d1)) args s 0 0 (ix_A K)) K 4 0 0 0 [(0, .ref (K.2.2.1 + a0)), (1, .int x1)] [] (ix_w z d)
  unfold f_X9_gatherWhole at h
  refine ix_aload_n (i := 0) (j := 0) X (ix_tb_at tb_X9_gatherWhole 0 rfl) rfl rfl (pc1 := 1) rfl ?_
  refine ix_iload_n (i := 1) (j := 1) X (ix_tb_at tb_X9_gatherWhole 1 rfl) rfl rfl (pc1 := 2) rfl ?_
  obtain ⟨k_3, h⟩ := ix_ck_some h
  obtain ⟨d_1, h_2, h⟩ := ix_bd1_ex h
  refine ix_callV (As := [.int x1]) (rest := []) (ci := 8) (T := TX9) (nf := 20) X mf_X9_gatherRow mi_X9_gatherRow ms_X9_gatherRow rfl (Nat.le_of_ble_eq_true rfl) ml_RX9_256 ⟨Nat.le_of_ble_eq_true rfl, Nat.le_of_ble_eq_true rfl⟩ ⟨Nat.le_of_ble_eq_true rfl, Nat.le_of_ble_eq_true rfl⟩ rfl (Nat.le_of_ble_eq_true rfl) (ix_tb_at tb_X9_gatherWhole 2 rfl) ⟨k_3.1, List.mem_singleton.mp k_3.2⟩ (c_X9_gatherRow hKp h_2) rfl (pc1 := 5) rfl ?_
  refine ix_aload_n (i := 0) (j := 0) X (ix_tb_at tb_X9_gatherWhole 3 rfl) rfl rfl (pc1 := 6) rfl ?_
  obtain ⟨b_4, q_5, h⟩ := ix_bd1_ex h
  refine iz_getR X fl_RX9_12 k_3 q_5 (ix_tb_at tb_X9_gatherWhole 4 rfl) (pc1 := 9) rfl ?_
  obtain ⟨k_6, h⟩ := ix_ck_some h
  obtain ⟨b_7, q_8, h⟩ := ix_bd1_ex h
  refine iz_getR X fl_RX9_107 k_6 q_8 (ix_tb_at tb_X9_gatherWhole 5 rfl) (pc1 := 12) rfl ?_
  refine ix_astore_n (i := 2) (L1 := [(2, .ref (K.2.2.1 + b_7)), (0, .ref (K.2.2.1 + a0)), (1, .int x1)]) X (ix_tb_at tb_X9_gatherWhole 6 rfl) rfl (Nat.le_of_ble_eq_true rfl) rfl (pc1 := 13) rfl ?_
  refine ix_aload_n (i := 2) (j := 0) X (ix_tb_at tb_X9_gatherWhole 7 rfl) rfl rfl (pc1 := 14) rfl ?_
  obtain ⟨k_9, h⟩ := ix_ck_some h
  obtain ⟨b_10, q_11, h⟩ := ix_bd1_ex h
  refine iz_getR X fl_RX9_259 k_9 q_11 (ix_tb_at tb_X9_gatherWhole 8 rfl) (pc1 := 17) rfl ?_
  refine ix_iload_n (i := 1) (j := 2) X (ix_tb_at tb_X9_gatherWhole 9 rfl) rfl rfl (pc1 := 18) rfl ?_
  obtain ⟨k_12, h⟩ := ix_ck_some h
  refine iz_iald X k_12 (ix_tb_at tb_X9_gatherWhole 10 rfl) (pc1 := 19) rfl ?_
  obtain ⟨x3_13, e_14, h⟩ := ix_lt_ex h
  refine ix_nmi e_14 ?_
  refine ix_istore_n (i := 3) (L1 := [(3, .int x3_13), (2, .ref (K.2.2.1 + b_7)), (0, .ref (K.2.2.1 + a0)), (1, .int x1)]) X (ix_tb_at tb_X9_gatherWhole 11 rfl) rfl (Nat.le_of_ble_eq_true rfl) rfl (pc1 := 20) rfl ?_
  refine ix_sub (L1 := [(0, .ref (K.2.2.1 + a0)), (1, .int x1), (2, .ref (K.2.2.1 + b_7)), (3, .int x3_13)]) [2, 3, 1, 0] rfl ?_
  exact t_X9_gatherWhole_20 hKp X hr hlk  h
def tab_X9_keepSources : List (Nat × Instr × Nat) := [(0, .iload_n 1, 1), (1, .sipush 800, 3), (4, .if_icmp .ge 21, 3), (7, .aload_n 0, 1), (8, .getfield 44, 3), (11, .iconst 0, 1), (12, .aload_n 0, 1), (13, .getfield 38, 3), (16, .iload_n 1, 1), (17, .bipush 8, 2), (19, .imul, 1), (20, .bipush 8, 2), (22, .invokestatic 316, 3), (25, .return_, 1)]
theorem tb_X9_keepSources : ix_tab cX9_keepSources tab_X9_keepSources := by
  unfold ix_tab
  decide +kernel
noncomputable def f_X9_keepSources (n : Nat) (z : ix_Z) (a0 : Nat) (x1 : Int32) (d : ix_D2) : Option (ix_D2) :=
  ix_if (800 ≤ x1) (some d) (ix_ck (ix_ok z [8] a0) (ix_bd1 (z.1 a0 9) (fun b_3 => ix_bd1 (z.1 a0 7) (fun b_5 => ix_ck (ix_cpk z 23 b_3 0 b_5 (x1 * 8) 8) (ix_lt (ix_cpJ d b_3 b_5 (ix_n 0) (ix_n (x1 * 8)) (ix_n 8)) (fun d_8 => some d_8))))))
set_option maxRecDepth 20000 in
theorem c_X9_keepSources {l : Launch} {K : ix_Cx} (hKp : ix_Kp K) {n : Nat} {z : ix_Z} {a0 : Nat} {x1 : Int32} {d : ix_D2} {d1 : ix_D2} (h : f_X9_keepSources n z a0 x1 d = some d1) : ix_M l K yX9_keepSources cX9_keepSources 2 (none : Option Jvm.ClassFile.FieldType) 1 26 0 0 [.ref (K.2.2.1 + a0), .int x1] (ix_w z d) none (ix_w z d1) := by
  refine ix_met2 mf_X9_keepSources hKp (Nat.le_of_ble_eq_true rfl) ?_
  intro p e s m args below meth c hr hlk hnm hsz X
  have X : ix_X p s m args c K cX9_keepSources RX9 2 := X
  show ix_G p l e (ix_rm 1 26 0 0) s m args below meth c (MQ below (ix_Post K none (ix_w z d1)) args s 0 0 (ix_A K)) K 2 0 0 0 [(0, .ref (K.2.2.1 + a0)), (1, .int x1)] [] (ix_w z d)
  unfold f_X9_keepSources at h
  refine ix_iload_n (i := 1) (j := 1) X (ix_tb_at tb_X9_keepSources 0 rfl) rfl rfl (pc1 := 1) rfl ?_
  refine ix_sipush (v := 800) X (ix_tb_at tb_X9_keepSources 1 rfl) (by decide) (pc1 := 4) rfl ?_
  refine ix_icmp_ge (tgt := 25) X (ix_tb_at tb_X9_keepSources 2 rfl) (by decide) (pc1 := 7) rfl (fun q_1 => ?_) (fun q_1 => ?_)
  · have h := ix_ift q_1 h
    exact ix_vret X hr hlk (ix_r1 (g := ix_w z) h) (ix_tb_at tb_X9_keepSources 13 rfl)
  · have h := ix_iff q_1 h
    refine ix_aload_n (i := 0) (j := 0) X (ix_tb_at tb_X9_keepSources 3 rfl) rfl rfl (pc1 := 8) rfl ?_
    obtain ⟨k_2, h⟩ := ix_ck_some h
    obtain ⟨b_3, q_4, h⟩ := ix_bd1_ex h
    refine iz_getR X fl_RX9_44 k_2 q_4 (ix_tb_at tb_X9_keepSources 4 rfl) (pc1 := 11) rfl ?_
    refine ix_iconst (v := 0) X (ix_tb_at tb_X9_keepSources 5 rfl) (by decide) (pc1 := 12) rfl ?_
    refine ix_aload_n (i := 0) (j := 0) X (ix_tb_at tb_X9_keepSources 6 rfl) rfl rfl (pc1 := 13) rfl ?_
    obtain ⟨b_5, q_6, h⟩ := ix_bd1_ex h
    refine iz_getR X fl_RX9_38 k_2 q_6 (ix_tb_at tb_X9_keepSources 7 rfl) (pc1 := 16) rfl ?_
    refine ix_iload_n (i := 1) (j := 1) X (ix_tb_at tb_X9_keepSources 8 rfl) rfl rfl (pc1 := 17) rfl ?_
    refine ix_bipush (v := 8) X (ix_tb_at tb_X9_keepSources 9 rfl) (by decide) (pc1 := 19) rfl ?_
    refine ix_imul X (ix_tb_at tb_X9_keepSources 10 rfl) (pc1 := 20) rfl ?_
    refine ix_bipush (v := 8) X (ix_tb_at tb_X9_keepSources 11 rfl) (by decide) (pc1 := 22) rfl ?_
    obtain ⟨k_7, h⟩ := ix_ck_some h
    obtain ⟨d_8, e_9, h⟩ := ix_lt_ex h
    refine iz_copyJ X hsz ml_RX9_316 k_7 (Nat.le_of_ble_eq_true rfl) (Nat.le_of_ble_eq_true rfl) (ix_tb_at tb_X9_keepSources 12 rfl) e_9 (pc1 := 25) rfl ?_
    exact ix_vret X hr hlk (ix_r1 (g := ix_w z) h) (ix_tb_at tb_X9_keepSources 13 rfl)
def tab_X9_keepLast : List (Nat × Instr × Nat) := [(0, .aload_n 0, 1), (1, .getfield 12, 3), (4, .aload_n 0, 1), (5, .getfield 128, 3), (8, .invokevirtual 213, 3), (11, .ifCond .ne 5, 3), (14, .iconst 0, 1), (15, .ireturn, 1), (16, .aload_n 0, 1), (17, .getfield 12, 3), (20, .getfield 107, 3), (23, .aload_n 0, 1), (24, .getfield 56, 3), (27, .iconst 0, 1), (28, .aload_n 0, 1), (29, .getfield 128, 3), (32, .invokevirtual 142, 3), (35, .pop, 1), (36, .aload_n 0, 1), (37, .aload_n 0, 1), (38, .getfield 47, 3), (41, .bipush 8, 2), (43, .iaload, 1), (44, .invokevirtual 231, 3), (47, .aload_n 0, 1), (48, .getfield 47, 3), (51, .bipush 8, 2), (53, .dup2, 1), (54, .iaload, 1), (55, .iconst 1, 1), (56, .iadd, 1), (57, .iastore, 1), (58, .iconst 1, 1), (59, .ireturn, 1)]
theorem tb_X9_keepLast : ix_tab cX9_keepLast tab_X9_keepLast := by
  unfold ix_tab
  decide +kernel
noncomputable def f_X9_keepLast (n : Nat) (z : ix_Z) (a0 : Nat) (d : ix_D2) : Option (Int32 × ix_D2) :=
  ix_ck (ix_ok z [8] a0) (ix_bd1 (z.1 a0 0) (fun b_2 => ix_ck (ix_ok z [1] b_2) (ix_bd2 (f_X1_recordTakes n z b_2 (d.1 a0 14) d) (fun r_7 d_4 => ix_if (r_7 = 0) (some (0, d_4)) (ix_bd1 (z.1 b_2 0) (fun b_9 => ix_bd1 (z.1 a0 13) (fun b_11 => ix_ck (ix_ok z [7] b_9) (ix_bd2 (f_X7_push n z b_9 b_11 0 (d_4.1 a0 14) d_4) (fun r_16 d_13 => ix_bd1 (z.1 a0 10) (fun b_17 => ix_ck (ix_ix z 20 b_17 8) (ix_bd1 (f_X9_keepSources n z a0 (d_13.1 b_17 (ix_n 8)) d_13) (fun d_20 => ix_lt (ix_di d_20 b_17 (ix_n 8) ((d_20.1 b_17 (ix_n 8)) + 1)) (fun d_22 => some (1, d_22))))))))))))))
set_option maxRecDepth 20000 in
theorem c_X9_keepLast {l : Launch} {K : ix_Cx} (hKp : ix_Kp K) {n : Nat} {z : ix_Z} {a0 : Nat} {d : ix_D2} {r : Int32} {d1 : ix_D2} (h : f_X9_keepLast n z a0 d = some (r, d1)) : ix_M l K yX9_keepLast cX9_keepLast 1 (some .boolean) 2 50 0 0 [.ref (K.2.2.1 + a0)] (ix_w z d) (some (.int r)) (ix_w z d1) := by
  refine ix_met mf_X9_keepLast hKp (Nat.le_of_ble_eq_true rfl) ?_
  intro p e s m args below meth c hr hlk hnm X
  have X : ix_X p s m args c K cX9_keepLast RX9 1 := X
  show ix_G p l e (ix_rm 2 50 0 0) s m args below meth c (MQ below (ix_Post K (some (.int r)) (ix_w z d1)) args s 0 0 (ix_A K)) K 1 0 0 0 [(0, .ref (K.2.2.1 + a0))] [] (ix_w z d)
  unfold f_X9_keepLast at h
  refine ix_aload_n (i := 0) (j := 0) X (ix_tb_at tb_X9_keepLast 0 rfl) rfl rfl (pc1 := 1) rfl ?_
  obtain ⟨k_1, h⟩ := ix_ck_some h
  obtain ⟨b_2, q_3, h⟩ := ix_bd1_ex h
  refine iz_getR X fl_RX9_12 k_1 q_3 (ix_tb_at tb_X9_keepLast 1 rfl) (pc1 := 4) rfl ?_
  refine ix_aload_n (i := 0) (j := 0) X (ix_tb_at tb_X9_keepLast 2 rfl) rfl rfl (pc1 := 5) rfl ?_
  refine iz_getI X fl_RX9_128 k_1 (ix_tb_at tb_X9_keepLast 3 rfl) (pc1 := 8) rfl ?_
  obtain ⟨k_6, h⟩ := ix_ck_some h
  obtain ⟨r_7, d_4, h_5, h⟩ := ix_bd2_ex h
  refine ix_callV (As := [.int (d.1 a0 14)]) (rest := []) (ci := 1) (T := TX1) (nf := 17) X mf_X1_recordTakes mi_X1_recordTakes ms_X1_recordTakes rfl (Nat.le_of_ble_eq_true rfl) ml_RX9_213 ⟨Nat.le_of_ble_eq_true rfl, Nat.le_of_ble_eq_true rfl⟩ ⟨Nat.le_of_ble_eq_true rfl, Nat.le_of_ble_eq_true rfl⟩ rfl (Nat.le_of_ble_eq_true rfl) (ix_tb_at tb_X9_keepLast 4 rfl) ⟨k_6.1, List.mem_singleton.mp k_6.2⟩ (c_X1_recordTakes hKp h_5) rfl (pc1 := 11) rfl ?_
  refine ix_if_ne (tgt := 16) X (ix_tb_at tb_X9_keepLast 5 rfl) (by decide) (pc1 := 14) rfl (fun q_8 => ?_) (fun q_8 => ?_)
  · have h := ix_iff q_8 h
    refine ix_aload_n (i := 0) (j := 0) X (ix_tb_at tb_X9_keepLast 8 rfl) rfl rfl (pc1 := 17) rfl ?_
    refine iz_getR X fl_RX9_12 k_1 q_3 (ix_tb_at tb_X9_keepLast 9 rfl) (pc1 := 20) rfl ?_
    obtain ⟨b_9, q_10, h⟩ := ix_bd1_ex h
    refine iz_getR X fl_RX9_107 k_6 q_10 (ix_tb_at tb_X9_keepLast 10 rfl) (pc1 := 23) rfl ?_
    refine ix_aload_n (i := 0) (j := 0) X (ix_tb_at tb_X9_keepLast 11 rfl) rfl rfl (pc1 := 24) rfl ?_
    obtain ⟨b_11, q_12, h⟩ := ix_bd1_ex h
    refine iz_getR X fl_RX9_56 k_1 q_12 (ix_tb_at tb_X9_keepLast 12 rfl) (pc1 := 27) rfl ?_
    refine ix_iconst (v := 0) X (ix_tb_at tb_X9_keepLast 13 rfl) (by decide) (pc1 := 28) rfl ?_
    refine ix_aload_n (i := 0) (j := 0) X (ix_tb_at tb_X9_keepLast 14 rfl) rfl rfl (pc1 := 29) rfl ?_
    refine iz_getI X fl_RX9_128 k_1 (ix_tb_at tb_X9_keepLast 15 rfl) (pc1 := 32) rfl ?_
    obtain ⟨k_15, h⟩ := ix_ck_some h
    obtain ⟨r_16, d_13, h_14, h⟩ := ix_bd2_ex h
    refine ix_callV (As := [.ref (K.2.2.1 + b_11), .int 0, .int (d_4.1 a0 14)]) (rest := []) (ci := 7) (T := TX7) (nf := 3) X mf_X7_push mi_X7_push ms_X7_push rfl (Nat.le_of_ble_eq_true rfl) ml_RX9_142 ⟨Nat.le_of_ble_eq_true rfl, Nat.le_of_ble_eq_true rfl⟩ ⟨Nat.le_of_ble_eq_true rfl, Nat.le_of_ble_eq_true rfl⟩ rfl (Nat.le_of_ble_eq_true rfl) (ix_tb_at tb_X9_keepLast 16 rfl) ⟨k_15.1, List.mem_singleton.mp k_15.2⟩ (c_X7_push hKp h_14) rfl (pc1 := 35) rfl ?_
    refine ix_pop X (ix_tb_at tb_X9_keepLast 17 rfl) rfl (pc1 := 36) rfl ?_
    refine ix_aload_n (i := 0) (j := 0) X (ix_tb_at tb_X9_keepLast 18 rfl) rfl rfl (pc1 := 37) rfl ?_
    refine ix_aload_n (i := 0) (j := 0) X (ix_tb_at tb_X9_keepLast 19 rfl) rfl rfl (pc1 := 38) rfl ?_
    obtain ⟨b_17, q_18, h⟩ := ix_bd1_ex h
    refine iz_getR X fl_RX9_47 k_1 q_18 (ix_tb_at tb_X9_keepLast 20 rfl) (pc1 := 41) rfl ?_
    refine ix_bipush (v := 8) X (ix_tb_at tb_X9_keepLast 21 rfl) (by decide) (pc1 := 43) rfl ?_
    obtain ⟨k_19, h⟩ := ix_ck_some h
    refine iz_iald X k_19 (ix_tb_at tb_X9_keepLast 22 rfl) (pc1 := 44) rfl ?_
    obtain ⟨d_20, h_21, h⟩ := ix_bd1_ex h
    refine ix_callV (As := [.int (d_13.1 b_17 (ix_n 8))]) (rest := []) (ci := 8) (T := TX9) (nf := 20) X mf_X9_keepSources mi_X9_keepSources ms_X9_keepSources rfl (Nat.le_of_ble_eq_true rfl) ml_RX9_231 ⟨Nat.le_of_ble_eq_true rfl, Nat.le_of_ble_eq_true rfl⟩ ⟨Nat.le_of_ble_eq_true rfl, Nat.le_of_ble_eq_true rfl⟩ rfl (Nat.le_of_ble_eq_true rfl) (ix_tb_at tb_X9_keepLast 23 rfl) ⟨k_1.1, List.mem_singleton.mp k_1.2⟩ (c_X9_keepSources hKp h_21) rfl (pc1 := 47) rfl ?_
    refine ix_aload_n (i := 0) (j := 0) X (ix_tb_at tb_X9_keepLast 24 rfl) rfl rfl (pc1 := 48) rfl ?_
    refine iz_getR X fl_RX9_47 k_1 q_18 (ix_tb_at tb_X9_keepLast 25 rfl) (pc1 := 51) rfl ?_
    refine ix_bipush (v := 8) X (ix_tb_at tb_X9_keepLast 26 rfl) (by decide) (pc1 := 53) rfl ?_
    refine ix_dup2 X (ix_tb_at tb_X9_keepLast 27 rfl) rfl rfl (pc1 := 54) rfl ?_
    refine iz_iald X k_19 (ix_tb_at tb_X9_keepLast 28 rfl) (pc1 := 55) rfl ?_
    refine ix_iconst (v := 1) X (ix_tb_at tb_X9_keepLast 29 rfl) (by decide) (pc1 := 56) rfl ?_
    refine ix_iadd X (ix_tb_at tb_X9_keepLast 30 rfl) (pc1 := 57) rfl ?_
    obtain ⟨d_22, e_23, h⟩ := ix_lt_ex h
    refine iz_iast X k_19 (ix_tb_at tb_X9_keepLast 31 rfl) e_23 (pc1 := 58) rfl ?_
    refine ix_iconst (v := 1) X (ix_tb_at tb_X9_keepLast 32 rfl) (by decide) (pc1 := 59) rfl ?_
    exact ix_zret X hr hlk (by decide) (ix_r2 (f := fun r => some (.int r)) (g := ix_w z) h) (ix_tb_at tb_X9_keepLast 33 rfl)
  · have h := ix_ift q_8 h
    refine ix_iconst (v := 0) X (ix_tb_at tb_X9_keepLast 6 rfl) (by decide) (pc1 := 15) rfl ?_
    exact ix_zret X hr hlk (by decide) (ix_r2 (f := fun r => some (.int r)) (g := ix_w z) h) (ix_tb_at tb_X9_keepLast 7 rfl)
def tab_X9_refute : List (Nat × Instr × Nat) := [(0, .aload_n 0, 1), (1, .getfield 44, 3), (4, .lconst 0, 1), (5, .invokestatic 238, 3), (8, .aload_n 0, 1), (9, .iload_n 1, 1), (10, .invokevirtual 302, 3), (13, .aload_n 0, 1), (14, .iconst 0, 1), (15, .putfield 128, 3), (18, .aload_n 0, 1), (19, .invokevirtual 305, 3), (22, .ifCond .ne 7, 3), (25, .sipush (-1003), 3), (28, .ireturn, 1), (29, .aload_n 0, 1), (30, .getfield 50, 3), (33, .iconst 0, 1), (34, .invokestatic 62, 3), (37, .aload_n 0, 1), (38, .getfield 50, 3), (41, .iconst 0, 1), (42, .aload_n 0, 1), (43, .getfield 12, 3), (46, .iload_n 1, 1), (47, .invokevirtual 216, 3), (50, .iastore, 1), (51, .iconst 0, 1), (52, .ireturn, 1)]
theorem tb_X9_refute : ix_tab cX9_refute tab_X9_refute := by
  unfold ix_tab
  decide +kernel
noncomputable def f_X9_refute (n : Nat) (z : ix_Z) (a0 : Nat) (x1 : Int32) (d : ix_D2) : Option (Int32 × ix_D2) :=
  ix_ck (ix_ok z [8] a0) (ix_bd1 (z.1 a0 9) (fun b_2 => ix_bd1 (f_J7_fill_d0a16 n z b_2 0 d) (fun d_4 => ix_bd1 (f_X9_gatherWhole n z a0 x1 d_4) (fun d_6 => ix_lt (ix_di d_6 a0 14 0) (fun d_8 => ix_bd2 (f_X9_keepLast n z a0 d_8) (fun r_12 d_10 => ix_if (r_12 = 0) (some ((-1003), d_10)) (ix_bd1 (z.1 a0 11) (fun b_14 => ix_bd1 (f_J7_fill_53178 n z b_14 0 d_10) (fun d_16 => ix_bd1 (z.1 a0 0) (fun b_18 => ix_ck (ix_ok z [1] b_18) (ix_bd2 (f_X1_numberOf n z b_18 x1 d_16) (fun r_23 d_20 => ix_ck (ix_ix z 20 b_14 0) (ix_lt (ix_di d_20 b_14 (ix_n 0) r_23) (fun d_25 => some (0, d_25)))))))))))))))
set_option maxRecDepth 20000 in
theorem c_X9_refute {l : Launch} {K : ix_Cx} (hKp : ix_Kp K) {n : Nat} {z : ix_Z} {a0 : Nat} {x1 : Int32} {d : ix_D2} {r : Int32} {d1 : ix_D2} (h : f_X9_refute n z a0 x1 d = some (r, d1)) : ix_M l K yX9_refute cX9_refute 2 (some .int) 3 70 0 0 [.ref (K.2.2.1 + a0), .int x1] (ix_w z d) (some (.int r)) (ix_w z d1) := by
  refine ix_met mf_X9_refute hKp (Nat.le_of_ble_eq_true rfl) ?_
  intro p e s m args below meth c hr hlk hnm X
  have X : ix_X p s m args c K cX9_refute RX9 2 := X
  show ix_G p l e (ix_rm 3 70 0 0) s m args below meth c (MQ below (ix_Post K (some (.int r)) (ix_w z d1)) args s 0 0 (ix_A K)) K 2 0 0 0 [(0, .ref (K.2.2.1 + a0)), (1, .int x1)] [] (ix_w z d)
  unfold f_X9_refute at h
  refine ix_aload_n (i := 0) (j := 0) X (ix_tb_at tb_X9_refute 0 rfl) rfl rfl (pc1 := 1) rfl ?_
  obtain ⟨k_1, h⟩ := ix_ck_some h
  obtain ⟨b_2, q_3, h⟩ := ix_bd1_ex h
  refine iz_getR X fl_RX9_44 k_1 q_3 (ix_tb_at tb_X9_refute 1 rfl) (pc1 := 4) rfl ?_
  refine ix_lconst (v := 0) X (ix_tb_at tb_X9_refute 2 rfl) (by decide) (pc1 := 5) rfl ?_
  obtain ⟨d_4, h_5, h⟩ := ix_bd1_ex h
  refine ix_callS (As := [.ref (K.2.2.1 + b_2), .long 0]) (rest := []) X mf_J7_fill_d0a16 st_J7_fill_d0a16 ml_RX9_238 ⟨Nat.le_of_ble_eq_true rfl, Nat.le_of_ble_eq_true rfl⟩ ⟨Nat.le_of_ble_eq_true rfl, Nat.le_of_ble_eq_true rfl⟩ rfl (Nat.le_of_ble_eq_true rfl) (ix_tb_at tb_X9_refute 3 rfl) (c_J7_fill_d0a16 hKp h_5) rfl (pc1 := 8) rfl ?_
  refine ix_aload_n (i := 0) (j := 0) X (ix_tb_at tb_X9_refute 4 rfl) rfl rfl (pc1 := 9) rfl ?_
  refine ix_iload_n (i := 1) (j := 1) X (ix_tb_at tb_X9_refute 5 rfl) rfl rfl (pc1 := 10) rfl ?_
  obtain ⟨d_6, h_7, h⟩ := ix_bd1_ex h
  refine ix_callV (As := [.int x1]) (rest := []) (ci := 8) (T := TX9) (nf := 20) X mf_X9_gatherWhole mi_X9_gatherWhole ms_X9_gatherWhole rfl (Nat.le_of_ble_eq_true rfl) ml_RX9_302 ⟨Nat.le_of_ble_eq_true rfl, Nat.le_of_ble_eq_true rfl⟩ ⟨Nat.le_of_ble_eq_true rfl, Nat.le_of_ble_eq_true rfl⟩ rfl (Nat.le_of_ble_eq_true rfl) (ix_tb_at tb_X9_refute 6 rfl) ⟨k_1.1, List.mem_singleton.mp k_1.2⟩ (c_X9_gatherWhole hKp h_7) rfl (pc1 := 13) rfl ?_
  refine ix_aload_n (i := 0) (j := 0) X (ix_tb_at tb_X9_refute 7 rfl) rfl rfl (pc1 := 14) rfl ?_
  refine ix_iconst (v := 0) X (ix_tb_at tb_X9_refute 8 rfl) (by decide) (pc1 := 15) rfl ?_
  obtain ⟨d_8, e_9, h⟩ := ix_lt_ex h
  refine iz_putI X fp_RX9_128 k_1 (ix_tb_at tb_X9_refute 9 rfl) e_9 (pc1 := 18) rfl ?_
  refine ix_aload_n (i := 0) (j := 0) X (ix_tb_at tb_X9_refute 10 rfl) rfl rfl (pc1 := 19) rfl ?_
  obtain ⟨r_12, d_10, h_11, h⟩ := ix_bd2_ex h
  refine ix_callV (As := []) (rest := []) (ci := 8) (T := TX9) (nf := 20) X mf_X9_keepLast mi_X9_keepLast ms_X9_keepLast rfl (Nat.le_of_ble_eq_true rfl) ml_RX9_305 ⟨Nat.le_of_ble_eq_true rfl, Nat.le_of_ble_eq_true rfl⟩ ⟨Nat.le_of_ble_eq_true rfl, Nat.le_of_ble_eq_true rfl⟩ rfl (Nat.le_of_ble_eq_true rfl) (ix_tb_at tb_X9_refute 11 rfl) ⟨k_1.1, List.mem_singleton.mp k_1.2⟩ (c_X9_keepLast hKp h_11) rfl (pc1 := 22) rfl ?_
  refine ix_if_ne (tgt := 29) X (ix_tb_at tb_X9_refute 12 rfl) (by decide) (pc1 := 25) rfl (fun q_13 => ?_) (fun q_13 => ?_)
  · have h := ix_iff q_13 h
    refine ix_aload_n (i := 0) (j := 0) X (ix_tb_at tb_X9_refute 15 rfl) rfl rfl (pc1 := 30) rfl ?_
    obtain ⟨b_14, q_15, h⟩ := ix_bd1_ex h
    refine iz_getR X fl_RX9_50 k_1 q_15 (ix_tb_at tb_X9_refute 16 rfl) (pc1 := 33) rfl ?_
    refine ix_iconst (v := 0) X (ix_tb_at tb_X9_refute 17 rfl) (by decide) (pc1 := 34) rfl ?_
    obtain ⟨d_16, h_17, h⟩ := ix_bd1_ex h
    refine ix_callS (As := [.ref (K.2.2.1 + b_14), .int 0]) (rest := []) X mf_J7_fill_53178 st_J7_fill_53178 ml_RX9_62 ⟨Nat.le_of_ble_eq_true rfl, Nat.le_of_ble_eq_true rfl⟩ ⟨Nat.le_of_ble_eq_true rfl, Nat.le_of_ble_eq_true rfl⟩ rfl (Nat.le_of_ble_eq_true rfl) (ix_tb_at tb_X9_refute 18 rfl) (c_J7_fill_53178 hKp h_17) rfl (pc1 := 37) rfl ?_
    refine ix_aload_n (i := 0) (j := 0) X (ix_tb_at tb_X9_refute 19 rfl) rfl rfl (pc1 := 38) rfl ?_
    refine iz_getR X fl_RX9_50 k_1 q_15 (ix_tb_at tb_X9_refute 20 rfl) (pc1 := 41) rfl ?_
    refine ix_iconst (v := 0) X (ix_tb_at tb_X9_refute 21 rfl) (by decide) (pc1 := 42) rfl ?_
    refine ix_aload_n (i := 0) (j := 0) X (ix_tb_at tb_X9_refute 22 rfl) rfl rfl (pc1 := 43) rfl ?_
    obtain ⟨b_18, q_19, h⟩ := ix_bd1_ex h
    refine iz_getR X fl_RX9_12 k_1 q_19 (ix_tb_at tb_X9_refute 23 rfl) (pc1 := 46) rfl ?_
    refine ix_iload_n (i := 1) (j := 1) X (ix_tb_at tb_X9_refute 24 rfl) rfl rfl (pc1 := 47) rfl ?_
    obtain ⟨k_22, h⟩ := ix_ck_some h
    obtain ⟨r_23, d_20, h_21, h⟩ := ix_bd2_ex h
    refine ix_callV (As := [.int x1]) (rest := [.int 0, .ref (K.2.2.1 + b_14)]) (ci := 1) (T := TX1) (nf := 17) X mf_X1_numberOf mi_X1_numberOf ms_X1_numberOf rfl (Nat.le_of_ble_eq_true rfl) ml_RX9_216 ⟨Nat.le_of_ble_eq_true rfl, Nat.le_of_ble_eq_true rfl⟩ ⟨Nat.le_of_ble_eq_true rfl, Nat.le_of_ble_eq_true rfl⟩ rfl (Nat.le_of_ble_eq_true rfl) (ix_tb_at tb_X9_refute 25 rfl) ⟨k_22.1, List.mem_singleton.mp k_22.2⟩ (c_X1_numberOf hKp h_21) rfl (pc1 := 50) rfl ?_
    obtain ⟨k_24, h⟩ := ix_ck_some h
    obtain ⟨d_25, e_26, h⟩ := ix_lt_ex h
    refine iz_iast X k_24 (ix_tb_at tb_X9_refute 26 rfl) e_26 (pc1 := 51) rfl ?_
    refine ix_iconst (v := 0) X (ix_tb_at tb_X9_refute 27 rfl) (by decide) (pc1 := 52) rfl ?_
    exact ix_iret X hr hlk (ix_r2 (f := fun r => some (.int r)) (g := ix_w z) h) (ix_tb_at tb_X9_refute 28 rfl)
  · have h := ix_ift q_13 h
    refine ix_sipush (v := (-1003)) X (ix_tb_at tb_X9_refute 13 rfl) (by decide) (pc1 := 28) rfl ?_
    exact ix_iret X hr hlk (ix_r2 (f := fun r => some (.int r)) (g := ix_w z) h) (ix_tb_at tb_X9_refute 14 rfl)
def tab_X9_takeIn : List (Nat × Instr × Nat) := [(0, .iconst 0, 1), (1, .istore_n 3, 1), (2, .aload_n 0, 1), (3, .iload_n 1, 1), (4, .invokevirtual 256, 3), (7, .iload_n 1, 1), (8, .aload_n 0, 1), (9, .getfield 12, 3), (12, .getfield 113, 3), (15, .if_icmp .lt 43, 3), (18, .aload_n 0, 1), (19, .getfield 222, 3), (22, .aload_n 0, 1), (23, .getfield 59, 3), (26, .arraylength, 1), (27, .if_icmp .ge 31, 3), (30, .aload_n 0, 1), (31, .getfield 59, 3), (34, .aload_n 0, 1), (35, .getfield 222, 3), (38, .iload_n 1, 1), (39, .aload_n 0, 1), (40, .getfield 12, 3), (43, .getfield 113, 3), (46, .isub, 1), (47, .iastore, 1), (48, .aload_n 0, 1), (49, .dup, 1), (50, .getfield 222, 3), (53, .iconst 1, 1), (54, .iadd, 1), (55, .putfield 222, 3), (58, .aload_n 0, 1), (59, .getfield 12, 3), (62, .getfield 107, 3), (65, .astore 4, 2), (67, .aload 4, 2), (69, .getfield 259, 3), (72, .iload_n 1, 1), (73, .iaload, 1), (74, .istore 5, 2), (76, .iload 5, 2), (78, .aload 4, 2), (80, .getfield 259, 3), (83, .iload_n 1, 1), (84, .iconst 1, 1), (85, .iadd, 1), (86, .iaload, 1), (87, .if_icmp .ge 84, 3), (90, .aload 4, 2), (92, .getfield 262, 3), (95, .iload 5, 2), (97, .iaload, 1), (98, .invokestatic 201, 3), (101, .istore 6, 2), (103, .aload_n 0, 1), (104, .getfield 12, 3), (107, .getfield 250, 3), (110, .iload 6, 2), (112, .iaload, 1), (113, .ifCond .ne 12, 3), (116, .aload_n 0, 1), (117, .iload 6, 2), (119, .invokevirtual 265, 3), (122, .goto 43, 3), (125, .aload_n 0, 1), (126, .getfield 53, 3), (129, .iload 6, 2), (131, .iaload, 1), (132, .ifCond .ne 33, 3), (135, .aload_n 0, 1), (136, .getfield 53, 3), (139, .iload 6, 2), (141, .iconst 1, 1), (142, .iastore, 1), (143, .iload_n 3, 1), (144, .aload_n 0, 1), (145, .getfield 12, 3), (148, .getfield 250, 3), (151, .iload 6, 2), (153, .iaload, 1), (154, .iload_n 2, 1), (155, .if_icmp .ne 7, 3), (158, .iconst 1, 1), (159, .goto 4, 3), (162, .iconst 0, 1), (163, .iadd, 1), (164, .istore_n 3, 1), (165, .iinc 5 1, 3), (168, .goto (-92), 3), (171, .iload_n 3, 1), (172, .ireturn, 1)]
theorem tb_X9_takeIn : ix_tab cX9_takeIn tab_X9_takeIn := by
  unfold ix_tab
  decide +kernel
noncomputable def f_X9_takeIn_165 (n : Nat) (z : ix_Z) (rec76 : Int32 → Int32 → ix_D2 → Option (Int32 × ix_D2)) (a0 : Nat) (x1 : Int32) (x2 : Int32) (x3 : Int32) (a4 : Nat) (x5 : Int32) (d : ix_D2) : Option (Int32 × ix_D2) :=
  ix_lt (x5 + 1) (fun x5_42 => rec76 x3 x5_42 d)
noncomputable def f_X9_takeIn_163 (n : Nat) (z : ix_Z) (rec76 : Int32 → Int32 → ix_D2 → Option (Int32 × ix_D2)) (a0 : Nat) (x1 : Int32) (x2 : Int32) (a4 : Nat) (x5 : Int32) (s0 : Int32) (s1 : Int32) (d : ix_D2) : Option (Int32 × ix_D2) :=
  ix_lt (s1 + s0) (fun x3_47 => f_X9_takeIn_165 n z rec76 a0 x1 x2 x3_47 a4 x5 d)
noncomputable def b_X9_takeIn_76 (n : Nat) (z : ix_Z)  (a0 : Nat) (x1 : Int32) (x2 : Int32) (a4 : Nat) (rec76 : Int32 → Int32 → ix_D2 → Option (Int32 × ix_D2)) (x3 : Int32) (x5 : Int32) (d : ix_D2) : Option (Int32 × ix_D2) :=
  ix_ck (ix_ok z [7] a4) (ix_bd1 (z.1 a4 1) (fun b_21 => ix_ck (ix_ix z 20 b_21 (x1 + 1)) (ix_if (d.1 b_21 (ix_n (x1 + 1)) ≤ x5) (some (x3, d)) (ix_bd1 (z.1 a4 0) (fun b_25 => ix_ck (ix_ix z 20 b_25 x5) (ix_lt (ix_abs (d.1 b_25 (ix_n x5))) (fun x6_28 => ix_ck (ix_ok z [8] a0) (ix_bd1 (z.1 a0 0) (fun b_31 => ix_ck (ix_ok z [1] b_31) (ix_bd1 (z.1 b_31 9) (fun b_34 => ix_ck (ix_ix z 20 b_34 x6_28) (ix_if (d.1 b_34 (ix_n x6_28) = 0) (ix_bd1 (f_X9_gatherName n z a0 x6_28 d) (fun d_49 => f_X9_takeIn_165 n z rec76 a0 x1 x2 x3 a4 x5 d_49)) (ix_bd1 (z.1 a0 12) (fun b_38 => ix_ck (ix_ix z 20 b_38 x6_28) (ix_if (d.1 b_38 (ix_n x6_28) = 0) (ix_lt (ix_di d b_38 (ix_n x6_28) 1) (fun d_44 => ix_if (d_44.1 b_34 (ix_n x6_28) = x2) (f_X9_takeIn_163 n z rec76 a0 x1 x2 a4 x5 1 x3 d_44) (f_X9_takeIn_163 n z rec76 a0 x1 x2 a4 x5 0 x3 d_44))) (f_X9_takeIn_165 n z rec76 a0 x1 x2 x3 a4 x5 d))))))))))))))))
noncomputable def f_X9_takeIn_76 (n : Nat) (z : ix_Z)  (a0 : Nat) (x1 : Int32) (x2 : Int32) (a4 : Nat) (x3 : Int32) (x5 : Int32) (d : ix_D2) : Option (Int32 × ix_D2) := ix_fix (b_X9_takeIn_76 n z  a0 x1 x2 a4) (fun _ _ _ => none) n x3 x5 d
noncomputable def f_X9_takeIn_58 (n : Nat) (z : ix_Z)  (a0 : Nat) (x1 : Int32) (x2 : Int32) (x3 : Int32) (d : ix_D2) : Option (Int32 × ix_D2) :=
  ix_ck (ix_ok z [8] a0) (ix_bd1 (z.1 a0 0) (fun b_9 => ix_ck (ix_ok z [1] b_9) (ix_bd1 (z.1 b_9 0) (fun b_12 => ix_ck (ix_ok z [7] b_12) (ix_bd1 (z.1 b_12 1) (fun b_15 => ix_ck (ix_ix z 20 b_15 x1) (ix_lt (d.1 b_15 (ix_n x1)) (fun x5_18 => f_X9_takeIn_76 n z  a0 x1 x2 b_12 x3 x5_18 d))))))))
noncomputable def f_X9_takeIn (n : Nat) (z : ix_Z) (a0 : Nat) (x1 : Int32) (x2 : Int32) (d : ix_D2) : Option (Int32 × ix_D2) :=
  ix_ck (ix_ok z [8] a0) (ix_bd1 (f_X9_gatherRow n z a0 x1 d) (fun d_1 => ix_bd1 (z.1 a0 0) (fun b_4 => ix_ck (ix_ok z [1] b_4) (ix_if (x1 < d_1.1 b_4 16) (f_X9_takeIn_58 n z  a0 x1 x2 0 d_1) (ix_bd1 (z.1 a0 15) (fun b_51 => ix_ck (b_51 < z.2.2 ∧ 20 ≤ (z.2.1 b_51).1 ∧ (z.2.1 b_51).1 < 26) (ix_if (nI (z.2.1 b_51).2 ≤ d_1.1 a0 16) (f_X9_takeIn_58 n z  a0 x1 x2 0 d_1) (ix_ck (ix_ix z 20 b_51 (d_1.1 a0 16)) (ix_lt (ix_di d_1 b_51 (ix_n (d_1.1 a0 16)) (x1 - (d_1.1 b_4 16))) (fun d_56 => ix_lt (ix_di d_56 a0 16 ((d_56.1 a0 16) + 1)) (fun d_58 => f_X9_takeIn_58 n z  a0 x1 x2 0 d_58)))))))))))
set_option maxRecDepth 20000 in
theorem t_X9_takeIn_165 {l : Launch} {p : Program} {e : Env} {s : State} {m : MethodId} {args : Array Value} {below : List Frame} {meth : Method} {c : Code} {K : ix_Cx} (hKp : ix_Kp K) {n : Nat} {z : ix_Z} (X : ix_X p s m args c K cX9_takeIn RX9 7) (hr : meth.sig.returnType = (some .int)) (hlk : meth.locks = false) {rec76 : Int32 → Int32 → ix_D2 → Option (Int32 × ix_D2)} {a0 : Nat} {x1 : Int32} {x2 : Int32} {x3 : Int32} {a4 : Nat} {x5 : Int32} {r : Int32} {d1 : ix_D2} (hrec76 : ∀ (x3 : Int32) (x5 : Int32) (d : ix_D2), rec76 x3 x5 d = some (r, d1) → ix_G p l e (ix_rm 2 44 0 0) s m args below meth c (MQ below (ix_Post K (some (.int r)) (ix_w z d1)) args s 0 0 (ix_A K)) K 7 0 0 76 [(0, .ref (K.2.2.1 + a0)), (1, .int x1), (2, .int x2), (3, .int x3), (4, .ref (K.2.2.1 + a4)), (5, .int x5)] [] (ix_w z d)) {d : ix_D2} (h : f_X9_takeIn_165 n z rec76 a0 x1 x2 x3 a4 x5 d = some (r, d1)) : ix_G p l e (ix_rm 2 44 0 0) s m args below meth c (MQ below (ix_Post K (some (.int r)) (ix_w z d1)) args s 0 0 (ix_A K)) K 7 0 0 165 [(0, .ref (K.2.2.1 + a0)), (1, .int x1), (2, .int x2), (3, .int x3), (4, .ref (K.2.2.1 + a4)), (5, .int x5)] [] (ix_w z d) := by
  unfold f_X9_takeIn_165 at h
  obtain ⟨x5_42, e_43, h⟩ := ix_lt_ex h
  refine ix_iinc (i := 5) (j := 5) (v := x5_42) (L1 := [(5, .int x5_42), (0, .ref (K.2.2.1 + a0)), (1, .int x1), (2, .int x2), (3, .int x3), (4, .ref (K.2.2.1 + a4))]) X (ix_tb_at tb_X9_takeIn 88 rfl) rfl (by rw [oi_1]; exact e_43.symm) (Nat.le_of_ble_eq_true rfl) rfl (pc1 := 168) rfl ?_
  refine ix_goto (tgt := 76) X (ix_tb_at tb_X9_takeIn 89 rfl) (by decide) ?_
  refine ix_sub (L1 := [(0, .ref (K.2.2.1 + a0)), (1, .int x1), (2, .int x2), (3, .int x3), (4, .ref (K.2.2.1 + a4)), (5, .int x5_42)]) [1, 2, 3, 4, 5, 0] rfl ?_
  exact hrec76 x3 x5_42 d h
set_option maxRecDepth 20000 in
theorem t_X9_takeIn_163 {l : Launch} {p : Program} {e : Env} {s : State} {m : MethodId} {args : Array Value} {below : List Frame} {meth : Method} {c : Code} {K : ix_Cx} (hKp : ix_Kp K) {n : Nat} {z : ix_Z} (X : ix_X p s m args c K cX9_takeIn RX9 7) (hr : meth.sig.returnType = (some .int)) (hlk : meth.locks = false) {rec76 : Int32 → Int32 → ix_D2 → Option (Int32 × ix_D2)} {a0 : Nat} {x1 : Int32} {x2 : Int32} {a4 : Nat} {x5 : Int32} {s0 : Int32} {s1 : Int32} {r : Int32} {d1 : ix_D2} (hrec76 : ∀ (x3 : Int32) (x5 : Int32) (d : ix_D2), rec76 x3 x5 d = some (r, d1) → ix_G p l e (ix_rm 2 44 0 0) s m args below meth c (MQ below (ix_Post K (some (.int r)) (ix_w z d1)) args s 0 0 (ix_A K)) K 7 0 0 76 [(0, .ref (K.2.2.1 + a0)), (1, .int x1), (2, .int x2), (3, .int x3), (4, .ref (K.2.2.1 + a4)), (5, .int x5)] [] (ix_w z d)) {d : ix_D2} (h : f_X9_takeIn_163 n z rec76 a0 x1 x2 a4 x5 s0 s1 d = some (r, d1)) : ix_G p l e (ix_rm 2 44 0 0) s m args below meth c (MQ below (ix_Post K (some (.int r)) (ix_w z d1)) args s 0 0 (ix_A K)) K 7 0 0 163 [(0, .ref (K.2.2.1 + a0)), (1, .int x1), (2, .int x2), (4, .ref (K.2.2.1 + a4)), (5, .int x5)] [.int s0, .int s1] (ix_w z d) := by
  unfold f_X9_takeIn_163 at h
  refine ix_iadd X (ix_tb_at tb_X9_takeIn 86 rfl) (pc1 := 164) rfl ?_
  obtain ⟨x3_47, e_48, h⟩ := ix_lt_ex h
  refine ix_nmi e_48 ?_
  refine ix_istore_n (i := 3) (L1 := [(3, .int x3_47), (0, .ref (K.2.2.1 + a0)), (1, .int x1), (2, .int x2), (4, .ref (K.2.2.1 + a4)), (5, .int x5)]) X (ix_tb_at tb_X9_takeIn 87 rfl) rfl (Nat.le_of_ble_eq_true rfl) rfl (pc1 := 165) rfl ?_
  refine ix_sub (L1 := [(0, .ref (K.2.2.1 + a0)), (1, .int x1), (2, .int x2), (3, .int x3_47), (4, .ref (K.2.2.1 + a4)), (5, .int x5)]) [1, 2, 3, 0, 4, 5] rfl ?_
  exact t_X9_takeIn_165 hKp X hr hlk hrec76 h
set_option maxRecDepth 20000 in
theorem tb_X9_takeIn_76 {l : Launch} {p : Program} {e : Env} {s : State} {m : MethodId} {args : Array Value} {below : List Frame} {meth : Method} {c : Code} {K : ix_Cx} (hKp : ix_Kp K) {n : Nat} {z : ix_Z} (X : ix_X p s m args c K cX9_takeIn RX9 7) (hr : meth.sig.returnType = (some .int)) (hlk : meth.locks = false)  {a0 : Nat} {x1 : Int32} {x2 : Int32} {a4 : Nat} {rec76 : Int32 → Int32 → ix_D2 → Option (Int32 × ix_D2)} {r : Int32} {d1 : ix_D2} (hrec76 : ∀ (x3 : Int32) (x5 : Int32) (d : ix_D2), rec76 x3 x5 d = some (r, d1) → ix_G p l e (ix_rm 2 44 0 0) s m args below meth c (MQ below (ix_Post K (some (.int r)) (ix_w z d1)) args s 0 0 (ix_A K)) K 7 0 0 76 [(0, .ref (K.2.2.1 + a0)), (1, .int x1), (2, .int x2), (3, .int x3), (4, .ref (K.2.2.1 + a4)), (5, .int x5)] [] (ix_w z d)) {x3 : Int32} {x5 : Int32} {d : ix_D2} (h : b_X9_takeIn_76 n z  a0 x1 x2 a4 rec76 x3 x5 d = some (r, d1)) : ix_G p l e (ix_rm 2 44 0 0) s m args below meth c (MQ below (ix_Post K (some (.int r)) (ix_w z d1)) args s 0 0 (ix_A K)) K 7 0 0 76 [(0, .ref (K.2.2.1 + a0)), (1, .int x1), (2, .int x2), (3, .int x3), (4, .ref (K.2.2.1 + a4)), (5, .int x5)] [] (ix_w z d) := by
  unfold b_X9_takeIn_76 at h
  refine ix_iload (i := 5) (j := 5) X (ix_tb_at tb_X9_takeIn 41 rfl) rfl (pc1 := 78) rfl ?_
  refine ix_aload (i := 4) (j := 4) X (ix_tb_at tb_X9_takeIn 42 rfl) rfl (pc1 := 80) rfl ?_
  obtain ⟨k_20, h⟩ := ix_ck_some h
  obtain ⟨b_21, q_22, h⟩ := ix_bd1_ex h
  refine iz_getR X fl_RX9_259 k_20 q_22 (ix_tb_at tb_X9_takeIn 43 rfl) (pc1 := 83) rfl ?_
  refine ix_iload_n (i := 1) (j := 1) X (ix_tb_at tb_X9_takeIn 44 rfl) rfl rfl (pc1 := 84) rfl ?_
  refine ix_iconst (v := 1) X (ix_tb_at tb_X9_takeIn 45 rfl) (by decide) (pc1 := 85) rfl ?_
  refine ix_iadd X (ix_tb_at tb_X9_takeIn 46 rfl) (pc1 := 86) rfl ?_
  obtain ⟨k_23, h⟩ := ix_ck_some h
  refine iz_iald X k_23 (ix_tb_at tb_X9_takeIn 47 rfl) (pc1 := 87) rfl ?_
  refine ix_icmp_ge (tgt := 171) X (ix_tb_at tb_X9_takeIn 48 rfl) (by decide) (pc1 := 90) rfl (fun q_24 => ?_) (fun q_24 => ?_)
  · have h := ix_ift q_24 h
    refine ix_iload_n (i := 3) (j := 3) X (ix_tb_at tb_X9_takeIn 90 rfl) rfl rfl (pc1 := 172) rfl ?_
    exact ix_iret X hr hlk (ix_r2 (f := fun r => some (.int r)) (g := ix_w z) h) (ix_tb_at tb_X9_takeIn 91 rfl)
  · have h := ix_iff q_24 h
    refine ix_aload (i := 4) (j := 4) X (ix_tb_at tb_X9_takeIn 49 rfl) rfl (pc1 := 92) rfl ?_
    obtain ⟨b_25, q_26, h⟩ := ix_bd1_ex h
    refine iz_getR X fl_RX9_262 k_20 q_26 (ix_tb_at tb_X9_takeIn 50 rfl) (pc1 := 95) rfl ?_
    refine ix_iload (i := 5) (j := 5) X (ix_tb_at tb_X9_takeIn 51 rfl) rfl (pc1 := 97) rfl ?_
    obtain ⟨k_27, h⟩ := ix_ck_some h
    refine iz_iald X k_27 (ix_tb_at tb_X9_takeIn 52 rfl) (pc1 := 98) rfl ?_
    refine ix_mabs X ml_RX9_201 (Nat.le_of_ble_eq_true rfl) (Nat.le_of_ble_eq_true rfl) ⟨Nat.le_of_ble_eq_true rfl, Nat.le_of_ble_eq_true rfl⟩ (ix_tb_at tb_X9_takeIn 53 rfl) (pc1 := 101) rfl ?_
    obtain ⟨x6_28, e_29, h⟩ := ix_lt_ex h
    refine ix_nmi e_29 ?_
    refine ix_istore (i := 6) (L1 := [(6, .int x6_28), (0, .ref (K.2.2.1 + a0)), (1, .int x1), (2, .int x2), (3, .int x3), (4, .ref (K.2.2.1 + a4)), (5, .int x5)]) X (ix_tb_at tb_X9_takeIn 54 rfl) (Nat.le_of_ble_eq_true rfl) rfl (pc1 := 103) rfl ?_
    refine ix_aload_n (i := 0) (j := 1) X (ix_tb_at tb_X9_takeIn 55 rfl) rfl rfl (pc1 := 104) rfl ?_
    obtain ⟨k_30, h⟩ := ix_ck_some h
    obtain ⟨b_31, q_32, h⟩ := ix_bd1_ex h
    refine iz_getR X fl_RX9_12 k_30 q_32 (ix_tb_at tb_X9_takeIn 56 rfl) (pc1 := 107) rfl ?_
    obtain ⟨k_33, h⟩ := ix_ck_some h
    obtain ⟨b_34, q_35, h⟩ := ix_bd1_ex h
    refine iz_getR X fl_RX9_250 k_33 q_35 (ix_tb_at tb_X9_takeIn 57 rfl) (pc1 := 110) rfl ?_
    refine ix_iload (i := 6) (j := 0) X (ix_tb_at tb_X9_takeIn 58 rfl) rfl (pc1 := 112) rfl ?_
    obtain ⟨k_36, h⟩ := ix_ck_some h
    refine iz_iald X k_36 (ix_tb_at tb_X9_takeIn 59 rfl) (pc1 := 113) rfl ?_
    refine ix_if_ne (tgt := 125) X (ix_tb_at tb_X9_takeIn 60 rfl) (by decide) (pc1 := 116) rfl (fun q_37 => ?_) (fun q_37 => ?_)
    · have h := ix_iff q_37 h
      refine ix_aload_n (i := 0) (j := 1) X (ix_tb_at tb_X9_takeIn 65 rfl) rfl rfl (pc1 := 126) rfl ?_
      obtain ⟨b_38, q_39, h⟩ := ix_bd1_ex h
      refine iz_getR X fl_RX9_53 k_30 q_39 (ix_tb_at tb_X9_takeIn 66 rfl) (pc1 := 129) rfl ?_
      refine ix_iload (i := 6) (j := 0) X (ix_tb_at tb_X9_takeIn 67 rfl) rfl (pc1 := 131) rfl ?_
      obtain ⟨k_40, h⟩ := ix_ck_some h
      refine iz_iald X k_40 (ix_tb_at tb_X9_takeIn 68 rfl) (pc1 := 132) rfl ?_
      refine ix_if_ne (tgt := 165) X (ix_tb_at tb_X9_takeIn 69 rfl) (by decide) (pc1 := 135) rfl (fun q_41 => ?_) (fun q_41 => ?_)
      · have h := ix_iff q_41 h
        refine ix_sub (L1 := [(0, .ref (K.2.2.1 + a0)), (1, .int x1), (2, .int x2), (3, .int x3), (4, .ref (K.2.2.1 + a4)), (5, .int x5)]) [1, 2, 3, 4, 5, 6] rfl ?_
        exact t_X9_takeIn_165 hKp X hr hlk hrec76 h
      · have h := ix_ift q_41 h
        refine ix_aload_n (i := 0) (j := 1) X (ix_tb_at tb_X9_takeIn 70 rfl) rfl rfl (pc1 := 136) rfl ?_
        refine iz_getR X fl_RX9_53 k_30 q_39 (ix_tb_at tb_X9_takeIn 71 rfl) (pc1 := 139) rfl ?_
        refine ix_iload (i := 6) (j := 0) X (ix_tb_at tb_X9_takeIn 72 rfl) rfl (pc1 := 141) rfl ?_
        refine ix_iconst (v := 1) X (ix_tb_at tb_X9_takeIn 73 rfl) (by decide) (pc1 := 142) rfl ?_
        obtain ⟨d_44, e_45, h⟩ := ix_lt_ex h
        refine iz_iast X k_40 (ix_tb_at tb_X9_takeIn 74 rfl) e_45 (pc1 := 143) rfl ?_
        refine ix_iload_n (i := 3) (j := 4) X (ix_tb_at tb_X9_takeIn 75 rfl) rfl rfl (pc1 := 144) rfl ?_
        refine ix_aload_n (i := 0) (j := 1) X (ix_tb_at tb_X9_takeIn 76 rfl) rfl rfl (pc1 := 145) rfl ?_
        refine iz_getR X fl_RX9_12 k_30 q_32 (ix_tb_at tb_X9_takeIn 77 rfl) (pc1 := 148) rfl ?_
        refine iz_getR X fl_RX9_250 k_33 q_35 (ix_tb_at tb_X9_takeIn 78 rfl) (pc1 := 151) rfl ?_
        refine ix_iload (i := 6) (j := 0) X (ix_tb_at tb_X9_takeIn 79 rfl) rfl (pc1 := 153) rfl ?_
        refine iz_iald X k_36 (ix_tb_at tb_X9_takeIn 80 rfl) (pc1 := 154) rfl ?_
        refine ix_iload_n (i := 2) (j := 3) X (ix_tb_at tb_X9_takeIn 81 rfl) rfl rfl (pc1 := 155) rfl ?_
        refine ix_icmp_ne (tgt := 162) X (ix_tb_at tb_X9_takeIn 82 rfl) (by decide) (pc1 := 158) rfl (fun q_46 => ?_) (fun q_46 => ?_)
        · have h := ix_iff q_46 h
          refine ix_iconst (v := 0) X (ix_tb_at tb_X9_takeIn 85 rfl) (by decide) (pc1 := 163) rfl ?_
          refine ix_sub (L1 := [(0, .ref (K.2.2.1 + a0)), (1, .int x1), (2, .int x2), (4, .ref (K.2.2.1 + a4)), (5, .int x5)]) [1, 2, 3, 5, 6] rfl ?_
          exact t_X9_takeIn_163 hKp X hr hlk hrec76 h
        · have h := ix_ift q_46 h
          refine ix_iconst (v := 1) X (ix_tb_at tb_X9_takeIn 83 rfl) (by decide) (pc1 := 159) rfl ?_
          refine ix_goto (tgt := 163) X (ix_tb_at tb_X9_takeIn 84 rfl) (by decide) ?_
          refine ix_sub (L1 := [(0, .ref (K.2.2.1 + a0)), (1, .int x1), (2, .int x2), (4, .ref (K.2.2.1 + a4)), (5, .int x5)]) [1, 2, 3, 5, 6] rfl ?_
          exact t_X9_takeIn_163 hKp X hr hlk hrec76 h
    · have h := ix_ift q_37 h
      refine ix_aload_n (i := 0) (j := 1) X (ix_tb_at tb_X9_takeIn 61 rfl) rfl rfl (pc1 := 117) rfl ?_
      refine ix_iload (i := 6) (j := 0) X (ix_tb_at tb_X9_takeIn 62 rfl) rfl (pc1 := 119) rfl ?_
      obtain ⟨d_49, h_50, h⟩ := ix_bd1_ex h
      refine ix_callV (As := [.int x6_28]) (rest := []) (ci := 8) (T := TX9) (nf := 20) X mf_X9_gatherName mi_X9_gatherName ms_X9_gatherName rfl (Nat.le_of_ble_eq_true rfl) ml_RX9_265 ⟨Nat.le_of_ble_eq_true rfl, Nat.le_of_ble_eq_true rfl⟩ ⟨Nat.le_of_ble_eq_true rfl, Nat.le_of_ble_eq_true rfl⟩ rfl (Nat.le_of_ble_eq_true rfl) (ix_tb_at tb_X9_takeIn 63 rfl) ⟨k_30.1, List.mem_singleton.mp k_30.2⟩ (c_X9_gatherName hKp h_50) rfl (pc1 := 122) rfl ?_
      refine ix_goto (tgt := 165) X (ix_tb_at tb_X9_takeIn 64 rfl) (by decide) ?_
      refine ix_sub (L1 := [(0, .ref (K.2.2.1 + a0)), (1, .int x1), (2, .int x2), (3, .int x3), (4, .ref (K.2.2.1 + a4)), (5, .int x5)]) [1, 2, 3, 4, 5, 6] rfl ?_
      exact t_X9_takeIn_165 hKp X hr hlk hrec76 h
theorem t_X9_takeIn_76 {l : Launch} {p : Program} {e : Env} {s : State} {m : MethodId} {args : Array Value} {below : List Frame} {meth : Method} {c : Code} {K : ix_Cx} (hKp : ix_Kp K) {n : Nat} {z : ix_Z} (X : ix_X p s m args c K cX9_takeIn RX9 7) (hr : meth.sig.returnType = (some .int)) (hlk : meth.locks = false)  {a0 : Nat} {x1 : Int32} {x2 : Int32} {a4 : Nat} {r : Int32} {d1 : ix_D2}  {x3 : Int32} {x5 : Int32} {d : ix_D2} (h : f_X9_takeIn_76 n z  a0 x1 x2 a4 x3 x5 d = some (r, d1)) : ix_G p l e (ix_rm 2 44 0 0) s m args below meth c (MQ below (ix_Post K (some (.int r)) (ix_w z d1)) args s 0 0 (ix_A K)) K 7 0 0 76 [(0, .ref (K.2.2.1 + a0)), (1, .int x1), (2, .int x2), (3, .int x3), (4, .ref (K.2.2.1 + a4)), (5, .int x5)] [] (ix_w z d) := by
  have key : ∀ (f : Nat) (x3 : Int32) (x5 : Int32) (d : ix_D2), ix_fix (b_X9_takeIn_76 n z  a0 x1 x2 a4) (fun _ _ _ => none) f x3 x5 d = some (r, d1) → ix_G p l e (ix_rm 2 44 0 0) s m args below meth c (MQ below (ix_Post K (some (.int r)) (ix_w z d1)) args s 0 0 (ix_A K)) K 7 0 0 76 [(0, .ref (K.2.2.1 + a0)), (1, .int x1), (2, .int x2), (3, .int x3), (4, .ref (K.2.2.1 + a4)), (5, .int x5)] [] (ix_w z d) := by
    intro f
    induction f with
    | zero =>
      intro x3 x5 d h
      have h : (none : Option (Int32 × ix_D2)) = some (r, d1) := h
      cases h
    | succ f ih =>
      intro x3 x5 d h
      exact tb_X9_takeIn_76 hKp X hr hlk (rec76 := ix_fix (b_X9_takeIn_76 n z  a0 x1 x2 a4) (fun _ _ _ => none) f)  ih h
  exact key n x3 x5 d h
set_option maxRecDepth 20000 in
theorem t_X9_takeIn_58 {l : Launch} {p : Program} {e : Env} {s : State} {m : MethodId} {args : Array Value} {below : List Frame} {meth : Method} {c : Code} {K : ix_Cx} (hKp : ix_Kp K) {n : Nat} {z : ix_Z} (X : ix_X p s m args c K cX9_takeIn RX9 7) (hr : meth.sig.returnType = (some .int)) (hlk : meth.locks = false)  {a0 : Nat} {x1 : Int32} {x2 : Int32} {x3 : Int32} {r : Int32} {d1 : ix_D2}  {d : ix_D2} (h : f_X9_takeIn_58 n z  a0 x1 x2 x3 d = some (r, d1)) : ix_G p l e (ix_rm 2 44 0 0) s m args below meth c (MQ below (ix_Post K (some (.int r)) (ix_w z d1)) args s 0 0 (ix_A K)) K 7 0 0 58 [(0, .ref (K.2.2.1 + a0)), (1, .int x1), (2, .int x2), (3, .int x3)] [] (ix_w z d) := by
  unfold f_X9_takeIn_58 at h
  refine ix_aload_n (i := 0) (j := 0) X (ix_tb_at tb_X9_takeIn 32 rfl) rfl rfl (pc1 := 59) rfl ?_
  obtain ⟨k_8, h⟩ := ix_ck_some h
  obtain ⟨b_9, q_10, h⟩ := ix_bd1_ex h
  refine iz_getR X fl_RX9_12 k_8 q_10 (ix_tb_at tb_X9_takeIn 33 rfl) (pc1 := 62) rfl ?_
  obtain ⟨k_11, h⟩ := ix_ck_some h
  obtain ⟨b_12, q_13, h⟩ := ix_bd1_ex h
  refine iz_getR X fl_RX9_107 k_11 q_13 (ix_tb_at tb_X9_takeIn 34 rfl) (pc1 := 65) rfl ?_
  refine ix_astore (i := 4) (L1 := [(4, .ref (K.2.2.1 + b_12)), (0, .ref (K.2.2.1 + a0)), (1, .int x1), (2, .int x2), (3, .int x3)]) X (ix_tb_at tb_X9_takeIn 35 rfl) (Nat.le_of_ble_eq_true rfl) rfl (pc1 := 67) rfl ?_
  refine ix_aload (i := 4) (j := 0) X (ix_tb_at tb_X9_takeIn 36 rfl) rfl (pc1 := 69) rfl ?_
  obtain ⟨k_14, h⟩ := ix_ck_some h
  obtain ⟨b_15, q_16, h⟩ := ix_bd1_ex h
  refine iz_getR X fl_RX9_259 k_14 q_16 (ix_tb_at tb_X9_takeIn 37 rfl) (pc1 := 72) rfl ?_
  refine ix_iload_n (i := 1) (j := 2) X (ix_tb_at tb_X9_takeIn 38 rfl) rfl rfl (pc1 := 73) rfl ?_
  obtain ⟨k_17, h⟩ := ix_ck_some h
  refine iz_iald X k_17 (ix_tb_at tb_X9_takeIn 39 rfl) (pc1 := 74) rfl ?_
  obtain ⟨x5_18, e_19, h⟩ := ix_lt_ex h
  refine ix_nmi e_19 ?_
  refine ix_istore (i := 5) (L1 := [(5, .int x5_18), (4, .ref (K.2.2.1 + b_12)), (0, .ref (K.2.2.1 + a0)), (1, .int x1), (2, .int x2), (3, .int x3)]) X (ix_tb_at tb_X9_takeIn 40 rfl) (Nat.le_of_ble_eq_true rfl) rfl (pc1 := 76) rfl ?_
  refine ix_sub (L1 := [(0, .ref (K.2.2.1 + a0)), (1, .int x1), (2, .int x2), (3, .int x3), (4, .ref (K.2.2.1 + b_12)), (5, .int x5_18)]) [2, 3, 4, 5, 1, 0] rfl ?_
  exact t_X9_takeIn_76 hKp X hr hlk  h
set_option maxRecDepth 20000 in
theorem c_X9_takeIn {l : Launch} {K : ix_Cx} (hKp : ix_Kp K) {n : Nat} {z : ix_Z} {a0 : Nat} {x1 : Int32} {x2 : Int32} {d : ix_D2} {r : Int32} {d1 : ix_D2} (h : f_X9_takeIn n z a0 x1 x2 d = some (r, d1)) : ix_M l K yX9_takeIn cX9_takeIn 7 (some .int) 2 44 0 0 [.ref (K.2.2.1 + a0), .int x1, .int x2] (ix_w z d) (some (.int r)) (ix_w z d1) := by
  refine ix_met mf_X9_takeIn hKp (Nat.le_of_ble_eq_true rfl) ?_
  intro p e s m args below meth c hr hlk hnm X
  have X : ix_X p s m args c K cX9_takeIn RX9 7 := X
  show ix_G p l e (ix_rm 2 44 0 0) s m args below meth c (MQ below (ix_Post K (some (.int r)) (ix_w z d1)) args s 0 0 (ix_A K)) K 7 0 0 0 [(0, .ref (K.2.2.1 + a0)), (1, .int x1), (2, .int x2)] [] (ix_w z d)
  unfold f_X9_takeIn at h
  refine ix_iconst (v := 0) X (ix_tb_at tb_X9_takeIn 0 rfl) (by decide) (pc1 := 1) rfl ?_
  refine ix_istore_n (i := 3) (L1 := [(3, .int 0), (0, .ref (K.2.2.1 + a0)), (1, .int x1), (2, .int x2)]) X (ix_tb_at tb_X9_takeIn 1 rfl) rfl (Nat.le_of_ble_eq_true rfl) rfl (pc1 := 2) rfl ?_
  refine ix_aload_n (i := 0) (j := 1) X (ix_tb_at tb_X9_takeIn 2 rfl) rfl rfl (pc1 := 3) rfl ?_
  refine ix_iload_n (i := 1) (j := 2) X (ix_tb_at tb_X9_takeIn 3 rfl) rfl rfl (pc1 := 4) rfl ?_
  obtain ⟨k_3, h⟩ := ix_ck_some h
  obtain ⟨d_1, h_2, h⟩ := ix_bd1_ex h
  refine ix_callV (As := [.int x1]) (rest := []) (ci := 8) (T := TX9) (nf := 20) X mf_X9_gatherRow mi_X9_gatherRow ms_X9_gatherRow rfl (Nat.le_of_ble_eq_true rfl) ml_RX9_256 ⟨Nat.le_of_ble_eq_true rfl, Nat.le_of_ble_eq_true rfl⟩ ⟨Nat.le_of_ble_eq_true rfl, Nat.le_of_ble_eq_true rfl⟩ rfl (Nat.le_of_ble_eq_true rfl) (ix_tb_at tb_X9_takeIn 4 rfl) ⟨k_3.1, List.mem_singleton.mp k_3.2⟩ (c_X9_gatherRow hKp h_2) rfl (pc1 := 7) rfl ?_
  refine ix_iload_n (i := 1) (j := 2) X (ix_tb_at tb_X9_takeIn 5 rfl) rfl rfl (pc1 := 8) rfl ?_
  refine ix_aload_n (i := 0) (j := 1) X (ix_tb_at tb_X9_takeIn 6 rfl) rfl rfl (pc1 := 9) rfl ?_
  obtain ⟨b_4, q_5, h⟩ := ix_bd1_ex h
  refine iz_getR X fl_RX9_12 k_3 q_5 (ix_tb_at tb_X9_takeIn 7 rfl) (pc1 := 12) rfl ?_
  obtain ⟨k_6, h⟩ := ix_ck_some h
  refine iz_getI X fl_RX9_113 k_6 (ix_tb_at tb_X9_takeIn 8 rfl) (pc1 := 15) rfl ?_
  refine ix_icmp_lt (tgt := 58) X (ix_tb_at tb_X9_takeIn 9 rfl) (by decide) (pc1 := 18) rfl (fun q_7 => ?_) (fun q_7 => ?_)
  · have h := ix_ift q_7 h
    refine ix_sub (L1 := [(0, .ref (K.2.2.1 + a0)), (1, .int x1), (2, .int x2), (3, .int 0)]) [1, 2, 3, 0] rfl ?_
    exact t_X9_takeIn_58 hKp X hr hlk  h
  · have h := ix_iff q_7 h
    refine ix_aload_n (i := 0) (j := 1) X (ix_tb_at tb_X9_takeIn 10 rfl) rfl rfl (pc1 := 19) rfl ?_
    refine iz_getI X fl_RX9_222 k_3 (ix_tb_at tb_X9_takeIn 11 rfl) (pc1 := 22) rfl ?_
    refine ix_aload_n (i := 0) (j := 1) X (ix_tb_at tb_X9_takeIn 12 rfl) rfl rfl (pc1 := 23) rfl ?_
    obtain ⟨b_51, q_52, h⟩ := ix_bd1_ex h
    refine iz_getR X fl_RX9_59 k_3 q_52 (ix_tb_at tb_X9_takeIn 13 rfl) (pc1 := 26) rfl ?_
    obtain ⟨k_53, h⟩ := ix_ck_some h
    refine iz_alen X k_53 (ix_tb_at tb_X9_takeIn 14 rfl) (pc1 := 27) rfl ?_
    refine ix_icmp_ge (tgt := 58) X (ix_tb_at tb_X9_takeIn 15 rfl) (by decide) (pc1 := 30) rfl (fun q_54 => ?_) (fun q_54 => ?_)
    · have h := ix_ift q_54 h
      refine ix_sub (L1 := [(0, .ref (K.2.2.1 + a0)), (1, .int x1), (2, .int x2), (3, .int 0)]) [1, 2, 3, 0] rfl ?_
      exact t_X9_takeIn_58 hKp X hr hlk  h
    · have h := ix_iff q_54 h
      refine ix_aload_n (i := 0) (j := 1) X (ix_tb_at tb_X9_takeIn 16 rfl) rfl rfl (pc1 := 31) rfl ?_
      refine iz_getR X fl_RX9_59 k_3 q_52 (ix_tb_at tb_X9_takeIn 17 rfl) (pc1 := 34) rfl ?_
      refine ix_aload_n (i := 0) (j := 1) X (ix_tb_at tb_X9_takeIn 18 rfl) rfl rfl (pc1 := 35) rfl ?_
      refine iz_getI X fl_RX9_222 k_3 (ix_tb_at tb_X9_takeIn 19 rfl) (pc1 := 38) rfl ?_
      refine ix_iload_n (i := 1) (j := 2) X (ix_tb_at tb_X9_takeIn 20 rfl) rfl rfl (pc1 := 39) rfl ?_
      refine ix_aload_n (i := 0) (j := 1) X (ix_tb_at tb_X9_takeIn 21 rfl) rfl rfl (pc1 := 40) rfl ?_
      refine iz_getR X fl_RX9_12 k_3 q_5 (ix_tb_at tb_X9_takeIn 22 rfl) (pc1 := 43) rfl ?_
      refine iz_getI X fl_RX9_113 k_6 (ix_tb_at tb_X9_takeIn 23 rfl) (pc1 := 46) rfl ?_
      refine ix_isub X (ix_tb_at tb_X9_takeIn 24 rfl) (pc1 := 47) rfl ?_
      obtain ⟨k_55, h⟩ := ix_ck_some h
      obtain ⟨d_56, e_57, h⟩ := ix_lt_ex h
      refine iz_iast X k_55 (ix_tb_at tb_X9_takeIn 25 rfl) e_57 (pc1 := 48) rfl ?_
      refine ix_aload_n (i := 0) (j := 1) X (ix_tb_at tb_X9_takeIn 26 rfl) rfl rfl (pc1 := 49) rfl ?_
      refine ix_dup X (ix_tb_at tb_X9_takeIn 27 rfl) rfl (pc1 := 50) rfl ?_
      refine iz_getI X fl_RX9_222 k_3 (ix_tb_at tb_X9_takeIn 28 rfl) (pc1 := 53) rfl ?_
      refine ix_iconst (v := 1) X (ix_tb_at tb_X9_takeIn 29 rfl) (by decide) (pc1 := 54) rfl ?_
      refine ix_iadd X (ix_tb_at tb_X9_takeIn 30 rfl) (pc1 := 55) rfl ?_
      obtain ⟨d_58, e_59, h⟩ := ix_lt_ex h
      refine iz_putI X fp_RX9_222 k_3 (ix_tb_at tb_X9_takeIn 31 rfl) e_59 (pc1 := 58) rfl ?_
      refine ix_sub (L1 := [(0, .ref (K.2.2.1 + a0)), (1, .int x1), (2, .int x2), (3, .int 0)]) [1, 2, 3, 0] rfl ?_
      exact t_X9_takeIn_58 hKp X hr hlk  h
def tab_X9_walkBack : List (Nat × Instr × Nat) := [(0, .aload_n 0, 1), (1, .getfield 53, 3), (4, .iconst 0, 1), (5, .invokestatic 62, 3), (8, .aload_n 0, 1), (9, .getfield 44, 3), (12, .lconst 0, 1), (13, .invokestatic 238, 3), (16, .aload_n 0, 1), (17, .iconst 0, 1), (18, .putfield 222, 3), (21, .aload_n 0, 1), (22, .iload_n 1, 1), (23, .iload_n 2, 1), (24, .invokevirtual 241, 3), (27, .istore_n 3, 1), (28, .aload_n 0, 1), (29, .getfield 12, 3), (32, .getfield 244, 3), (35, .iconst 1, 1), (36, .isub, 1), (37, .istore 4, 2), (39, .iload 4, 2), (41, .ifCond .lt 109, 3), (44, .aload_n 0, 1), (45, .getfield 12, 3), (48, .getfield 247, 3), (51, .iload 4, 2), (53, .iaload, 1), (54, .invokestatic 201, 3), (57, .istore 5, 2), (59, .aload_n 0, 1), (60, .getfield 53, 3), (63, .iload 5, 2), (65, .iaload, 1), (66, .iconst 1, 1), (67, .if_icmp .ne 77, 3), (70, .aload_n 0, 1), (71, .getfield 12, 3), (74, .getfield 250, 3), (77, .iload 5, 2), (79, .iaload, 1), (80, .iload_n 2, 1), (81, .if_icmp .eq 6, 3), (84, .goto 60, 3), (87, .iload_n 3, 1), (88, .iconst 1, 1), (89, .if_icmp .eq 16, 3), (92, .aload_n 0, 1), (93, .getfield 12, 3), (96, .getfield 253, 3), (99, .iload 5, 2), (101, .iaload, 1), (102, .ifCond .ge 14, 3), (105, .aload_n 0, 1), (106, .getfield 12, 3), (109, .getfield 247, 3), (112, .iload 4, 2), (114, .iaload, 1), (115, .ireturn, 1), (116, .aload_n 0, 1), (117, .getfield 53, 3), (120, .iload 5, 2), (122, .iconst 2, 1), (123, .iastore, 1), (124, .iload_n 3, 1), (125, .aload_n 0, 1), (126, .aload_n 0, 1), (127, .getfield 12, 3), (130, .getfield 253, 3), (133, .iload 5, 2), (135, .iaload, 1), (136, .iload_n 2, 1), (137, .invokevirtual 241, 3), (140, .iconst 1, 1), (141, .isub, 1), (142, .iadd, 1), (143, .istore_n 3, 1), (144, .iinc 4 (-1), 3), (147, .goto (-108), 3), (150, .iconst 0, 1), (151, .ireturn, 1)]
theorem tb_X9_walkBack : ix_tab cX9_walkBack tab_X9_walkBack := by
  unfold ix_tab
  decide +kernel
noncomputable def f_X9_walkBack_144 (n : Nat) (z : ix_Z) (rec39 : Int32 → Int32 → ix_D2 → Option (Int32 × ix_D2)) (a0 : Nat) (x2 : Int32) (x3 : Int32) (x4 : Int32) (d : ix_D2) : Option (Int32 × ix_D2) :=
  ix_lt (x4 + (-1)) (fun x4_34 => rec39 x3 x4_34 d)
noncomputable def f_X9_walkBack_105 (n : Nat) (z : ix_Z)  (a0 : Nat) (x4 : Int32) (d : ix_D2) : Option (Int32 × ix_D2) :=
  ix_ck (ix_ok z [8] a0) (ix_bd1 (z.1 a0 0) (fun b_42 => ix_ck (ix_ok z [1] b_42) (ix_bd1 (z.1 b_42 11) (fun b_45 => ix_ck (ix_ix z 20 b_45 x4) (some (d.1 b_45 (ix_n x4), d))))))
noncomputable def b_X9_walkBack_39 (n : Nat) (z : ix_Z)  (a0 : Nat) (x2 : Int32) (rec39 : Int32 → Int32 → ix_D2 → Option (Int32 × ix_D2)) (x3 : Int32) (x4 : Int32) (d : ix_D2) : Option (Int32 × ix_D2) :=
  ix_if (x4 < 0) (some (0, d)) (ix_ck (ix_ok z [8] a0) (ix_bd1 (z.1 a0 0) (fun b_22 => ix_ck (ix_ok z [1] b_22) (ix_bd1 (z.1 b_22 11) (fun b_25 => ix_ck (ix_ix z 20 b_25 x4) (ix_lt (ix_abs (d.1 b_25 (ix_n x4))) (fun x5_28 => ix_bd1 (z.1 a0 12) (fun b_30 => ix_ck (ix_ix z 20 b_30 x5_28) (ix_if (d.1 b_30 (ix_n x5_28) = 1) (ix_bd1 (z.1 b_22 9) (fun b_36 => ix_ck (ix_ix z 20 b_36 x5_28) (ix_if (d.1 b_36 (ix_n x5_28) = x2) (ix_if (x3 = 1) (f_X9_walkBack_105 n z  a0 x4 d) (ix_bd1 (z.1 b_22 10) (fun b_48 => ix_ck (ix_ix z 20 b_48 x5_28) (ix_if (0 ≤ d.1 b_48 (ix_n x5_28)) (ix_lt (ix_di d b_30 (ix_n x5_28) 2) (fun d_52 => ix_bd2 (f_X9_takeIn n z a0 (d_52.1 b_48 (ix_n x5_28)) x2 d_52) (fun r_56 d_54 => ix_lt (x3 + (r_56 - 1)) (fun x3_57 => f_X9_walkBack_144 n z rec39 a0 x2 x3_57 x4 d_54)))) (f_X9_walkBack_105 n z  a0 x4 d))))) (f_X9_walkBack_144 n z rec39 a0 x2 x3 x4 d)))) (f_X9_walkBack_144 n z rec39 a0 x2 x3 x4 d))))))))))
noncomputable def f_X9_walkBack_39 (n : Nat) (z : ix_Z)  (a0 : Nat) (x2 : Int32) (x3 : Int32) (x4 : Int32) (d : ix_D2) : Option (Int32 × ix_D2) := ix_fix (b_X9_walkBack_39 n z  a0 x2) (fun _ _ _ => none) n x3 x4 d
noncomputable def f_X9_walkBack (n : Nat) (z : ix_Z) (a0 : Nat) (x1 : Int32) (x2 : Int32) (d : ix_D2) : Option (Int32 × ix_D2) :=
  ix_ck (ix_ok z [8] a0) (ix_bd1 (z.1 a0 12) (fun b_2 => ix_bd1 (f_J7_fill_53178 n z b_2 0 d) (fun d_4 => ix_bd1 (z.1 a0 9) (fun b_6 => ix_bd1 (f_J7_fill_d0a16 n z b_6 0 d_4) (fun d_8 => ix_lt (ix_di d_8 a0 16 0) (fun d_10 => ix_bd2 (f_X9_takeIn n z a0 x1 x2 d_10) (fun r_14 d_12 => ix_bd1 (z.1 a0 0) (fun b_15 => ix_ck (ix_ok z [1] b_15) (ix_lt ((d_12.1 b_15 12) - 1) (fun x4_18 => f_X9_walkBack_39 n z  a0 x2 r_14 x4_18 d_12))))))))))
set_option maxRecDepth 20000 in
theorem t_X9_walkBack_144 {l : Launch} {p : Program} {e : Env} {s : State} {m : MethodId} {args : Array Value} {below : List Frame} {meth : Method} {c : Code} {K : ix_Cx} (hKp : ix_Kp K) {n : Nat} {z : ix_Z} (X : ix_X p s m args c K cX9_walkBack RX9 6) (hr : meth.sig.returnType = (some .int)) (hlk : meth.locks = false) {rec39 : Int32 → Int32 → ix_D2 → Option (Int32 × ix_D2)} {a0 : Nat} {x2 : Int32} {x3 : Int32} {x4 : Int32} {r : Int32} {d1 : ix_D2} (hrec39 : ∀ (x3 : Int32) (x4 : Int32) (d : ix_D2), rec39 x3 x4 d = some (r, d1) → ix_G p l e (ix_rm 3 70 0 0) s m args below meth c (MQ below (ix_Post K (some (.int r)) (ix_w z d1)) args s 0 0 (ix_A K)) K 6 0 0 39 [(0, .ref (K.2.2.1 + a0)), (2, .int x2), (3, .int x3), (4, .int x4)] [] (ix_w z d)) {d : ix_D2} (h : f_X9_walkBack_144 n z rec39 a0 x2 x3 x4 d = some (r, d1)) : ix_G p l e (ix_rm 3 70 0 0) s m args below meth c (MQ below (ix_Post K (some (.int r)) (ix_w z d1)) args s 0 0 (ix_A K)) K 6 0 0 144 [(0, .ref (K.2.2.1 + a0)), (2, .int x2), (3, .int x3), (4, .int x4)] [] (ix_w z d) := by
  unfold f_X9_walkBack_144 at h
  obtain ⟨x4_34, e_35, h⟩ := ix_lt_ex h
  refine ix_iinc (i := 4) (j := 3) (v := x4_34) (L1 := [(4, .int x4_34), (0, .ref (K.2.2.1 + a0)), (2, .int x2), (3, .int x3)]) X (ix_tb_at tb_X9_walkBack 78 rfl) rfl (by rw [oi_m1]; exact e_35.symm) (Nat.le_of_ble_eq_true rfl) rfl (pc1 := 147) rfl ?_
  refine ix_goto (tgt := 39) X (ix_tb_at tb_X9_walkBack 79 rfl) (by decide) ?_
  refine ix_sub (L1 := [(0, .ref (K.2.2.1 + a0)), (2, .int x2), (3, .int x3), (4, .int x4_34)]) [1, 2, 3, 0] rfl ?_
  exact hrec39 x3 x4_34 d h
set_option maxRecDepth 20000 in
theorem t_X9_walkBack_105 {l : Launch} {p : Program} {e : Env} {s : State} {m : MethodId} {args : Array Value} {below : List Frame} {meth : Method} {c : Code} {K : ix_Cx} (hKp : ix_Kp K) {n : Nat} {z : ix_Z} (X : ix_X p s m args c K cX9_walkBack RX9 6) (hr : meth.sig.returnType = (some .int)) (hlk : meth.locks = false)  {a0 : Nat} {x4 : Int32} {r : Int32} {d1 : ix_D2}  {d : ix_D2} (h : f_X9_walkBack_105 n z  a0 x4 d = some (r, d1)) : ix_G p l e (ix_rm 3 70 0 0) s m args below meth c (MQ below (ix_Post K (some (.int r)) (ix_w z d1)) args s 0 0 (ix_A K)) K 6 0 0 105 [(0, .ref (K.2.2.1 + a0)), (4, .int x4)] [] (ix_w z d) := by
  unfold f_X9_walkBack_105 at h
  refine ix_aload_n (i := 0) (j := 0) X (ix_tb_at tb_X9_walkBack 54 rfl) rfl rfl (pc1 := 106) rfl ?_
  obtain ⟨k_41, h⟩ := ix_ck_some h
  obtain ⟨b_42, q_43, h⟩ := ix_bd1_ex h
  refine iz_getR X fl_RX9_12 k_41 q_43 (ix_tb_at tb_X9_walkBack 55 rfl) (pc1 := 109) rfl ?_
  obtain ⟨k_44, h⟩ := ix_ck_some h
  obtain ⟨b_45, q_46, h⟩ := ix_bd1_ex h
  refine iz_getR X fl_RX9_247 k_44 q_46 (ix_tb_at tb_X9_walkBack 56 rfl) (pc1 := 112) rfl ?_
  refine ix_iload (i := 4) (j := 1) X (ix_tb_at tb_X9_walkBack 57 rfl) rfl (pc1 := 114) rfl ?_
  obtain ⟨k_47, h⟩ := ix_ck_some h
  refine iz_iald X k_47 (ix_tb_at tb_X9_walkBack 58 rfl) (pc1 := 115) rfl ?_
  exact ix_iret X hr hlk (ix_r2 (f := fun r => some (.int r)) (g := ix_w z) h) (ix_tb_at tb_X9_walkBack 59 rfl)
set_option maxRecDepth 20000 in
theorem tb_X9_walkBack_39 {l : Launch} {p : Program} {e : Env} {s : State} {m : MethodId} {args : Array Value} {below : List Frame} {meth : Method} {c : Code} {K : ix_Cx} (hKp : ix_Kp K) {n : Nat} {z : ix_Z} (X : ix_X p s m args c K cX9_walkBack RX9 6) (hr : meth.sig.returnType = (some .int)) (hlk : meth.locks = false)  {a0 : Nat} {x2 : Int32} {rec39 : Int32 → Int32 → ix_D2 → Option (Int32 × ix_D2)} {r : Int32} {d1 : ix_D2} (hrec39 : ∀ (x3 : Int32) (x4 : Int32) (d : ix_D2), rec39 x3 x4 d = some (r, d1) → ix_G p l e (ix_rm 3 70 0 0) s m args below meth c (MQ below (ix_Post K (some (.int r)) (ix_w z d1)) args s 0 0 (ix_A K)) K 6 0 0 39 [(0, .ref (K.2.2.1 + a0)), (2, .int x2), (3, .int x3), (4, .int x4)] [] (ix_w z d)) {x3 : Int32} {x4 : Int32} {d : ix_D2} (h : b_X9_walkBack_39 n z  a0 x2 rec39 x3 x4 d = some (r, d1)) : ix_G p l e (ix_rm 3 70 0 0) s m args below meth c (MQ below (ix_Post K (some (.int r)) (ix_w z d1)) args s 0 0 (ix_A K)) K 6 0 0 39 [(0, .ref (K.2.2.1 + a0)), (2, .int x2), (3, .int x3), (4, .int x4)] [] (ix_w z d) := by
  unfold b_X9_walkBack_39 at h
  refine ix_iload (i := 4) (j := 3) X (ix_tb_at tb_X9_walkBack 22 rfl) rfl (pc1 := 41) rfl ?_
  refine ix_if_lt (tgt := 150) X (ix_tb_at tb_X9_walkBack 23 rfl) (by decide) (pc1 := 44) rfl (fun q_20 => ?_) (fun q_20 => ?_)
  · have h := ix_ift q_20 h
    refine ix_iconst (v := 0) X (ix_tb_at tb_X9_walkBack 80 rfl) (by decide) (pc1 := 151) rfl ?_
    exact ix_iret X hr hlk (ix_r2 (f := fun r => some (.int r)) (g := ix_w z) h) (ix_tb_at tb_X9_walkBack 81 rfl)
  · have h := ix_iff q_20 h
    refine ix_aload_n (i := 0) (j := 0) X (ix_tb_at tb_X9_walkBack 24 rfl) rfl rfl (pc1 := 45) rfl ?_
    obtain ⟨k_21, h⟩ := ix_ck_some h
    obtain ⟨b_22, q_23, h⟩ := ix_bd1_ex h
    refine iz_getR X fl_RX9_12 k_21 q_23 (ix_tb_at tb_X9_walkBack 25 rfl) (pc1 := 48) rfl ?_
    obtain ⟨k_24, h⟩ := ix_ck_some h
    obtain ⟨b_25, q_26, h⟩ := ix_bd1_ex h
    refine iz_getR X fl_RX9_247 k_24 q_26 (ix_tb_at tb_X9_walkBack 26 rfl) (pc1 := 51) rfl ?_
    refine ix_iload (i := 4) (j := 3) X (ix_tb_at tb_X9_walkBack 27 rfl) rfl (pc1 := 53) rfl ?_
    obtain ⟨k_27, h⟩ := ix_ck_some h
    refine iz_iald X k_27 (ix_tb_at tb_X9_walkBack 28 rfl) (pc1 := 54) rfl ?_
    refine ix_mabs X ml_RX9_201 (Nat.le_of_ble_eq_true rfl) (Nat.le_of_ble_eq_true rfl) ⟨Nat.le_of_ble_eq_true rfl, Nat.le_of_ble_eq_true rfl⟩ (ix_tb_at tb_X9_walkBack 29 rfl) (pc1 := 57) rfl ?_
    obtain ⟨x5_28, e_29, h⟩ := ix_lt_ex h
    refine ix_nmi e_29 ?_
    refine ix_istore (i := 5) (L1 := [(5, .int x5_28), (0, .ref (K.2.2.1 + a0)), (2, .int x2), (3, .int x3), (4, .int x4)]) X (ix_tb_at tb_X9_walkBack 30 rfl) (Nat.le_of_ble_eq_true rfl) rfl (pc1 := 59) rfl ?_
    refine ix_aload_n (i := 0) (j := 1) X (ix_tb_at tb_X9_walkBack 31 rfl) rfl rfl (pc1 := 60) rfl ?_
    obtain ⟨b_30, q_31, h⟩ := ix_bd1_ex h
    refine iz_getR X fl_RX9_53 k_21 q_31 (ix_tb_at tb_X9_walkBack 32 rfl) (pc1 := 63) rfl ?_
    refine ix_iload (i := 5) (j := 0) X (ix_tb_at tb_X9_walkBack 33 rfl) rfl (pc1 := 65) rfl ?_
    obtain ⟨k_32, h⟩ := ix_ck_some h
    refine iz_iald X k_32 (ix_tb_at tb_X9_walkBack 34 rfl) (pc1 := 66) rfl ?_
    refine ix_iconst (v := 1) X (ix_tb_at tb_X9_walkBack 35 rfl) (by decide) (pc1 := 67) rfl ?_
    refine ix_icmp_ne (tgt := 144) X (ix_tb_at tb_X9_walkBack 36 rfl) (by decide) (pc1 := 70) rfl (fun q_33 => ?_) (fun q_33 => ?_)
    · have h := ix_iff q_33 h
      refine ix_sub (L1 := [(0, .ref (K.2.2.1 + a0)), (2, .int x2), (3, .int x3), (4, .int x4)]) [1, 2, 3, 4] rfl ?_
      exact t_X9_walkBack_144 hKp X hr hlk hrec39 h
    · have h := ix_ift q_33 h
      refine ix_aload_n (i := 0) (j := 1) X (ix_tb_at tb_X9_walkBack 37 rfl) rfl rfl (pc1 := 71) rfl ?_
      refine iz_getR X fl_RX9_12 k_21 q_23 (ix_tb_at tb_X9_walkBack 38 rfl) (pc1 := 74) rfl ?_
      obtain ⟨b_36, q_37, h⟩ := ix_bd1_ex h
      refine iz_getR X fl_RX9_250 k_24 q_37 (ix_tb_at tb_X9_walkBack 39 rfl) (pc1 := 77) rfl ?_
      refine ix_iload (i := 5) (j := 0) X (ix_tb_at tb_X9_walkBack 40 rfl) rfl (pc1 := 79) rfl ?_
      obtain ⟨k_38, h⟩ := ix_ck_some h
      refine iz_iald X k_38 (ix_tb_at tb_X9_walkBack 41 rfl) (pc1 := 80) rfl ?_
      refine ix_iload_n (i := 2) (j := 2) X (ix_tb_at tb_X9_walkBack 42 rfl) rfl rfl (pc1 := 81) rfl ?_
      refine ix_icmp_eq (tgt := 87) X (ix_tb_at tb_X9_walkBack 43 rfl) (by decide) (pc1 := 84) rfl (fun q_39 => ?_) (fun q_39 => ?_)
      · have h := ix_ift q_39 h
        refine ix_iload_n (i := 3) (j := 3) X (ix_tb_at tb_X9_walkBack 45 rfl) rfl rfl (pc1 := 88) rfl ?_
        refine ix_iconst (v := 1) X (ix_tb_at tb_X9_walkBack 46 rfl) (by decide) (pc1 := 89) rfl ?_
        refine ix_icmp_eq (tgt := 105) X (ix_tb_at tb_X9_walkBack 47 rfl) (by decide) (pc1 := 92) rfl (fun q_40 => ?_) (fun q_40 => ?_)
        · have h := ix_ift q_40 h
          refine ix_sub (L1 := [(0, .ref (K.2.2.1 + a0)), (4, .int x4)]) [1, 4] rfl ?_
          exact t_X9_walkBack_105 hKp X hr hlk  h
        · have h := ix_iff q_40 h
          refine ix_aload_n (i := 0) (j := 1) X (ix_tb_at tb_X9_walkBack 48 rfl) rfl rfl (pc1 := 93) rfl ?_
          refine iz_getR X fl_RX9_12 k_21 q_23 (ix_tb_at tb_X9_walkBack 49 rfl) (pc1 := 96) rfl ?_
          obtain ⟨b_48, q_49, h⟩ := ix_bd1_ex h
          refine iz_getR X fl_RX9_253 k_24 q_49 (ix_tb_at tb_X9_walkBack 50 rfl) (pc1 := 99) rfl ?_
          refine ix_iload (i := 5) (j := 0) X (ix_tb_at tb_X9_walkBack 51 rfl) rfl (pc1 := 101) rfl ?_
          obtain ⟨k_50, h⟩ := ix_ck_some h
          refine iz_iald X k_50 (ix_tb_at tb_X9_walkBack 52 rfl) (pc1 := 102) rfl ?_
          refine ix_if_ge (tgt := 116) X (ix_tb_at tb_X9_walkBack 53 rfl) (by decide) (pc1 := 105) rfl (fun q_51 => ?_) (fun q_51 => ?_)
          · have h := ix_ift q_51 h
            refine ix_aload_n (i := 0) (j := 1) X (ix_tb_at tb_X9_walkBack 60 rfl) rfl rfl (pc1 := 117) rfl ?_
            refine iz_getR X fl_RX9_53 k_21 q_31 (ix_tb_at tb_X9_walkBack 61 rfl) (pc1 := 120) rfl ?_
            refine ix_iload (i := 5) (j := 0) X (ix_tb_at tb_X9_walkBack 62 rfl) rfl (pc1 := 122) rfl ?_
            refine ix_iconst (v := 2) X (ix_tb_at tb_X9_walkBack 63 rfl) (by decide) (pc1 := 123) rfl ?_
            obtain ⟨d_52, e_53, h⟩ := ix_lt_ex h
            refine iz_iast X k_32 (ix_tb_at tb_X9_walkBack 64 rfl) e_53 (pc1 := 124) rfl ?_
            refine ix_iload_n (i := 3) (j := 3) X (ix_tb_at tb_X9_walkBack 65 rfl) rfl rfl (pc1 := 125) rfl ?_
            refine ix_aload_n (i := 0) (j := 1) X (ix_tb_at tb_X9_walkBack 66 rfl) rfl rfl (pc1 := 126) rfl ?_
            refine ix_aload_n (i := 0) (j := 1) X (ix_tb_at tb_X9_walkBack 67 rfl) rfl rfl (pc1 := 127) rfl ?_
            refine iz_getR X fl_RX9_12 k_21 q_23 (ix_tb_at tb_X9_walkBack 68 rfl) (pc1 := 130) rfl ?_
            refine iz_getR X fl_RX9_253 k_24 q_49 (ix_tb_at tb_X9_walkBack 69 rfl) (pc1 := 133) rfl ?_
            refine ix_iload (i := 5) (j := 0) X (ix_tb_at tb_X9_walkBack 70 rfl) rfl (pc1 := 135) rfl ?_
            refine iz_iald X k_50 (ix_tb_at tb_X9_walkBack 71 rfl) (pc1 := 136) rfl ?_
            refine ix_iload_n (i := 2) (j := 2) X (ix_tb_at tb_X9_walkBack 72 rfl) rfl rfl (pc1 := 137) rfl ?_
            obtain ⟨r_56, d_54, h_55, h⟩ := ix_bd2_ex h
            refine ix_callV (As := [.int (d_52.1 b_48 (ix_n x5_28)), .int x2]) (rest := [.int x3]) (ci := 8) (T := TX9) (nf := 20) X mf_X9_takeIn mi_X9_takeIn ms_X9_takeIn rfl (Nat.le_of_ble_eq_true rfl) ml_RX9_241 ⟨Nat.le_of_ble_eq_true rfl, Nat.le_of_ble_eq_true rfl⟩ ⟨Nat.le_of_ble_eq_true rfl, Nat.le_of_ble_eq_true rfl⟩ rfl (Nat.le_of_ble_eq_true rfl) (ix_tb_at tb_X9_walkBack 73 rfl) ⟨k_21.1, List.mem_singleton.mp k_21.2⟩ (c_X9_takeIn hKp h_55) rfl (pc1 := 140) rfl ?_
            refine ix_iconst (v := 1) X (ix_tb_at tb_X9_walkBack 74 rfl) (by decide) (pc1 := 141) rfl ?_
            refine ix_isub X (ix_tb_at tb_X9_walkBack 75 rfl) (pc1 := 142) rfl ?_
            refine ix_iadd X (ix_tb_at tb_X9_walkBack 76 rfl) (pc1 := 143) rfl ?_
            obtain ⟨x3_57, e_58, h⟩ := ix_lt_ex h
            refine ix_nmi e_58 ?_
            refine ix_istore_n (i := 3) (L1 := [(3, .int x3_57), (5, .int x5_28), (0, .ref (K.2.2.1 + a0)), (2, .int x2), (4, .int x4)]) X (ix_tb_at tb_X9_walkBack 77 rfl) rfl (Nat.le_of_ble_eq_true rfl) rfl (pc1 := 144) rfl ?_
            refine ix_sub (L1 := [(0, .ref (K.2.2.1 + a0)), (2, .int x2), (3, .int x3_57), (4, .int x4)]) [2, 3, 0, 4] rfl ?_
            exact t_X9_walkBack_144 hKp X hr hlk hrec39 h
          · have h := ix_iff q_51 h
            refine ix_sub (L1 := [(0, .ref (K.2.2.1 + a0)), (4, .int x4)]) [1, 4] rfl ?_
            exact t_X9_walkBack_105 hKp X hr hlk  h
      · have h := ix_iff q_39 h
        refine ix_goto (tgt := 144) X (ix_tb_at tb_X9_walkBack 44 rfl) (by decide) ?_
        refine ix_sub (L1 := [(0, .ref (K.2.2.1 + a0)), (2, .int x2), (3, .int x3), (4, .int x4)]) [1, 2, 3, 4] rfl ?_
        exact t_X9_walkBack_144 hKp X hr hlk hrec39 h
theorem t_X9_walkBack_39 {l : Launch} {p : Program} {e : Env} {s : State} {m : MethodId} {args : Array Value} {below : List Frame} {meth : Method} {c : Code} {K : ix_Cx} (hKp : ix_Kp K) {n : Nat} {z : ix_Z} (X : ix_X p s m args c K cX9_walkBack RX9 6) (hr : meth.sig.returnType = (some .int)) (hlk : meth.locks = false)  {a0 : Nat} {x2 : Int32} {r : Int32} {d1 : ix_D2}  {x3 : Int32} {x4 : Int32} {d : ix_D2} (h : f_X9_walkBack_39 n z  a0 x2 x3 x4 d = some (r, d1)) : ix_G p l e (ix_rm 3 70 0 0) s m args below meth c (MQ below (ix_Post K (some (.int r)) (ix_w z d1)) args s 0 0 (ix_A K)) K 6 0 0 39 [(0, .ref (K.2.2.1 + a0)), (2, .int x2), (3, .int x3), (4, .int x4)] [] (ix_w z d) := by
  have key : ∀ (f : Nat) (x3 : Int32) (x4 : Int32) (d : ix_D2), ix_fix (b_X9_walkBack_39 n z  a0 x2) (fun _ _ _ => none) f x3 x4 d = some (r, d1) → ix_G p l e (ix_rm 3 70 0 0) s m args below meth c (MQ below (ix_Post K (some (.int r)) (ix_w z d1)) args s 0 0 (ix_A K)) K 6 0 0 39 [(0, .ref (K.2.2.1 + a0)), (2, .int x2), (3, .int x3), (4, .int x4)] [] (ix_w z d) := by
    intro f
    induction f with
    | zero =>
      intro x3 x4 d h
      have h : (none : Option (Int32 × ix_D2)) = some (r, d1) := h
      cases h
    | succ f ih =>
      intro x3 x4 d h
      exact tb_X9_walkBack_39 hKp X hr hlk (rec39 := ix_fix (b_X9_walkBack_39 n z  a0 x2) (fun _ _ _ => none) f)  ih h
  exact key n x3 x4 d h
set_option maxRecDepth 20000 in
theorem c_X9_walkBack {l : Launch} {K : ix_Cx} (hKp : ix_Kp K) {n : Nat} {z : ix_Z} {a0 : Nat} {x1 : Int32} {x2 : Int32} {d : ix_D2} {r : Int32} {d1 : ix_D2} (h : f_X9_walkBack n z a0 x1 x2 d = some (r, d1)) : ix_M l K yX9_walkBack cX9_walkBack 6 (some .int) 3 70 0 0 [.ref (K.2.2.1 + a0), .int x1, .int x2] (ix_w z d) (some (.int r)) (ix_w z d1) := by
  refine ix_met mf_X9_walkBack hKp (Nat.le_of_ble_eq_true rfl) ?_
  intro p e s m args below meth c hr hlk hnm X
  have X : ix_X p s m args c K cX9_walkBack RX9 6 := X
  show ix_G p l e (ix_rm 3 70 0 0) s m args below meth c (MQ below (ix_Post K (some (.int r)) (ix_w z d1)) args s 0 0 (ix_A K)) K 6 0 0 0 [(0, .ref (K.2.2.1 + a0)), (1, .int x1), (2, .int x2)] [] (ix_w z d)
  unfold f_X9_walkBack at h
  refine ix_aload_n (i := 0) (j := 0) X (ix_tb_at tb_X9_walkBack 0 rfl) rfl rfl (pc1 := 1) rfl ?_
  obtain ⟨k_1, h⟩ := ix_ck_some h
  obtain ⟨b_2, q_3, h⟩ := ix_bd1_ex h
  refine iz_getR X fl_RX9_53 k_1 q_3 (ix_tb_at tb_X9_walkBack 1 rfl) (pc1 := 4) rfl ?_
  refine ix_iconst (v := 0) X (ix_tb_at tb_X9_walkBack 2 rfl) (by decide) (pc1 := 5) rfl ?_
  obtain ⟨d_4, h_5, h⟩ := ix_bd1_ex h
  refine ix_callS (As := [.ref (K.2.2.1 + b_2), .int 0]) (rest := []) X mf_J7_fill_53178 st_J7_fill_53178 ml_RX9_62 ⟨Nat.le_of_ble_eq_true rfl, Nat.le_of_ble_eq_true rfl⟩ ⟨Nat.le_of_ble_eq_true rfl, Nat.le_of_ble_eq_true rfl⟩ rfl (Nat.le_of_ble_eq_true rfl) (ix_tb_at tb_X9_walkBack 3 rfl) (c_J7_fill_53178 hKp h_5) rfl (pc1 := 8) rfl ?_
  refine ix_aload_n (i := 0) (j := 0) X (ix_tb_at tb_X9_walkBack 4 rfl) rfl rfl (pc1 := 9) rfl ?_
  obtain ⟨b_6, q_7, h⟩ := ix_bd1_ex h
  refine iz_getR X fl_RX9_44 k_1 q_7 (ix_tb_at tb_X9_walkBack 5 rfl) (pc1 := 12) rfl ?_
  refine ix_lconst (v := 0) X (ix_tb_at tb_X9_walkBack 6 rfl) (by decide) (pc1 := 13) rfl ?_
  obtain ⟨d_8, h_9, h⟩ := ix_bd1_ex h
  refine ix_callS (As := [.ref (K.2.2.1 + b_6), .long 0]) (rest := []) X mf_J7_fill_d0a16 st_J7_fill_d0a16 ml_RX9_238 ⟨Nat.le_of_ble_eq_true rfl, Nat.le_of_ble_eq_true rfl⟩ ⟨Nat.le_of_ble_eq_true rfl, Nat.le_of_ble_eq_true rfl⟩ rfl (Nat.le_of_ble_eq_true rfl) (ix_tb_at tb_X9_walkBack 7 rfl) (c_J7_fill_d0a16 hKp h_9) rfl (pc1 := 16) rfl ?_
  refine ix_aload_n (i := 0) (j := 0) X (ix_tb_at tb_X9_walkBack 8 rfl) rfl rfl (pc1 := 17) rfl ?_
  refine ix_iconst (v := 0) X (ix_tb_at tb_X9_walkBack 9 rfl) (by decide) (pc1 := 18) rfl ?_
  obtain ⟨d_10, e_11, h⟩ := ix_lt_ex h
  refine iz_putI X fp_RX9_222 k_1 (ix_tb_at tb_X9_walkBack 10 rfl) e_11 (pc1 := 21) rfl ?_
  refine ix_aload_n (i := 0) (j := 0) X (ix_tb_at tb_X9_walkBack 11 rfl) rfl rfl (pc1 := 22) rfl ?_
  refine ix_iload_n (i := 1) (j := 1) X (ix_tb_at tb_X9_walkBack 12 rfl) rfl rfl (pc1 := 23) rfl ?_
  refine ix_iload_n (i := 2) (j := 2) X (ix_tb_at tb_X9_walkBack 13 rfl) rfl rfl (pc1 := 24) rfl ?_
  obtain ⟨r_14, d_12, h_13, h⟩ := ix_bd2_ex h
  refine ix_callV (As := [.int x1, .int x2]) (rest := []) (ci := 8) (T := TX9) (nf := 20) X mf_X9_takeIn mi_X9_takeIn ms_X9_takeIn rfl (Nat.le_of_ble_eq_true rfl) ml_RX9_241 ⟨Nat.le_of_ble_eq_true rfl, Nat.le_of_ble_eq_true rfl⟩ ⟨Nat.le_of_ble_eq_true rfl, Nat.le_of_ble_eq_true rfl⟩ rfl (Nat.le_of_ble_eq_true rfl) (ix_tb_at tb_X9_walkBack 14 rfl) ⟨k_1.1, List.mem_singleton.mp k_1.2⟩ (c_X9_takeIn hKp h_13) rfl (pc1 := 27) rfl ?_
  refine ix_istore_n (i := 3) (L1 := [(3, .int r_14), (0, .ref (K.2.2.1 + a0)), (1, .int x1), (2, .int x2)]) X (ix_tb_at tb_X9_walkBack 15 rfl) rfl (Nat.le_of_ble_eq_true rfl) rfl (pc1 := 28) rfl ?_
  refine ix_aload_n (i := 0) (j := 1) X (ix_tb_at tb_X9_walkBack 16 rfl) rfl rfl (pc1 := 29) rfl ?_
  obtain ⟨b_15, q_16, h⟩ := ix_bd1_ex h
  refine iz_getR X fl_RX9_12 k_1 q_16 (ix_tb_at tb_X9_walkBack 17 rfl) (pc1 := 32) rfl ?_
  obtain ⟨k_17, h⟩ := ix_ck_some h
  refine iz_getI X fl_RX9_244 k_17 (ix_tb_at tb_X9_walkBack 18 rfl) (pc1 := 35) rfl ?_
  refine ix_iconst (v := 1) X (ix_tb_at tb_X9_walkBack 19 rfl) (by decide) (pc1 := 36) rfl ?_
  refine ix_isub X (ix_tb_at tb_X9_walkBack 20 rfl) (pc1 := 37) rfl ?_
  obtain ⟨x4_18, e_19, h⟩ := ix_lt_ex h
  refine ix_nmi e_19 ?_
  refine ix_istore (i := 4) (L1 := [(4, .int x4_18), (3, .int r_14), (0, .ref (K.2.2.1 + a0)), (1, .int x1), (2, .int x2)]) X (ix_tb_at tb_X9_walkBack 21 rfl) (Nat.le_of_ble_eq_true rfl) rfl (pc1 := 39) rfl ?_
  refine ix_sub (L1 := [(0, .ref (K.2.2.1 + a0)), (2, .int x2), (3, .int r_14), (4, .int x4_18)]) [2, 4, 1, 0] rfl ?_
  exact t_X9_walkBack_39 hKp X hr hlk  h
def tab_X9_makeFresh : List (Nat × Instr × Nat) := [(0, .aload_n 0, 1), (1, .iconst 0, 1), (2, .putfield 128, 3), (5, .aload_n 0, 1), (6, .iload_n 1, 1), (7, .ineg, 1), (8, .invokevirtual 139, 3), (11, .aload_n 0, 1), (12, .getfield 12, 3), (15, .getfield 244, 3), (18, .iconst 1, 1), (19, .isub, 1), (20, .istore_n 2, 1), (21, .iload_n 2, 1), (22, .ifCond .lt 43, 3), (25, .aload_n 0, 1), (26, .getfield 12, 3), (29, .getfield 247, 3), (32, .iload_n 2, 1), (33, .iaload, 1), (34, .istore_n 3, 1), (35, .iload_n 3, 1), (36, .iload_n 1, 1), (37, .if_icmp .eq 22, 3), (40, .aload_n 0, 1), (41, .getfield 53, 3), (44, .iload_n 3, 1), (45, .invokestatic 201, 3), (48, .iaload, 1), (49, .iconst 1, 1), (50, .if_icmp .ne 9, 3), (53, .aload_n 0, 1), (54, .iload_n 3, 1), (55, .ineg, 1), (56, .invokevirtual 139, 3), (59, .iinc 2 (-1), 3), (62, .goto (-41), 3), (65, .return_, 1)]
theorem tb_X9_makeFresh : ix_tab cX9_makeFresh tab_X9_makeFresh := by
  unfold ix_tab
  decide +kernel
noncomputable def f_X9_makeFresh_59 (n : Nat) (z : ix_Z) (rec21 : Int32 → ix_D2 → Option (ix_D2)) (a0 : Nat) (x1 : Int32) (x2 : Int32) (d : ix_D2) : Option (ix_D2) :=
  ix_lt (x2 + (-1)) (fun x2_22 => rec21 x2_22 d)
noncomputable def b_X9_makeFresh_21 (n : Nat) (z : ix_Z)  (a0 : Nat) (x1 : Int32) (rec21 : Int32 → ix_D2 → Option (ix_D2)) (x2 : Int32) (d : ix_D2) : Option (ix_D2) :=
  ix_if (x2 < 0) (some d) (ix_ck (ix_ok z [8] a0) (ix_bd1 (z.1 a0 0) (fun b_13 => ix_ck (ix_ok z [1] b_13) (ix_bd1 (z.1 b_13 11) (fun b_16 => ix_ck (ix_ix z 20 b_16 x2) (ix_lt (d.1 b_16 (ix_n x2)) (fun x3_19 => ix_if (x3_19 = x1) (f_X9_makeFresh_59 n z rec21 a0 x1 x2 d) (ix_bd1 (z.1 a0 12) (fun b_24 => ix_ck (ix_ix z 20 b_24 (ix_abs x3_19)) (ix_if (d.1 b_24 (ix_n (ix_abs x3_19)) = 1) (ix_bd1 (f_X9_pushFresh n z a0 (-x3_19) d) (fun d_28 => f_X9_makeFresh_59 n z rec21 a0 x1 x2 d_28)) (f_X9_makeFresh_59 n z rec21 a0 x1 x2 d)))))))))))
noncomputable def f_X9_makeFresh_21 (n : Nat) (z : ix_Z)  (a0 : Nat) (x1 : Int32) (x2 : Int32) (d : ix_D2) : Option (ix_D2) := ix_fix (b_X9_makeFresh_21 n z  a0 x1) (fun _ _ => none) n x2 d
noncomputable def f_X9_makeFresh (n : Nat) (z : ix_Z) (a0 : Nat) (x1 : Int32) (d : ix_D2) : Option (ix_D2) :=
  ix_ck (ix_ok z [8] a0) (ix_lt (ix_di d a0 14 0) (fun d_2 => ix_bd1 (f_X9_pushFresh n z a0 (-x1) d_2) (fun d_4 => ix_bd1 (z.1 a0 0) (fun b_6 => ix_ck (ix_ok z [1] b_6) (ix_lt ((d_4.1 b_6 12) - 1) (fun x2_9 => f_X9_makeFresh_21 n z  a0 x1 x2_9 d_4))))))
set_option maxRecDepth 20000 in
theorem t_X9_makeFresh_59 {l : Launch} {p : Program} {e : Env} {s : State} {m : MethodId} {args : Array Value} {below : List Frame} {meth : Method} {c : Code} {K : ix_Cx} (hKp : ix_Kp K) {n : Nat} {z : ix_Z} (X : ix_X p s m args c K cX9_makeFresh RX9 4) (hr : meth.sig.returnType = (none : Option Jvm.ClassFile.FieldType)) (hlk : meth.locks = false) {rec21 : Int32 → ix_D2 → Option (ix_D2)} {a0 : Nat} {x1 : Int32} {x2 : Int32} {d1 : ix_D2} (hrec21 : ∀ (x2 : Int32) (d : ix_D2), rec21 x2 d = some d1 → ix_G p l e (ix_rm 1 23 0 0) s m args below meth c (MQ below (ix_Post K none (ix_w z d1)) args s 0 0 (ix_A K)) K 4 0 0 21 [(0, .ref (K.2.2.1 + a0)), (1, .int x1), (2, .int x2)] [] (ix_w z d)) {d : ix_D2} (h : f_X9_makeFresh_59 n z rec21 a0 x1 x2 d = some d1) : ix_G p l e (ix_rm 1 23 0 0) s m args below meth c (MQ below (ix_Post K none (ix_w z d1)) args s 0 0 (ix_A K)) K 4 0 0 59 [(0, .ref (K.2.2.1 + a0)), (1, .int x1), (2, .int x2)] [] (ix_w z d) := by
  unfold f_X9_makeFresh_59 at h
  obtain ⟨x2_22, e_23, h⟩ := ix_lt_ex h
  refine ix_iinc (i := 2) (j := 2) (v := x2_22) (L1 := [(2, .int x2_22), (0, .ref (K.2.2.1 + a0)), (1, .int x1)]) X (ix_tb_at tb_X9_makeFresh 35 rfl) rfl (by rw [oi_m1]; exact e_23.symm) (Nat.le_of_ble_eq_true rfl) rfl (pc1 := 62) rfl ?_
  refine ix_goto (tgt := 21) X (ix_tb_at tb_X9_makeFresh 36 rfl) (by decide) ?_
  refine ix_sub (L1 := [(0, .ref (K.2.2.1 + a0)), (1, .int x1), (2, .int x2_22)]) [1, 2, 0] rfl ?_
  exact hrec21 x2_22 d h
set_option maxRecDepth 20000 in
theorem tb_X9_makeFresh_21 {l : Launch} {p : Program} {e : Env} {s : State} {m : MethodId} {args : Array Value} {below : List Frame} {meth : Method} {c : Code} {K : ix_Cx} (hKp : ix_Kp K) {n : Nat} {z : ix_Z} (X : ix_X p s m args c K cX9_makeFresh RX9 4) (hr : meth.sig.returnType = (none : Option Jvm.ClassFile.FieldType)) (hlk : meth.locks = false)  {a0 : Nat} {x1 : Int32} {rec21 : Int32 → ix_D2 → Option (ix_D2)} {d1 : ix_D2} (hrec21 : ∀ (x2 : Int32) (d : ix_D2), rec21 x2 d = some d1 → ix_G p l e (ix_rm 1 23 0 0) s m args below meth c (MQ below (ix_Post K none (ix_w z d1)) args s 0 0 (ix_A K)) K 4 0 0 21 [(0, .ref (K.2.2.1 + a0)), (1, .int x1), (2, .int x2)] [] (ix_w z d)) {x2 : Int32} {d : ix_D2} (h : b_X9_makeFresh_21 n z  a0 x1 rec21 x2 d = some d1) : ix_G p l e (ix_rm 1 23 0 0) s m args below meth c (MQ below (ix_Post K none (ix_w z d1)) args s 0 0 (ix_A K)) K 4 0 0 21 [(0, .ref (K.2.2.1 + a0)), (1, .int x1), (2, .int x2)] [] (ix_w z d) := by
  unfold b_X9_makeFresh_21 at h
  refine ix_iload_n (i := 2) (j := 2) X (ix_tb_at tb_X9_makeFresh 13 rfl) rfl rfl (pc1 := 22) rfl ?_
  refine ix_if_lt (tgt := 65) X (ix_tb_at tb_X9_makeFresh 14 rfl) (by decide) (pc1 := 25) rfl (fun q_11 => ?_) (fun q_11 => ?_)
  · have h := ix_ift q_11 h
    exact ix_vret X hr hlk (ix_r1 (g := ix_w z) h) (ix_tb_at tb_X9_makeFresh 37 rfl)
  · have h := ix_iff q_11 h
    refine ix_aload_n (i := 0) (j := 0) X (ix_tb_at tb_X9_makeFresh 15 rfl) rfl rfl (pc1 := 26) rfl ?_
    obtain ⟨k_12, h⟩ := ix_ck_some h
    obtain ⟨b_13, q_14, h⟩ := ix_bd1_ex h
    refine iz_getR X fl_RX9_12 k_12 q_14 (ix_tb_at tb_X9_makeFresh 16 rfl) (pc1 := 29) rfl ?_
    obtain ⟨k_15, h⟩ := ix_ck_some h
    obtain ⟨b_16, q_17, h⟩ := ix_bd1_ex h
    refine iz_getR X fl_RX9_247 k_15 q_17 (ix_tb_at tb_X9_makeFresh 17 rfl) (pc1 := 32) rfl ?_
    refine ix_iload_n (i := 2) (j := 2) X (ix_tb_at tb_X9_makeFresh 18 rfl) rfl rfl (pc1 := 33) rfl ?_
    obtain ⟨k_18, h⟩ := ix_ck_some h
    refine iz_iald X k_18 (ix_tb_at tb_X9_makeFresh 19 rfl) (pc1 := 34) rfl ?_
    obtain ⟨x3_19, e_20, h⟩ := ix_lt_ex h
    refine ix_nmi e_20 ?_
    refine ix_istore_n (i := 3) (L1 := [(3, .int x3_19), (0, .ref (K.2.2.1 + a0)), (1, .int x1), (2, .int x2)]) X (ix_tb_at tb_X9_makeFresh 20 rfl) rfl (Nat.le_of_ble_eq_true rfl) rfl (pc1 := 35) rfl ?_
    refine ix_iload_n (i := 3) (j := 0) X (ix_tb_at tb_X9_makeFresh 21 rfl) rfl rfl (pc1 := 36) rfl ?_
    refine ix_iload_n (i := 1) (j := 2) X (ix_tb_at tb_X9_makeFresh 22 rfl) rfl rfl (pc1 := 37) rfl ?_
    refine ix_icmp_eq (tgt := 59) X (ix_tb_at tb_X9_makeFresh 23 rfl) (by decide) (pc1 := 40) rfl (fun q_21 => ?_) (fun q_21 => ?_)
    · have h := ix_ift q_21 h
      refine ix_sub (L1 := [(0, .ref (K.2.2.1 + a0)), (1, .int x1), (2, .int x2)]) [1, 2, 3] rfl ?_
      exact t_X9_makeFresh_59 hKp X hr hlk hrec21 h
    · have h := ix_iff q_21 h
      refine ix_aload_n (i := 0) (j := 1) X (ix_tb_at tb_X9_makeFresh 24 rfl) rfl rfl (pc1 := 41) rfl ?_
      obtain ⟨b_24, q_25, h⟩ := ix_bd1_ex h
      refine iz_getR X fl_RX9_53 k_12 q_25 (ix_tb_at tb_X9_makeFresh 25 rfl) (pc1 := 44) rfl ?_
      refine ix_iload_n (i := 3) (j := 0) X (ix_tb_at tb_X9_makeFresh 26 rfl) rfl rfl (pc1 := 45) rfl ?_
      refine ix_mabs X ml_RX9_201 (Nat.le_of_ble_eq_true rfl) (Nat.le_of_ble_eq_true rfl) ⟨Nat.le_of_ble_eq_true rfl, Nat.le_of_ble_eq_true rfl⟩ (ix_tb_at tb_X9_makeFresh 27 rfl) (pc1 := 48) rfl ?_
      obtain ⟨k_26, h⟩ := ix_ck_some h
      refine iz_iald X k_26 (ix_tb_at tb_X9_makeFresh 28 rfl) (pc1 := 49) rfl ?_
      refine ix_iconst (v := 1) X (ix_tb_at tb_X9_makeFresh 29 rfl) (by decide) (pc1 := 50) rfl ?_
      refine ix_icmp_ne (tgt := 59) X (ix_tb_at tb_X9_makeFresh 30 rfl) (by decide) (pc1 := 53) rfl (fun q_27 => ?_) (fun q_27 => ?_)
      · have h := ix_iff q_27 h
        refine ix_sub (L1 := [(0, .ref (K.2.2.1 + a0)), (1, .int x1), (2, .int x2)]) [1, 2, 3] rfl ?_
        exact t_X9_makeFresh_59 hKp X hr hlk hrec21 h
      · have h := ix_ift q_27 h
        refine ix_aload_n (i := 0) (j := 1) X (ix_tb_at tb_X9_makeFresh 31 rfl) rfl rfl (pc1 := 54) rfl ?_
        refine ix_iload_n (i := 3) (j := 0) X (ix_tb_at tb_X9_makeFresh 32 rfl) rfl rfl (pc1 := 55) rfl ?_
        refine ix_ineg X (ix_tb_at tb_X9_makeFresh 33 rfl) (pc1 := 56) rfl ?_
        obtain ⟨d_28, h_29, h⟩ := ix_bd1_ex h
        refine ix_callV (As := [.int (-x3_19)]) (rest := []) (ci := 8) (T := TX9) (nf := 20) X mf_X9_pushFresh mi_X9_pushFresh ms_X9_pushFresh rfl (Nat.le_of_ble_eq_true rfl) ml_RX9_139 ⟨Nat.le_of_ble_eq_true rfl, Nat.le_of_ble_eq_true rfl⟩ ⟨Nat.le_of_ble_eq_true rfl, Nat.le_of_ble_eq_true rfl⟩ rfl (Nat.le_of_ble_eq_true rfl) (ix_tb_at tb_X9_makeFresh 34 rfl) ⟨k_12.1, List.mem_singleton.mp k_12.2⟩ (c_X9_pushFresh hKp h_29) rfl (pc1 := 59) rfl ?_
        refine ix_sub (L1 := [(0, .ref (K.2.2.1 + a0)), (1, .int x1), (2, .int x2)]) [1, 2, 3] rfl ?_
        exact t_X9_makeFresh_59 hKp X hr hlk hrec21 h
theorem t_X9_makeFresh_21 {l : Launch} {p : Program} {e : Env} {s : State} {m : MethodId} {args : Array Value} {below : List Frame} {meth : Method} {c : Code} {K : ix_Cx} (hKp : ix_Kp K) {n : Nat} {z : ix_Z} (X : ix_X p s m args c K cX9_makeFresh RX9 4) (hr : meth.sig.returnType = (none : Option Jvm.ClassFile.FieldType)) (hlk : meth.locks = false)  {a0 : Nat} {x1 : Int32} {d1 : ix_D2}  {x2 : Int32} {d : ix_D2} (h : f_X9_makeFresh_21 n z  a0 x1 x2 d = some d1) : ix_G p l e (ix_rm 1 23 0 0) s m args below meth c (MQ below (ix_Post K none (ix_w z d1)) args s 0 0 (ix_A K)) K 4 0 0 21 [(0, .ref (K.2.2.1 + a0)), (1, .int x1), (2, .int x2)] [] (ix_w z d) := by
  have key : ∀ (f : Nat) (x2 : Int32) (d : ix_D2), ix_fix (b_X9_makeFresh_21 n z  a0 x1) (fun _ _ => none) f x2 d = some d1 → ix_G p l e (ix_rm 1 23 0 0) s m args below meth c (MQ below (ix_Post K none (ix_w z d1)) args s 0 0 (ix_A K)) K 4 0 0 21 [(0, .ref (K.2.2.1 + a0)), (1, .int x1), (2, .int x2)] [] (ix_w z d) := by
    intro f
    induction f with
    | zero =>
      intro x2 d h
      have h : (none : Option (ix_D2)) = some d1 := h
      cases h
    | succ f ih =>
      intro x2 d h
      exact tb_X9_makeFresh_21 hKp X hr hlk (rec21 := ix_fix (b_X9_makeFresh_21 n z  a0 x1) (fun _ _ => none) f)  ih h
  exact key n x2 d h
set_option maxRecDepth 20000 in
theorem c_X9_makeFresh {l : Launch} {K : ix_Cx} (hKp : ix_Kp K) {n : Nat} {z : ix_Z} {a0 : Nat} {x1 : Int32} {d : ix_D2} {d1 : ix_D2} (h : f_X9_makeFresh n z a0 x1 d = some d1) : ix_M l K yX9_makeFresh cX9_makeFresh 4 (none : Option Jvm.ClassFile.FieldType) 1 23 0 0 [.ref (K.2.2.1 + a0), .int x1] (ix_w z d) none (ix_w z d1) := by
  refine ix_met mf_X9_makeFresh hKp (Nat.le_of_ble_eq_true rfl) ?_
  intro p e s m args below meth c hr hlk hnm X
  have X : ix_X p s m args c K cX9_makeFresh RX9 4 := X
  show ix_G p l e (ix_rm 1 23 0 0) s m args below meth c (MQ below (ix_Post K none (ix_w z d1)) args s 0 0 (ix_A K)) K 4 0 0 0 [(0, .ref (K.2.2.1 + a0)), (1, .int x1)] [] (ix_w z d)
  unfold f_X9_makeFresh at h
  refine ix_aload_n (i := 0) (j := 0) X (ix_tb_at tb_X9_makeFresh 0 rfl) rfl rfl (pc1 := 1) rfl ?_
  refine ix_iconst (v := 0) X (ix_tb_at tb_X9_makeFresh 1 rfl) (by decide) (pc1 := 2) rfl ?_
  obtain ⟨k_1, h⟩ := ix_ck_some h
  obtain ⟨d_2, e_3, h⟩ := ix_lt_ex h
  refine iz_putI X fp_RX9_128 k_1 (ix_tb_at tb_X9_makeFresh 2 rfl) e_3 (pc1 := 5) rfl ?_
  refine ix_aload_n (i := 0) (j := 0) X (ix_tb_at tb_X9_makeFresh 3 rfl) rfl rfl (pc1 := 6) rfl ?_
  refine ix_iload_n (i := 1) (j := 1) X (ix_tb_at tb_X9_makeFresh 4 rfl) rfl rfl (pc1 := 7) rfl ?_
  refine ix_ineg X (ix_tb_at tb_X9_makeFresh 5 rfl) (pc1 := 8) rfl ?_
  obtain ⟨d_4, h_5, h⟩ := ix_bd1_ex h
  refine ix_callV (As := [.int (-x1)]) (rest := []) (ci := 8) (T := TX9) (nf := 20) X mf_X9_pushFresh mi_X9_pushFresh ms_X9_pushFresh rfl (Nat.le_of_ble_eq_true rfl) ml_RX9_139 ⟨Nat.le_of_ble_eq_true rfl, Nat.le_of_ble_eq_true rfl⟩ ⟨Nat.le_of_ble_eq_true rfl, Nat.le_of_ble_eq_true rfl⟩ rfl (Nat.le_of_ble_eq_true rfl) (ix_tb_at tb_X9_makeFresh 6 rfl) ⟨k_1.1, List.mem_singleton.mp k_1.2⟩ (c_X9_pushFresh hKp h_5) rfl (pc1 := 11) rfl ?_
  refine ix_aload_n (i := 0) (j := 0) X (ix_tb_at tb_X9_makeFresh 7 rfl) rfl rfl (pc1 := 12) rfl ?_
  obtain ⟨b_6, q_7, h⟩ := ix_bd1_ex h
  refine iz_getR X fl_RX9_12 k_1 q_7 (ix_tb_at tb_X9_makeFresh 8 rfl) (pc1 := 15) rfl ?_
  obtain ⟨k_8, h⟩ := ix_ck_some h
  refine iz_getI X fl_RX9_244 k_8 (ix_tb_at tb_X9_makeFresh 9 rfl) (pc1 := 18) rfl ?_
  refine ix_iconst (v := 1) X (ix_tb_at tb_X9_makeFresh 10 rfl) (by decide) (pc1 := 19) rfl ?_
  refine ix_isub X (ix_tb_at tb_X9_makeFresh 11 rfl) (pc1 := 20) rfl ?_
  obtain ⟨x2_9, e_10, h⟩ := ix_lt_ex h
  refine ix_nmi e_10 ?_
  refine ix_istore_n (i := 2) (L1 := [(2, .int x2_9), (0, .ref (K.2.2.1 + a0)), (1, .int x1)]) X (ix_tb_at tb_X9_makeFresh 12 rfl) rfl (Nat.le_of_ble_eq_true rfl) rfl (pc1 := 21) rfl ?_
  refine ix_sub (L1 := [(0, .ref (K.2.2.1 + a0)), (1, .int x1), (2, .int x2_9)]) [1, 2, 0] rfl ?_
  exact t_X9_makeFresh_21 hKp X hr hlk  h
def tab_X9_raiseWeights : List (Nat × Instr × Nat) := [(0, .iconst 0, 1), (1, .istore_n 1, 1), (2, .iconst 0, 1), (3, .istore_n 2, 1), (4, .iconst 1, 1), (5, .istore_n 3, 1), (6, .iload_n 3, 1), (7, .aload_n 0, 1), (8, .getfield 12, 3), (11, .getfield 185, 3), (14, .if_icmp .gt 57, 3), (17, .aload_n 0, 1), (18, .getfield 53, 3), (21, .iload_n 3, 1), (22, .iaload, 1), (23, .ifCond .eq 19, 3), (26, .aload_n 0, 1), (27, .getfield 27, 3), (30, .iload_n 3, 1), (31, .dup2, 1), (32, .laload, 1), (33, .aload_n 0, 1), (34, .getfield 82, 3), (37, .ladd, 1), (38, .lastore, 1), (39, .iinc 1 1, 3), (42, .iload_n 2, 1), (43, .ifCond .ne 16, 3), (46, .aload_n 0, 1), (47, .getfield 27, 3), (50, .iload_n 3, 1), (51, .laload, 1), (52, .ldc2_w 268, 3), (55, .lcmp, 1), (56, .ifCond .le 7, 3), (59, .iconst 1, 1), (60, .goto 4, 3), (63, .iconst 0, 1), (64, .istore_n 2, 1), (65, .iinc 3 1, 3), (68, .goto (-62), 3), (71, .aload_n 0, 1), (72, .dup, 1), (73, .getfield 82, 3), (76, .aload_n 0, 1), (77, .getfield 82, 3), (80, .ldc2_w 270, 3), (83, .ldiv, 1), (84, .ladd, 1), (85, .putfield 82, 3), (88, .iload_n 2, 1), (89, .ifCond .eq 50, 3), (92, .aload_n 0, 1), (93, .aload_n 0, 1), (94, .getfield 82, 3), (97, .ldc2_w 272, 3), (100, .ldiv, 1), (101, .lconst 1, 1), (102, .invokestatic 274, 3), (105, .putfield 82, 3), (108, .iconst 1, 1), (109, .istore_n 3, 1), (110, .iload_n 3, 1), (111, .aload_n 0, 1), (112, .getfield 12, 3), (115, .getfield 185, 3), (118, .if_icmp .gt 21, 3), (121, .aload_n 0, 1), (122, .getfield 27, 3), (125, .iload_n 3, 1), (126, .dup2, 1), (127, .laload, 1), (128, .ldc2_w 272, 3), (131, .ldiv, 1), (132, .lastore, 1), (133, .iinc 3 1, 3), (136, .goto (-26), 3), (139, .iload_n 1, 1), (140, .ireturn, 1)]
theorem tb_X9_raiseWeights : ix_tab cX9_raiseWeights tab_X9_raiseWeights := by
  unfold ix_tab
  decide +kernel
noncomputable def b_X9_raiseWeights_110 (n : Nat) (z : ix_Z)  (a0 : Nat) (x1 : Int32) (rec110 : Int32 → ix_D2 → Option (Int32 × ix_D2)) (x3 : Int32) (d : ix_D2) : Option (Int32 × ix_D2) :=
  ix_ck (ix_ok z [8] a0) (ix_bd1 (z.1 a0 0) (fun b_12 => ix_ck (ix_ok z [1] b_12) (ix_if (d.1 b_12 14 < x3) (some (x1, d)) (ix_bd1 (z.1 a0 2) (fun b_16 => ix_ck (ix_ix z 23 b_16 x3) (ix_lt (ix_dj d b_16 (ix_n x3) ((d.2 b_16 (ix_n x3)) / 1048576)) (fun d_19 => ix_lt (x3 + 1) (fun x3_21 => rec110 x3_21 d_19))))))))
noncomputable def f_X9_raiseWeights_110 (n : Nat) (z : ix_Z)  (a0 : Nat) (x1 : Int32) (x3 : Int32) (d : ix_D2) : Option (Int32 × ix_D2) := ix_fix (b_X9_raiseWeights_110 n z  a0 x1) (fun _ _ => none) n x3 d
noncomputable def f_X9_raiseWeights_64 (n : Nat) (z : ix_Z) (rec6 : Int32 → Int32 → Int32 → ix_D2 → Option (Int32 × ix_D2)) (a0 : Nat) (x1 : Int32) (x3 : Int32) (s0 : Int32) (d : ix_D2) : Option (Int32 × ix_D2) :=
  ix_lt (x3 + 1) (fun x3_28 => rec6 x1 s0 x3_28 d)
noncomputable def f_X9_raiseWeights_59 (n : Nat) (z : ix_Z) (rec6 : Int32 → Int32 → Int32 → ix_D2 → Option (Int32 × ix_D2)) (a0 : Nat) (x1 : Int32) (x3 : Int32) (d : ix_D2) : Option (Int32 × ix_D2) :=
  f_X9_raiseWeights_64 n z rec6 a0 x1 x3 1 d
noncomputable def f_X9_raiseWeights_42 (n : Nat) (z : ix_Z) (rec6 : Int32 → Int32 → Int32 → ix_D2 → Option (Int32 × ix_D2)) (a0 : Nat) (x1 : Int32) (x2 : Int32) (x3 : Int32) (d : ix_D2) : Option (Int32 × ix_D2) :=
  ix_if (x2 = 0) (ix_ck (ix_ok z [8] a0) (ix_bd1 (z.1 a0 2) (fun b_31 => ix_ck (ix_ix z 23 b_31 x3) (ix_if (lg_cmp (d.2 b_31 (ix_n x3)) 1000000000000 ≤ 0) (f_X9_raiseWeights_64 n z rec6 a0 x1 x3 0 d) (f_X9_raiseWeights_59 n z rec6 a0 x1 x3 d))))) (f_X9_raiseWeights_59 n z rec6 a0 x1 x3 d)
noncomputable def b_X9_raiseWeights_6 (n : Nat) (z : ix_Z)  (a0 : Nat) (rec6 : Int32 → Int32 → Int32 → ix_D2 → Option (Int32 × ix_D2)) (x1 : Int32) (x2 : Int32) (x3 : Int32) (d : ix_D2) : Option (Int32 × ix_D2) :=
  ix_ck (ix_ok z [8] a0) (ix_bd1 (z.1 a0 0) (fun b_2 => ix_ck (ix_ok z [1] b_2) (ix_if (d.1 b_2 14 < x3) (ix_lt (ix_dj d a0 3 ((d.2 a0 3) + ((d.2 a0 3) / 8))) (fun d_6 => ix_if (x2 = 0) (some (x1, d_6)) (ix_lt (ix_dj d_6 a0 3 (ix_maxl ((d_6.2 a0 3) / 1048576) 1)) (fun d_9 => f_X9_raiseWeights_110 n z  a0 x1 1 d_9)))) (ix_bd1 (z.1 a0 12) (fun b_23 => ix_ck (ix_ix z 20 b_23 x3) (ix_if (d.1 b_23 (ix_n x3) = 0) (f_X9_raiseWeights_42 n z rec6 a0 x1 x2 x3 d) (ix_bd1 (z.1 a0 2) (fun b_35 => ix_ck (ix_ix z 23 b_35 x3) (ix_lt (ix_dj d b_35 (ix_n x3) ((d.2 b_35 (ix_n x3)) + (d.2 a0 3))) (fun d_38 => ix_lt (x1 + 1) (fun x1_40 => f_X9_raiseWeights_42 n z rec6 a0 x1_40 x2 x3 d_38)))))))))))
noncomputable def f_X9_raiseWeights_6 (n : Nat) (z : ix_Z)  (a0 : Nat) (x1 : Int32) (x2 : Int32) (x3 : Int32) (d : ix_D2) : Option (Int32 × ix_D2) := ix_fix (b_X9_raiseWeights_6 n z  a0) (fun _ _ _ _ => none) n x1 x2 x3 d
noncomputable def f_X9_raiseWeights (n : Nat) (z : ix_Z) (a0 : Nat) (d : ix_D2) : Option (Int32 × ix_D2) :=
  f_X9_raiseWeights_6 n z  a0 0 0 1 d
set_option maxRecDepth 20000 in
theorem tb_X9_raiseWeights_110 {l : Launch} {p : Program} {e : Env} {s : State} {m : MethodId} {args : Array Value} {below : List Frame} {meth : Method} {c : Code} {K : ix_Cx} (hKp : ix_Kp K) {n : Nat} {z : ix_Z} (X : ix_X p s m args c K cX9_raiseWeights RX9 4) (hr : meth.sig.returnType = (some .int)) (hlk : meth.locks = false)  {a0 : Nat} {x1 : Int32} {rec110 : Int32 → ix_D2 → Option (Int32 × ix_D2)} {r : Int32} {d1 : ix_D2} (hrec110 : ∀ (x3 : Int32) (d : ix_D2), rec110 x3 d = some (r, d1) → ix_G p l e (ix_rm 1 23 0 0) s m args below meth c (MQ below (ix_Post K (some (.int r)) (ix_w z d1)) args s 0 0 (ix_A K)) K 4 0 0 110 [(0, .ref (K.2.2.1 + a0)), (1, .int x1), (3, .int x3)] [] (ix_w z d)) {x3 : Int32} {d : ix_D2} (h : b_X9_raiseWeights_110 n z  a0 x1 rec110 x3 d = some (r, d1)) : ix_G p l e (ix_rm 1 23 0 0) s m args below meth c (MQ below (ix_Post K (some (.int r)) (ix_w z d1)) args s 0 0 (ix_A K)) K 4 0 0 110 [(0, .ref (K.2.2.1 + a0)), (1, .int x1), (3, .int x3)] [] (ix_w z d) := by
  unfold b_X9_raiseWeights_110 at h
  refine ix_iload_n (i := 3) (j := 2) X (ix_tb_at tb_X9_raiseWeights 62 rfl) rfl rfl (pc1 := 111) rfl ?_
  refine ix_aload_n (i := 0) (j := 0) X (ix_tb_at tb_X9_raiseWeights 63 rfl) rfl rfl (pc1 := 112) rfl ?_
  obtain ⟨k_11, h⟩ := ix_ck_some h
  obtain ⟨b_12, q_13, h⟩ := ix_bd1_ex h
  refine iz_getR X fl_RX9_12 k_11 q_13 (ix_tb_at tb_X9_raiseWeights 64 rfl) (pc1 := 115) rfl ?_
  obtain ⟨k_14, h⟩ := ix_ck_some h
  refine iz_getI X fl_RX9_185 k_14 (ix_tb_at tb_X9_raiseWeights 65 rfl) (pc1 := 118) rfl ?_
  refine ix_icmp_gt (tgt := 139) X (ix_tb_at tb_X9_raiseWeights 66 rfl) (by decide) (pc1 := 121) rfl (fun q_15 => ?_) (fun q_15 => ?_)
  · have h := ix_ift q_15 h
    refine ix_iload_n (i := 1) (j := 1) X (ix_tb_at tb_X9_raiseWeights 77 rfl) rfl rfl (pc1 := 140) rfl ?_
    exact ix_iret X hr hlk (ix_r2 (f := fun r => some (.int r)) (g := ix_w z) h) (ix_tb_at tb_X9_raiseWeights 78 rfl)
  · have h := ix_iff q_15 h
    refine ix_aload_n (i := 0) (j := 0) X (ix_tb_at tb_X9_raiseWeights 67 rfl) rfl rfl (pc1 := 122) rfl ?_
    obtain ⟨b_16, q_17, h⟩ := ix_bd1_ex h
    refine iz_getR X fl_RX9_27 k_11 q_17 (ix_tb_at tb_X9_raiseWeights 68 rfl) (pc1 := 125) rfl ?_
    refine ix_iload_n (i := 3) (j := 2) X (ix_tb_at tb_X9_raiseWeights 69 rfl) rfl rfl (pc1 := 126) rfl ?_
    refine ix_dup2 X (ix_tb_at tb_X9_raiseWeights 70 rfl) rfl rfl (pc1 := 127) rfl ?_
    obtain ⟨k_18, h⟩ := ix_ck_some h
    refine iz_lald X k_18 (ix_tb_at tb_X9_raiseWeights 71 rfl) (pc1 := 128) rfl ?_
    refine ix_ldc2 (pl := 1270) (v := 1048576) X (ix_tb_at tb_X9_raiseWeights 72 rfl) (by decide +kernel) (pc1 := 131) rfl ?_
    refine ix_ldiv X (ix_tb_at tb_X9_raiseWeights 73 rfl) (by decide) (pc1 := 132) rfl ?_
    obtain ⟨d_19, e_20, h⟩ := ix_lt_ex h
    refine iz_last X k_18 (ix_tb_at tb_X9_raiseWeights 74 rfl) e_20 (pc1 := 133) rfl ?_
    obtain ⟨x3_21, e_22, h⟩ := ix_lt_ex h
    refine ix_iinc (i := 3) (j := 2) (v := x3_21) (L1 := [(3, .int x3_21), (0, .ref (K.2.2.1 + a0)), (1, .int x1)]) X (ix_tb_at tb_X9_raiseWeights 75 rfl) rfl (by rw [oi_1]; exact e_22.symm) (Nat.le_of_ble_eq_true rfl) rfl (pc1 := 136) rfl ?_
    refine ix_goto (tgt := 110) X (ix_tb_at tb_X9_raiseWeights 76 rfl) (by decide) ?_
    refine ix_sub (L1 := [(0, .ref (K.2.2.1 + a0)), (1, .int x1), (3, .int x3_21)]) [1, 2, 0] rfl ?_
    exact hrec110 x3_21 d_19 h
theorem t_X9_raiseWeights_110 {l : Launch} {p : Program} {e : Env} {s : State} {m : MethodId} {args : Array Value} {below : List Frame} {meth : Method} {c : Code} {K : ix_Cx} (hKp : ix_Kp K) {n : Nat} {z : ix_Z} (X : ix_X p s m args c K cX9_raiseWeights RX9 4) (hr : meth.sig.returnType = (some .int)) (hlk : meth.locks = false)  {a0 : Nat} {x1 : Int32} {r : Int32} {d1 : ix_D2}  {x3 : Int32} {d : ix_D2} (h : f_X9_raiseWeights_110 n z  a0 x1 x3 d = some (r, d1)) : ix_G p l e (ix_rm 1 23 0 0) s m args below meth c (MQ below (ix_Post K (some (.int r)) (ix_w z d1)) args s 0 0 (ix_A K)) K 4 0 0 110 [(0, .ref (K.2.2.1 + a0)), (1, .int x1), (3, .int x3)] [] (ix_w z d) := by
  have key : ∀ (f : Nat) (x3 : Int32) (d : ix_D2), ix_fix (b_X9_raiseWeights_110 n z  a0 x1) (fun _ _ => none) f x3 d = some (r, d1) → ix_G p l e (ix_rm 1 23 0 0) s m args below meth c (MQ below (ix_Post K (some (.int r)) (ix_w z d1)) args s 0 0 (ix_A K)) K 4 0 0 110 [(0, .ref (K.2.2.1 + a0)), (1, .int x1), (3, .int x3)] [] (ix_w z d) := by
    intro f
    induction f with
    | zero =>
      intro x3 d h
      have h : (none : Option (Int32 × ix_D2)) = some (r, d1) := h
      cases h
    | succ f ih =>
      intro x3 d h
      exact tb_X9_raiseWeights_110 hKp X hr hlk (rec110 := ix_fix (b_X9_raiseWeights_110 n z  a0 x1) (fun _ _ => none) f)  ih h
  exact key n x3 d h
set_option maxRecDepth 20000 in
theorem t_X9_raiseWeights_64 {l : Launch} {p : Program} {e : Env} {s : State} {m : MethodId} {args : Array Value} {below : List Frame} {meth : Method} {c : Code} {K : ix_Cx} (hKp : ix_Kp K) {n : Nat} {z : ix_Z} (X : ix_X p s m args c K cX9_raiseWeights RX9 4) (hr : meth.sig.returnType = (some .int)) (hlk : meth.locks = false) {rec6 : Int32 → Int32 → Int32 → ix_D2 → Option (Int32 × ix_D2)} {a0 : Nat} {x1 : Int32} {x3 : Int32} {s0 : Int32} {r : Int32} {d1 : ix_D2} (hrec6 : ∀ (x1 : Int32) (x2 : Int32) (x3 : Int32) (d : ix_D2), rec6 x1 x2 x3 d = some (r, d1) → ix_G p l e (ix_rm 1 23 0 0) s m args below meth c (MQ below (ix_Post K (some (.int r)) (ix_w z d1)) args s 0 0 (ix_A K)) K 4 0 0 6 [(0, .ref (K.2.2.1 + a0)), (1, .int x1), (2, .int x2), (3, .int x3)] [] (ix_w z d)) {d : ix_D2} (h : f_X9_raiseWeights_64 n z rec6 a0 x1 x3 s0 d = some (r, d1)) : ix_G p l e (ix_rm 1 23 0 0) s m args below meth c (MQ below (ix_Post K (some (.int r)) (ix_w z d1)) args s 0 0 (ix_A K)) K 4 0 0 64 [(0, .ref (K.2.2.1 + a0)), (1, .int x1), (3, .int x3)] [.int s0] (ix_w z d) := by
  unfold f_X9_raiseWeights_64 at h
  refine ix_istore_n (i := 2) (L1 := [(2, .int s0), (0, .ref (K.2.2.1 + a0)), (1, .int x1), (3, .int x3)]) X (ix_tb_at tb_X9_raiseWeights 38 rfl) rfl (Nat.le_of_ble_eq_true rfl) rfl (pc1 := 65) rfl ?_
  obtain ⟨x3_28, e_29, h⟩ := ix_lt_ex h
  refine ix_iinc (i := 3) (j := 3) (v := x3_28) (L1 := [(3, .int x3_28), (2, .int s0), (0, .ref (K.2.2.1 + a0)), (1, .int x1)]) X (ix_tb_at tb_X9_raiseWeights 39 rfl) rfl (by rw [oi_1]; exact e_29.symm) (Nat.le_of_ble_eq_true rfl) rfl (pc1 := 68) rfl ?_
  refine ix_goto (tgt := 6) X (ix_tb_at tb_X9_raiseWeights 40 rfl) (by decide) ?_
  refine ix_sub (L1 := [(0, .ref (K.2.2.1 + a0)), (1, .int x1), (2, .int s0), (3, .int x3_28)]) [2, 3, 1, 0] rfl ?_
  exact hrec6 x1 s0 x3_28 d h
set_option maxRecDepth 20000 in
theorem t_X9_raiseWeights_59 {l : Launch} {p : Program} {e : Env} {s : State} {m : MethodId} {args : Array Value} {below : List Frame} {meth : Method} {c : Code} {K : ix_Cx} (hKp : ix_Kp K) {n : Nat} {z : ix_Z} (X : ix_X p s m args c K cX9_raiseWeights RX9 4) (hr : meth.sig.returnType = (some .int)) (hlk : meth.locks = false) {rec6 : Int32 → Int32 → Int32 → ix_D2 → Option (Int32 × ix_D2)} {a0 : Nat} {x1 : Int32} {x3 : Int32} {r : Int32} {d1 : ix_D2} (hrec6 : ∀ (x1 : Int32) (x2 : Int32) (x3 : Int32) (d : ix_D2), rec6 x1 x2 x3 d = some (r, d1) → ix_G p l e (ix_rm 1 23 0 0) s m args below meth c (MQ below (ix_Post K (some (.int r)) (ix_w z d1)) args s 0 0 (ix_A K)) K 4 0 0 6 [(0, .ref (K.2.2.1 + a0)), (1, .int x1), (2, .int x2), (3, .int x3)] [] (ix_w z d)) {d : ix_D2} (h : f_X9_raiseWeights_59 n z rec6 a0 x1 x3 d = some (r, d1)) : ix_G p l e (ix_rm 1 23 0 0) s m args below meth c (MQ below (ix_Post K (some (.int r)) (ix_w z d1)) args s 0 0 (ix_A K)) K 4 0 0 59 [(0, .ref (K.2.2.1 + a0)), (1, .int x1), (3, .int x3)] [] (ix_w z d) := by
  unfold f_X9_raiseWeights_59 at h
  refine ix_iconst (v := 1) X (ix_tb_at tb_X9_raiseWeights 35 rfl) (by decide) (pc1 := 60) rfl ?_
  refine ix_goto (tgt := 64) X (ix_tb_at tb_X9_raiseWeights 36 rfl) (by decide) ?_
  refine ix_sub (L1 := [(0, .ref (K.2.2.1 + a0)), (1, .int x1), (3, .int x3)]) [0, 1, 2] rfl ?_
  exact t_X9_raiseWeights_64 hKp X hr hlk hrec6 h
set_option maxRecDepth 20000 in
theorem t_X9_raiseWeights_42 {l : Launch} {p : Program} {e : Env} {s : State} {m : MethodId} {args : Array Value} {below : List Frame} {meth : Method} {c : Code} {K : ix_Cx} (hKp : ix_Kp K) {n : Nat} {z : ix_Z} (X : ix_X p s m args c K cX9_raiseWeights RX9 4) (hr : meth.sig.returnType = (some .int)) (hlk : meth.locks = false) {rec6 : Int32 → Int32 → Int32 → ix_D2 → Option (Int32 × ix_D2)} {a0 : Nat} {x1 : Int32} {x2 : Int32} {x3 : Int32} {r : Int32} {d1 : ix_D2} (hrec6 : ∀ (x1 : Int32) (x2 : Int32) (x3 : Int32) (d : ix_D2), rec6 x1 x2 x3 d = some (r, d1) → ix_G p l e (ix_rm 1 23 0 0) s m args below meth c (MQ below (ix_Post K (some (.int r)) (ix_w z d1)) args s 0 0 (ix_A K)) K 4 0 0 6 [(0, .ref (K.2.2.1 + a0)), (1, .int x1), (2, .int x2), (3, .int x3)] [] (ix_w z d)) {d : ix_D2} (h : f_X9_raiseWeights_42 n z rec6 a0 x1 x2 x3 d = some (r, d1)) : ix_G p l e (ix_rm 1 23 0 0) s m args below meth c (MQ below (ix_Post K (some (.int r)) (ix_w z d1)) args s 0 0 (ix_A K)) K 4 0 0 42 [(0, .ref (K.2.2.1 + a0)), (1, .int x1), (2, .int x2), (3, .int x3)] [] (ix_w z d) := by
  unfold f_X9_raiseWeights_42 at h
  refine ix_iload_n (i := 2) (j := 2) X (ix_tb_at tb_X9_raiseWeights 26 rfl) rfl rfl (pc1 := 43) rfl ?_
  refine ix_if_ne (tgt := 59) X (ix_tb_at tb_X9_raiseWeights 27 rfl) (by decide) (pc1 := 46) rfl (fun q_27 => ?_) (fun q_27 => ?_)
  · have h := ix_iff q_27 h
    refine ix_sub (L1 := [(0, .ref (K.2.2.1 + a0)), (1, .int x1), (3, .int x3)]) [0, 1, 3] rfl ?_
    exact t_X9_raiseWeights_59 hKp X hr hlk hrec6 h
  · have h := ix_ift q_27 h
    refine ix_aload_n (i := 0) (j := 0) X (ix_tb_at tb_X9_raiseWeights 28 rfl) rfl rfl (pc1 := 47) rfl ?_
    obtain ⟨k_30, h⟩ := ix_ck_some h
    obtain ⟨b_31, q_32, h⟩ := ix_bd1_ex h
    refine iz_getR X fl_RX9_27 k_30 q_32 (ix_tb_at tb_X9_raiseWeights 29 rfl) (pc1 := 50) rfl ?_
    refine ix_iload_n (i := 3) (j := 3) X (ix_tb_at tb_X9_raiseWeights 30 rfl) rfl rfl (pc1 := 51) rfl ?_
    obtain ⟨k_33, h⟩ := ix_ck_some h
    refine iz_lald X k_33 (ix_tb_at tb_X9_raiseWeights 31 rfl) (pc1 := 52) rfl ?_
    refine ix_ldc2 (pl := 1268) (v := 1000000000000) X (ix_tb_at tb_X9_raiseWeights 32 rfl) (by decide +kernel) (pc1 := 55) rfl ?_
    refine ix_lcmp X (ix_tb_at tb_X9_raiseWeights 33 rfl) (pc1 := 56) rfl ?_
    refine ix_if_le (tgt := 63) X (ix_tb_at tb_X9_raiseWeights 34 rfl) (by decide) (pc1 := 59) rfl (fun q_34 => ?_) (fun q_34 => ?_)
    · have h := ix_ift q_34 h
      refine ix_iconst (v := 0) X (ix_tb_at tb_X9_raiseWeights 37 rfl) (by decide) (pc1 := 64) rfl ?_
      refine ix_sub (L1 := [(0, .ref (K.2.2.1 + a0)), (1, .int x1), (3, .int x3)]) [0, 1, 3] rfl ?_
      exact t_X9_raiseWeights_64 hKp X hr hlk hrec6 h
    · have h := ix_iff q_34 h
      refine ix_sub (L1 := [(0, .ref (K.2.2.1 + a0)), (1, .int x1), (3, .int x3)]) [0, 1, 3] rfl ?_
      exact t_X9_raiseWeights_59 hKp X hr hlk hrec6 h
set_option maxRecDepth 20000 in
theorem tb_X9_raiseWeights_6 {l : Launch} {p : Program} {e : Env} {s : State} {m : MethodId} {args : Array Value} {below : List Frame} {meth : Method} {c : Code} {K : ix_Cx} (hKp : ix_Kp K) {n : Nat} {z : ix_Z} (X : ix_X p s m args c K cX9_raiseWeights RX9 4) (hr : meth.sig.returnType = (some .int)) (hlk : meth.locks = false)  {a0 : Nat} {rec6 : Int32 → Int32 → Int32 → ix_D2 → Option (Int32 × ix_D2)} {r : Int32} {d1 : ix_D2} (hrec6 : ∀ (x1 : Int32) (x2 : Int32) (x3 : Int32) (d : ix_D2), rec6 x1 x2 x3 d = some (r, d1) → ix_G p l e (ix_rm 1 23 0 0) s m args below meth c (MQ below (ix_Post K (some (.int r)) (ix_w z d1)) args s 0 0 (ix_A K)) K 4 0 0 6 [(0, .ref (K.2.2.1 + a0)), (1, .int x1), (2, .int x2), (3, .int x3)] [] (ix_w z d)) {x1 : Int32} {x2 : Int32} {x3 : Int32} {d : ix_D2} (h : b_X9_raiseWeights_6 n z  a0 rec6 x1 x2 x3 d = some (r, d1)) : ix_G p l e (ix_rm 1 23 0 0) s m args below meth c (MQ below (ix_Post K (some (.int r)) (ix_w z d1)) args s 0 0 (ix_A K)) K 4 0 0 6 [(0, .ref (K.2.2.1 + a0)), (1, .int x1), (2, .int x2), (3, .int x3)] [] (ix_w z d) := by
  unfold b_X9_raiseWeights_6 at h
  refine ix_iload_n (i := 3) (j := 3) X (ix_tb_at tb_X9_raiseWeights 6 rfl) rfl rfl (pc1 := 7) rfl ?_
  refine ix_aload_n (i := 0) (j := 0) X (ix_tb_at tb_X9_raiseWeights 7 rfl) rfl rfl (pc1 := 8) rfl ?_
  obtain ⟨k_1, h⟩ := ix_ck_some h
  obtain ⟨b_2, q_3, h⟩ := ix_bd1_ex h
  refine iz_getR X fl_RX9_12 k_1 q_3 (ix_tb_at tb_X9_raiseWeights 8 rfl) (pc1 := 11) rfl ?_
  obtain ⟨k_4, h⟩ := ix_ck_some h
  refine iz_getI X fl_RX9_185 k_4 (ix_tb_at tb_X9_raiseWeights 9 rfl) (pc1 := 14) rfl ?_
  refine ix_icmp_gt (tgt := 71) X (ix_tb_at tb_X9_raiseWeights 10 rfl) (by decide) (pc1 := 17) rfl (fun q_5 => ?_) (fun q_5 => ?_)
  · have h := ix_ift q_5 h
    refine ix_aload_n (i := 0) (j := 0) X (ix_tb_at tb_X9_raiseWeights 41 rfl) rfl rfl (pc1 := 72) rfl ?_
    refine ix_dup X (ix_tb_at tb_X9_raiseWeights 42 rfl) rfl (pc1 := 73) rfl ?_
    refine iz_getJ X fl_RX9_82 k_1 (ix_tb_at tb_X9_raiseWeights 43 rfl) (pc1 := 76) rfl ?_
    refine ix_aload_n (i := 0) (j := 0) X (ix_tb_at tb_X9_raiseWeights 44 rfl) rfl rfl (pc1 := 77) rfl ?_
    refine iz_getJ X fl_RX9_82 k_1 (ix_tb_at tb_X9_raiseWeights 45 rfl) (pc1 := 80) rfl ?_
    refine ix_ldc2 (pl := 1269) (v := 8) X (ix_tb_at tb_X9_raiseWeights 46 rfl) (by decide +kernel) (pc1 := 83) rfl ?_
    refine ix_ldiv X (ix_tb_at tb_X9_raiseWeights 47 rfl) (by decide) (pc1 := 84) rfl ?_
    refine ix_ladd X (ix_tb_at tb_X9_raiseWeights 48 rfl) (pc1 := 85) rfl ?_
    obtain ⟨d_6, e_7, h⟩ := ix_lt_ex h
    refine iz_putJ X fp_RX9_82 k_1 (ix_tb_at tb_X9_raiseWeights 49 rfl) e_7 (pc1 := 88) rfl ?_
    refine ix_iload_n (i := 2) (j := 2) X (ix_tb_at tb_X9_raiseWeights 50 rfl) rfl rfl (pc1 := 89) rfl ?_
    refine ix_if_eq (tgt := 139) X (ix_tb_at tb_X9_raiseWeights 51 rfl) (by decide) (pc1 := 92) rfl (fun q_8 => ?_) (fun q_8 => ?_)
    · have h := ix_ift q_8 h
      refine ix_iload_n (i := 1) (j := 1) X (ix_tb_at tb_X9_raiseWeights 77 rfl) rfl rfl (pc1 := 140) rfl ?_
      exact ix_iret X hr hlk (ix_r2 (f := fun r => some (.int r)) (g := ix_w z) h) (ix_tb_at tb_X9_raiseWeights 78 rfl)
    · have h := ix_iff q_8 h
      refine ix_aload_n (i := 0) (j := 0) X (ix_tb_at tb_X9_raiseWeights 52 rfl) rfl rfl (pc1 := 93) rfl ?_
      refine ix_aload_n (i := 0) (j := 0) X (ix_tb_at tb_X9_raiseWeights 53 rfl) rfl rfl (pc1 := 94) rfl ?_
      refine iz_getJ X fl_RX9_82 k_1 (ix_tb_at tb_X9_raiseWeights 54 rfl) (pc1 := 97) rfl ?_
      refine ix_ldc2 (pl := 1270) (v := 1048576) X (ix_tb_at tb_X9_raiseWeights 55 rfl) (by decide +kernel) (pc1 := 100) rfl ?_
      refine ix_ldiv X (ix_tb_at tb_X9_raiseWeights 56 rfl) (by decide) (pc1 := 101) rfl ?_
      refine ix_lconst (v := 1) X (ix_tb_at tb_X9_raiseWeights 57 rfl) (by decide) (pc1 := 102) rfl ?_
      refine ix_mmax_long X ml_RX9_274 (Nat.le_of_ble_eq_true rfl) (Nat.le_of_ble_eq_true rfl) ⟨Nat.le_of_ble_eq_true rfl, Nat.le_of_ble_eq_true rfl⟩ (ix_tb_at tb_X9_raiseWeights 58 rfl) (pc1 := 105) rfl ?_
      obtain ⟨d_9, e_10, h⟩ := ix_lt_ex h
      refine iz_putJ X fp_RX9_82 k_1 (ix_tb_at tb_X9_raiseWeights 59 rfl) e_10 (pc1 := 108) rfl ?_
      refine ix_iconst (v := 1) X (ix_tb_at tb_X9_raiseWeights 60 rfl) (by decide) (pc1 := 109) rfl ?_
      refine ix_istore_n (i := 3) (L1 := [(3, .int 1), (0, .ref (K.2.2.1 + a0)), (1, .int x1), (2, .int x2)]) X (ix_tb_at tb_X9_raiseWeights 61 rfl) rfl (Nat.le_of_ble_eq_true rfl) rfl (pc1 := 110) rfl ?_
      refine ix_sub (L1 := [(0, .ref (K.2.2.1 + a0)), (1, .int x1), (3, .int 1)]) [1, 2, 0] rfl ?_
      exact t_X9_raiseWeights_110 hKp X hr hlk  h
  · have h := ix_iff q_5 h
    refine ix_aload_n (i := 0) (j := 0) X (ix_tb_at tb_X9_raiseWeights 11 rfl) rfl rfl (pc1 := 18) rfl ?_
    obtain ⟨b_23, q_24, h⟩ := ix_bd1_ex h
    refine iz_getR X fl_RX9_53 k_1 q_24 (ix_tb_at tb_X9_raiseWeights 12 rfl) (pc1 := 21) rfl ?_
    refine ix_iload_n (i := 3) (j := 3) X (ix_tb_at tb_X9_raiseWeights 13 rfl) rfl rfl (pc1 := 22) rfl ?_
    obtain ⟨k_25, h⟩ := ix_ck_some h
    refine iz_iald X k_25 (ix_tb_at tb_X9_raiseWeights 14 rfl) (pc1 := 23) rfl ?_
    refine ix_if_eq (tgt := 42) X (ix_tb_at tb_X9_raiseWeights 15 rfl) (by decide) (pc1 := 26) rfl (fun q_26 => ?_) (fun q_26 => ?_)
    · have h := ix_ift q_26 h
      refine ix_sub (L1 := [(0, .ref (K.2.2.1 + a0)), (1, .int x1), (2, .int x2), (3, .int x3)]) [0, 1, 2, 3] rfl ?_
      exact t_X9_raiseWeights_42 hKp X hr hlk hrec6 h
    · have h := ix_iff q_26 h
      refine ix_aload_n (i := 0) (j := 0) X (ix_tb_at tb_X9_raiseWeights 16 rfl) rfl rfl (pc1 := 27) rfl ?_
      obtain ⟨b_35, q_36, h⟩ := ix_bd1_ex h
      refine iz_getR X fl_RX9_27 k_1 q_36 (ix_tb_at tb_X9_raiseWeights 17 rfl) (pc1 := 30) rfl ?_
      refine ix_iload_n (i := 3) (j := 3) X (ix_tb_at tb_X9_raiseWeights 18 rfl) rfl rfl (pc1 := 31) rfl ?_
      refine ix_dup2 X (ix_tb_at tb_X9_raiseWeights 19 rfl) rfl rfl (pc1 := 32) rfl ?_
      obtain ⟨k_37, h⟩ := ix_ck_some h
      refine iz_lald X k_37 (ix_tb_at tb_X9_raiseWeights 20 rfl) (pc1 := 33) rfl ?_
      refine ix_aload_n (i := 0) (j := 0) X (ix_tb_at tb_X9_raiseWeights 21 rfl) rfl rfl (pc1 := 34) rfl ?_
      refine iz_getJ X fl_RX9_82 k_1 (ix_tb_at tb_X9_raiseWeights 22 rfl) (pc1 := 37) rfl ?_
      refine ix_ladd X (ix_tb_at tb_X9_raiseWeights 23 rfl) (pc1 := 38) rfl ?_
      obtain ⟨d_38, e_39, h⟩ := ix_lt_ex h
      refine iz_last X k_37 (ix_tb_at tb_X9_raiseWeights 24 rfl) e_39 (pc1 := 39) rfl ?_
      obtain ⟨x1_40, e_41, h⟩ := ix_lt_ex h
      refine ix_iinc (i := 1) (j := 1) (v := x1_40) (L1 := [(1, .int x1_40), (0, .ref (K.2.2.1 + a0)), (2, .int x2), (3, .int x3)]) X (ix_tb_at tb_X9_raiseWeights 25 rfl) rfl (by rw [oi_1]; exact e_41.symm) (Nat.le_of_ble_eq_true rfl) rfl (pc1 := 42) rfl ?_
      refine ix_sub (L1 := [(0, .ref (K.2.2.1 + a0)), (1, .int x1_40), (2, .int x2), (3, .int x3)]) [1, 0, 2, 3] rfl ?_
      exact t_X9_raiseWeights_42 hKp X hr hlk hrec6 h
theorem t_X9_raiseWeights_6 {l : Launch} {p : Program} {e : Env} {s : State} {m : MethodId} {args : Array Value} {below : List Frame} {meth : Method} {c : Code} {K : ix_Cx} (hKp : ix_Kp K) {n : Nat} {z : ix_Z} (X : ix_X p s m args c K cX9_raiseWeights RX9 4) (hr : meth.sig.returnType = (some .int)) (hlk : meth.locks = false)  {a0 : Nat} {r : Int32} {d1 : ix_D2}  {x1 : Int32} {x2 : Int32} {x3 : Int32} {d : ix_D2} (h : f_X9_raiseWeights_6 n z  a0 x1 x2 x3 d = some (r, d1)) : ix_G p l e (ix_rm 1 23 0 0) s m args below meth c (MQ below (ix_Post K (some (.int r)) (ix_w z d1)) args s 0 0 (ix_A K)) K 4 0 0 6 [(0, .ref (K.2.2.1 + a0)), (1, .int x1), (2, .int x2), (3, .int x3)] [] (ix_w z d) := by
  have key : ∀ (f : Nat) (x1 : Int32) (x2 : Int32) (x3 : Int32) (d : ix_D2), ix_fix (b_X9_raiseWeights_6 n z  a0) (fun _ _ _ _ => none) f x1 x2 x3 d = some (r, d1) → ix_G p l e (ix_rm 1 23 0 0) s m args below meth c (MQ below (ix_Post K (some (.int r)) (ix_w z d1)) args s 0 0 (ix_A K)) K 4 0 0 6 [(0, .ref (K.2.2.1 + a0)), (1, .int x1), (2, .int x2), (3, .int x3)] [] (ix_w z d) := by
    intro f
    induction f with
    | zero =>
      intro x1 x2 x3 d h
      have h : (none : Option (Int32 × ix_D2)) = some (r, d1) := h
      cases h
    | succ f ih =>
      intro x1 x2 x3 d h
      exact tb_X9_raiseWeights_6 hKp X hr hlk (rec6 := ix_fix (b_X9_raiseWeights_6 n z  a0) (fun _ _ _ _ => none) f)  ih h
  exact key n x1 x2 x3 d h
set_option maxRecDepth 20000 in
theorem c_X9_raiseWeights {l : Launch} {K : ix_Cx} (hKp : ix_Kp K) {n : Nat} {z : ix_Z} {a0 : Nat} {d : ix_D2} {r : Int32} {d1 : ix_D2} (h : f_X9_raiseWeights n z a0 d = some (r, d1)) : ix_M l K yX9_raiseWeights cX9_raiseWeights 4 (some .int) 1 23 0 0 [.ref (K.2.2.1 + a0)] (ix_w z d) (some (.int r)) (ix_w z d1) := by
  refine ix_met mf_X9_raiseWeights hKp (Nat.le_of_ble_eq_true rfl) ?_
  intro p e s m args below meth c hr hlk hnm X
  have X : ix_X p s m args c K cX9_raiseWeights RX9 4 := X
  show ix_G p l e (ix_rm 1 23 0 0) s m args below meth c (MQ below (ix_Post K (some (.int r)) (ix_w z d1)) args s 0 0 (ix_A K)) K 4 0 0 0 [(0, .ref (K.2.2.1 + a0))] [] (ix_w z d)
  unfold f_X9_raiseWeights at h
  refine ix_iconst (v := 0) X (ix_tb_at tb_X9_raiseWeights 0 rfl) (by decide) (pc1 := 1) rfl ?_
  refine ix_istore_n (i := 1) (L1 := [(1, .int 0), (0, .ref (K.2.2.1 + a0))]) X (ix_tb_at tb_X9_raiseWeights 1 rfl) rfl (Nat.le_of_ble_eq_true rfl) rfl (pc1 := 2) rfl ?_
  refine ix_iconst (v := 0) X (ix_tb_at tb_X9_raiseWeights 2 rfl) (by decide) (pc1 := 3) rfl ?_
  refine ix_istore_n (i := 2) (L1 := [(2, .int 0), (1, .int 0), (0, .ref (K.2.2.1 + a0))]) X (ix_tb_at tb_X9_raiseWeights 3 rfl) rfl (Nat.le_of_ble_eq_true rfl) rfl (pc1 := 4) rfl ?_
  refine ix_iconst (v := 1) X (ix_tb_at tb_X9_raiseWeights 4 rfl) (by decide) (pc1 := 5) rfl ?_
  refine ix_istore_n (i := 3) (L1 := [(3, .int 1), (2, .int 0), (1, .int 0), (0, .ref (K.2.2.1 + a0))]) X (ix_tb_at tb_X9_raiseWeights 5 rfl) rfl (Nat.le_of_ble_eq_true rfl) rfl (pc1 := 6) rfl ?_
  refine ix_sub (L1 := [(0, .ref (K.2.2.1 + a0)), (1, .int 0), (2, .int 0), (3, .int 1)]) [3, 2, 1, 0] rfl ?_
  exact t_X9_raiseWeights_6 hKp X hr hlk  h
def tab_X9_pace : List (Nat × Instr × Nat) := [(0, .iload_n 0, 1), (1, .istore_n 1, 1), (2, .iconst 0, 1), (3, .istore_n 2, 1), (4, .iload_n 2, 1), (5, .bipush 32, 2), (7, .if_icmp .ge 61, 3), (10, .iload_n 1, 1), (11, .ifCond .le 57, 3), (14, .iconst 1, 1), (15, .istore_n 3, 1), (16, .iconst 0, 1), (17, .istore 4, 2), (19, .iload 4, 2), (21, .bipush 30, 2), (23, .if_icmp .ge 22, 3), (26, .iconst 2, 1), (27, .iload_n 3, 1), (28, .imul, 1), (29, .iload_n 1, 1), (30, .iconst 1, 1), (31, .iadd, 1), (32, .if_icmp .gt 13, 3), (35, .iload_n 3, 1), (36, .iconst 2, 1), (37, .imul, 1), (38, .istore_n 3, 1), (39, .iinc 4 1, 3), (42, .goto (-23), 3), (45, .iload_n 3, 1), (46, .iload_n 1, 1), (47, .iconst 1, 1), (48, .iadd, 1), (49, .if_icmp .ne 7, 3), (52, .iload_n 3, 1), (53, .iconst 2, 1), (54, .idiv, 1), (55, .ireturn, 1), (56, .iload_n 1, 1), (57, .iload_n 3, 1), (58, .iconst 1, 1), (59, .isub, 1), (60, .isub, 1), (61, .istore_n 1, 1), (62, .iinc 2 1, 3), (65, .goto (-61), 3), (68, .iconst 1, 1), (69, .ireturn, 1)]
theorem tb_X9_pace : ix_tab cX9_pace tab_X9_pace := by
  unfold ix_tab
  decide +kernel
noncomputable def f_X9_pace_45 (n : Nat) (z : ix_Z) (rec4 : Int32 → Int32 → ix_D2 → Option (Int32 × ix_D2)) (x1 : Int32) (x2 : Int32) (x3 : Int32) (d : ix_D2) : Option (Int32 × ix_D2) :=
  ix_if (x3 = x1 + 1) (some (x3 / 2, d)) (ix_lt (x1 - (x3 - 1)) (fun x1_5 => ix_lt (x2 + 1) (fun x2_7 => rec4 x1_5 x2_7 d)))
noncomputable def b_X9_pace_19 (n : Nat) (z : ix_Z) (rec4 : Int32 → Int32 → ix_D2 → Option (Int32 × ix_D2)) (x1 : Int32) (x2 : Int32) (rec19 : Int32 → Int32 → ix_D2 → Option (Int32 × ix_D2)) (x3 : Int32) (x4 : Int32) (d : ix_D2) : Option (Int32 × ix_D2) :=
  ix_if (30 ≤ x4) (f_X9_pace_45 n z rec4 x1 x2 x3 d) (ix_if (x1 + 1 < 2 * x3) (f_X9_pace_45 n z rec4 x1 x2 x3 d) (ix_lt (x3 * 2) (fun x3_10 => ix_lt (x4 + 1) (fun x4_12 => rec19 x3_10 x4_12 d))))
noncomputable def f_X9_pace_19 (n : Nat) (z : ix_Z) (rec4 : Int32 → Int32 → ix_D2 → Option (Int32 × ix_D2)) (x1 : Int32) (x2 : Int32) (x3 : Int32) (x4 : Int32) (d : ix_D2) : Option (Int32 × ix_D2) := ix_fix (b_X9_pace_19 n z rec4 x1 x2) (fun _ _ _ => none) n x3 x4 d
noncomputable def b_X9_pace_4 (n : Nat) (z : ix_Z)   (rec4 : Int32 → Int32 → ix_D2 → Option (Int32 × ix_D2)) (x1 : Int32) (x2 : Int32) (d : ix_D2) : Option (Int32 × ix_D2) :=
  ix_if (32 ≤ x2) (some (1, d)) (ix_if (x1 ≤ 0) (some (1, d)) (f_X9_pace_19 n z rec4 x1 x2 1 0 d))
noncomputable def f_X9_pace_4 (n : Nat) (z : ix_Z)   (x1 : Int32) (x2 : Int32) (d : ix_D2) : Option (Int32 × ix_D2) := ix_fix (b_X9_pace_4 n z  ) (fun _ _ _ => none) n x1 x2 d
noncomputable def f_X9_pace (n : Nat) (z : ix_Z) (x0 : Int32) (d : ix_D2) : Option (Int32 × ix_D2) :=
  f_X9_pace_4 n z   x0 0 d
set_option maxRecDepth 20000 in
theorem t_X9_pace_45 {l : Launch} {p : Program} {e : Env} {s : State} {m : MethodId} {args : Array Value} {below : List Frame} {meth : Method} {c : Code} {K : ix_Cx} (hKp : ix_Kp K) {n : Nat} {z : ix_Z} (X : ix_X p s m args c K cX9_pace RX9 5) (hr : meth.sig.returnType = (some .int)) (hlk : meth.locks = false) {rec4 : Int32 → Int32 → ix_D2 → Option (Int32 × ix_D2)} {x1 : Int32} {x2 : Int32} {x3 : Int32} {r : Int32} {d1 : ix_D2} (hrec4 : ∀ (x1 : Int32) (x2 : Int32) (d : ix_D2), rec4 x1 x2 d = some (r, d1) → ix_G p l e (ix_rm 0 0 0 0) s m args below meth c (MQ below (ix_Post K (some (.int r)) (ix_w z d1)) args s 0 0 (ix_A K)) K 5 0 0 4 [(1, .int x1), (2, .int x2)] [] (ix_w z d)) {d : ix_D2} (h : f_X9_pace_45 n z rec4 x1 x2 x3 d = some (r, d1)) : ix_G p l e (ix_rm 0 0 0 0) s m args below meth c (MQ below (ix_Post K (some (.int r)) (ix_w z d1)) args s 0 0 (ix_A K)) K 5 0 0 45 [(1, .int x1), (2, .int x2), (3, .int x3)] [] (ix_w z d) := by
  unfold f_X9_pace_45 at h
  refine ix_iload_n (i := 3) (j := 2) X (ix_tb_at tb_X9_pace 29 rfl) rfl rfl (pc1 := 46) rfl ?_
  refine ix_iload_n (i := 1) (j := 0) X (ix_tb_at tb_X9_pace 30 rfl) rfl rfl (pc1 := 47) rfl ?_
  refine ix_iconst (v := 1) X (ix_tb_at tb_X9_pace 31 rfl) (by decide) (pc1 := 48) rfl ?_
  refine ix_iadd X (ix_tb_at tb_X9_pace 32 rfl) (pc1 := 49) rfl ?_
  refine ix_icmp_ne (tgt := 56) X (ix_tb_at tb_X9_pace 33 rfl) (by decide) (pc1 := 52) rfl (fun q_4 => ?_) (fun q_4 => ?_)
  · have h := ix_iff q_4 h
    refine ix_iload_n (i := 1) (j := 0) X (ix_tb_at tb_X9_pace 38 rfl) rfl rfl (pc1 := 57) rfl ?_
    refine ix_iload_n (i := 3) (j := 2) X (ix_tb_at tb_X9_pace 39 rfl) rfl rfl (pc1 := 58) rfl ?_
    refine ix_iconst (v := 1) X (ix_tb_at tb_X9_pace 40 rfl) (by decide) (pc1 := 59) rfl ?_
    refine ix_isub X (ix_tb_at tb_X9_pace 41 rfl) (pc1 := 60) rfl ?_
    refine ix_isub X (ix_tb_at tb_X9_pace 42 rfl) (pc1 := 61) rfl ?_
    obtain ⟨x1_5, e_6, h⟩ := ix_lt_ex h
    refine ix_nmi e_6 ?_
    refine ix_istore_n (i := 1) (L1 := [(1, .int x1_5), (2, .int x2), (3, .int x3)]) X (ix_tb_at tb_X9_pace 43 rfl) rfl (Nat.le_of_ble_eq_true rfl) rfl (pc1 := 62) rfl ?_
    obtain ⟨x2_7, e_8, h⟩ := ix_lt_ex h
    refine ix_iinc (i := 2) (j := 1) (v := x2_7) (L1 := [(2, .int x2_7), (1, .int x1_5), (3, .int x3)]) X (ix_tb_at tb_X9_pace 44 rfl) rfl (by rw [oi_1]; exact e_8.symm) (Nat.le_of_ble_eq_true rfl) rfl (pc1 := 65) rfl ?_
    refine ix_goto (tgt := 4) X (ix_tb_at tb_X9_pace 45 rfl) (by decide) ?_
    refine ix_sub (L1 := [(1, .int x1_5), (2, .int x2_7)]) [1, 0] rfl ?_
    exact hrec4 x1_5 x2_7 d h
  · have h := ix_ift q_4 h
    refine ix_iload_n (i := 3) (j := 2) X (ix_tb_at tb_X9_pace 34 rfl) rfl rfl (pc1 := 53) rfl ?_
    refine ix_iconst (v := 2) X (ix_tb_at tb_X9_pace 35 rfl) (by decide) (pc1 := 54) rfl ?_
    refine ix_idiv X (ix_tb_at tb_X9_pace 36 rfl) (by decide) (pc1 := 55) rfl ?_
    exact ix_iret X hr hlk (ix_r2 (f := fun r => some (.int r)) (g := ix_w z) h) (ix_tb_at tb_X9_pace 37 rfl)
set_option maxRecDepth 20000 in
theorem tb_X9_pace_19 {l : Launch} {p : Program} {e : Env} {s : State} {m : MethodId} {args : Array Value} {below : List Frame} {meth : Method} {c : Code} {K : ix_Cx} (hKp : ix_Kp K) {n : Nat} {z : ix_Z} (X : ix_X p s m args c K cX9_pace RX9 5) (hr : meth.sig.returnType = (some .int)) (hlk : meth.locks = false) {rec4 : Int32 → Int32 → ix_D2 → Option (Int32 × ix_D2)} {x1 : Int32} {x2 : Int32} {rec19 : Int32 → Int32 → ix_D2 → Option (Int32 × ix_D2)} {r : Int32} {d1 : ix_D2} (hrec4 : ∀ (x1 : Int32) (x2 : Int32) (d : ix_D2), rec4 x1 x2 d = some (r, d1) → ix_G p l e (ix_rm 0 0 0 0) s m args below meth c (MQ below (ix_Post K (some (.int r)) (ix_w z d1)) args s 0 0 (ix_A K)) K 5 0 0 4 [(1, .int x1), (2, .int x2)] [] (ix_w z d)) (hrec19 : ∀ (x3 : Int32) (x4 : Int32) (d : ix_D2), rec19 x3 x4 d = some (r, d1) → ix_G p l e (ix_rm 0 0 0 0) s m args below meth c (MQ below (ix_Post K (some (.int r)) (ix_w z d1)) args s 0 0 (ix_A K)) K 5 0 0 19 [(1, .int x1), (2, .int x2), (3, .int x3), (4, .int x4)] [] (ix_w z d)) {x3 : Int32} {x4 : Int32} {d : ix_D2} (h : b_X9_pace_19 n z rec4 x1 x2 rec19 x3 x4 d = some (r, d1)) : ix_G p l e (ix_rm 0 0 0 0) s m args below meth c (MQ below (ix_Post K (some (.int r)) (ix_w z d1)) args s 0 0 (ix_A K)) K 5 0 0 19 [(1, .int x1), (2, .int x2), (3, .int x3), (4, .int x4)] [] (ix_w z d) := by
  unfold b_X9_pace_19 at h
  refine ix_iload (i := 4) (j := 3) X (ix_tb_at tb_X9_pace 13 rfl) rfl (pc1 := 21) rfl ?_
  refine ix_bipush (v := 30) X (ix_tb_at tb_X9_pace 14 rfl) (by decide) (pc1 := 23) rfl ?_
  refine ix_icmp_ge (tgt := 45) X (ix_tb_at tb_X9_pace 15 rfl) (by decide) (pc1 := 26) rfl (fun q_3 => ?_) (fun q_3 => ?_)
  · have h := ix_ift q_3 h
    refine ix_sub (L1 := [(1, .int x1), (2, .int x2), (3, .int x3)]) [0, 1, 2] rfl ?_
    exact t_X9_pace_45 hKp X hr hlk hrec4 h
  · have h := ix_iff q_3 h
    refine ix_iconst (v := 2) X (ix_tb_at tb_X9_pace 16 rfl) (by decide) (pc1 := 27) rfl ?_
    refine ix_iload_n (i := 3) (j := 2) X (ix_tb_at tb_X9_pace 17 rfl) rfl rfl (pc1 := 28) rfl ?_
    refine ix_imul X (ix_tb_at tb_X9_pace 18 rfl) (pc1 := 29) rfl ?_
    refine ix_iload_n (i := 1) (j := 0) X (ix_tb_at tb_X9_pace 19 rfl) rfl rfl (pc1 := 30) rfl ?_
    refine ix_iconst (v := 1) X (ix_tb_at tb_X9_pace 20 rfl) (by decide) (pc1 := 31) rfl ?_
    refine ix_iadd X (ix_tb_at tb_X9_pace 21 rfl) (pc1 := 32) rfl ?_
    refine ix_icmp_gt (tgt := 45) X (ix_tb_at tb_X9_pace 22 rfl) (by decide) (pc1 := 35) rfl (fun q_9 => ?_) (fun q_9 => ?_)
    · have h := ix_ift q_9 h
      refine ix_sub (L1 := [(1, .int x1), (2, .int x2), (3, .int x3)]) [0, 1, 2] rfl ?_
      exact t_X9_pace_45 hKp X hr hlk hrec4 h
    · have h := ix_iff q_9 h
      refine ix_iload_n (i := 3) (j := 2) X (ix_tb_at tb_X9_pace 23 rfl) rfl rfl (pc1 := 36) rfl ?_
      refine ix_iconst (v := 2) X (ix_tb_at tb_X9_pace 24 rfl) (by decide) (pc1 := 37) rfl ?_
      refine ix_imul X (ix_tb_at tb_X9_pace 25 rfl) (pc1 := 38) rfl ?_
      obtain ⟨x3_10, e_11, h⟩ := ix_lt_ex h
      refine ix_nmi e_11 ?_
      refine ix_istore_n (i := 3) (L1 := [(3, .int x3_10), (1, .int x1), (2, .int x2), (4, .int x4)]) X (ix_tb_at tb_X9_pace 26 rfl) rfl (Nat.le_of_ble_eq_true rfl) rfl (pc1 := 39) rfl ?_
      obtain ⟨x4_12, e_13, h⟩ := ix_lt_ex h
      refine ix_iinc (i := 4) (j := 3) (v := x4_12) (L1 := [(4, .int x4_12), (3, .int x3_10), (1, .int x1), (2, .int x2)]) X (ix_tb_at tb_X9_pace 27 rfl) rfl (by rw [oi_1]; exact e_13.symm) (Nat.le_of_ble_eq_true rfl) rfl (pc1 := 42) rfl ?_
      refine ix_goto (tgt := 19) X (ix_tb_at tb_X9_pace 28 rfl) (by decide) ?_
      refine ix_sub (L1 := [(1, .int x1), (2, .int x2), (3, .int x3_10), (4, .int x4_12)]) [2, 3, 1, 0] rfl ?_
      exact hrec19 x3_10 x4_12 d h
theorem t_X9_pace_19 {l : Launch} {p : Program} {e : Env} {s : State} {m : MethodId} {args : Array Value} {below : List Frame} {meth : Method} {c : Code} {K : ix_Cx} (hKp : ix_Kp K) {n : Nat} {z : ix_Z} (X : ix_X p s m args c K cX9_pace RX9 5) (hr : meth.sig.returnType = (some .int)) (hlk : meth.locks = false) {rec4 : Int32 → Int32 → ix_D2 → Option (Int32 × ix_D2)} {x1 : Int32} {x2 : Int32} {r : Int32} {d1 : ix_D2} (hrec4 : ∀ (x1 : Int32) (x2 : Int32) (d : ix_D2), rec4 x1 x2 d = some (r, d1) → ix_G p l e (ix_rm 0 0 0 0) s m args below meth c (MQ below (ix_Post K (some (.int r)) (ix_w z d1)) args s 0 0 (ix_A K)) K 5 0 0 4 [(1, .int x1), (2, .int x2)] [] (ix_w z d)) {x3 : Int32} {x4 : Int32} {d : ix_D2} (h : f_X9_pace_19 n z rec4 x1 x2 x3 x4 d = some (r, d1)) : ix_G p l e (ix_rm 0 0 0 0) s m args below meth c (MQ below (ix_Post K (some (.int r)) (ix_w z d1)) args s 0 0 (ix_A K)) K 5 0 0 19 [(1, .int x1), (2, .int x2), (3, .int x3), (4, .int x4)] [] (ix_w z d) := by
  have key : ∀ (f : Nat) (x3 : Int32) (x4 : Int32) (d : ix_D2), ix_fix (b_X9_pace_19 n z rec4 x1 x2) (fun _ _ _ => none) f x3 x4 d = some (r, d1) → ix_G p l e (ix_rm 0 0 0 0) s m args below meth c (MQ below (ix_Post K (some (.int r)) (ix_w z d1)) args s 0 0 (ix_A K)) K 5 0 0 19 [(1, .int x1), (2, .int x2), (3, .int x3), (4, .int x4)] [] (ix_w z d) := by
    intro f
    induction f with
    | zero =>
      intro x3 x4 d h
      have h : (none : Option (Int32 × ix_D2)) = some (r, d1) := h
      cases h
    | succ f ih =>
      intro x3 x4 d h
      exact tb_X9_pace_19 hKp X hr hlk (rec19 := ix_fix (b_X9_pace_19 n z rec4 x1 x2) (fun _ _ _ => none) f) hrec4 ih h
  exact key n x3 x4 d h
set_option maxRecDepth 20000 in
theorem tb_X9_pace_4 {l : Launch} {p : Program} {e : Env} {s : State} {m : MethodId} {args : Array Value} {below : List Frame} {meth : Method} {c : Code} {K : ix_Cx} (hKp : ix_Kp K) {n : Nat} {z : ix_Z} (X : ix_X p s m args c K cX9_pace RX9 5) (hr : meth.sig.returnType = (some .int)) (hlk : meth.locks = false)   {rec4 : Int32 → Int32 → ix_D2 → Option (Int32 × ix_D2)} {r : Int32} {d1 : ix_D2} (hrec4 : ∀ (x1 : Int32) (x2 : Int32) (d : ix_D2), rec4 x1 x2 d = some (r, d1) → ix_G p l e (ix_rm 0 0 0 0) s m args below meth c (MQ below (ix_Post K (some (.int r)) (ix_w z d1)) args s 0 0 (ix_A K)) K 5 0 0 4 [(1, .int x1), (2, .int x2)] [] (ix_w z d)) {x1 : Int32} {x2 : Int32} {d : ix_D2} (h : b_X9_pace_4 n z   rec4 x1 x2 d = some (r, d1)) : ix_G p l e (ix_rm 0 0 0 0) s m args below meth c (MQ below (ix_Post K (some (.int r)) (ix_w z d1)) args s 0 0 (ix_A K)) K 5 0 0 4 [(1, .int x1), (2, .int x2)] [] (ix_w z d) := by
  unfold b_X9_pace_4 at h
  refine ix_iload_n (i := 2) (j := 1) X (ix_tb_at tb_X9_pace 4 rfl) rfl rfl (pc1 := 5) rfl ?_
  refine ix_bipush (v := 32) X (ix_tb_at tb_X9_pace 5 rfl) (by decide) (pc1 := 7) rfl ?_
  refine ix_icmp_ge (tgt := 68) X (ix_tb_at tb_X9_pace 6 rfl) (by decide) (pc1 := 10) rfl (fun q_1 => ?_) (fun q_1 => ?_)
  · have h := ix_ift q_1 h
    refine ix_iconst (v := 1) X (ix_tb_at tb_X9_pace 46 rfl) (by decide) (pc1 := 69) rfl ?_
    exact ix_iret X hr hlk (ix_r2 (f := fun r => some (.int r)) (g := ix_w z) h) (ix_tb_at tb_X9_pace 47 rfl)
  · have h := ix_iff q_1 h
    refine ix_iload_n (i := 1) (j := 0) X (ix_tb_at tb_X9_pace 7 rfl) rfl rfl (pc1 := 11) rfl ?_
    refine ix_if_le (tgt := 68) X (ix_tb_at tb_X9_pace 8 rfl) (by decide) (pc1 := 14) rfl (fun q_2 => ?_) (fun q_2 => ?_)
    · have h := ix_ift q_2 h
      refine ix_iconst (v := 1) X (ix_tb_at tb_X9_pace 46 rfl) (by decide) (pc1 := 69) rfl ?_
      exact ix_iret X hr hlk (ix_r2 (f := fun r => some (.int r)) (g := ix_w z) h) (ix_tb_at tb_X9_pace 47 rfl)
    · have h := ix_iff q_2 h
      refine ix_iconst (v := 1) X (ix_tb_at tb_X9_pace 9 rfl) (by decide) (pc1 := 15) rfl ?_
      refine ix_istore_n (i := 3) (L1 := [(3, .int 1), (1, .int x1), (2, .int x2)]) X (ix_tb_at tb_X9_pace 10 rfl) rfl (Nat.le_of_ble_eq_true rfl) rfl (pc1 := 16) rfl ?_
      refine ix_iconst (v := 0) X (ix_tb_at tb_X9_pace 11 rfl) (by decide) (pc1 := 17) rfl ?_
      refine ix_istore (i := 4) (L1 := [(4, .int 0), (3, .int 1), (1, .int x1), (2, .int x2)]) X (ix_tb_at tb_X9_pace 12 rfl) (Nat.le_of_ble_eq_true rfl) rfl (pc1 := 19) rfl ?_
      refine ix_sub (L1 := [(1, .int x1), (2, .int x2), (3, .int 1), (4, .int 0)]) [2, 3, 1, 0] rfl ?_
      exact t_X9_pace_19 hKp X hr hlk hrec4 h
theorem t_X9_pace_4 {l : Launch} {p : Program} {e : Env} {s : State} {m : MethodId} {args : Array Value} {below : List Frame} {meth : Method} {c : Code} {K : ix_Cx} (hKp : ix_Kp K) {n : Nat} {z : ix_Z} (X : ix_X p s m args c K cX9_pace RX9 5) (hr : meth.sig.returnType = (some .int)) (hlk : meth.locks = false)   {r : Int32} {d1 : ix_D2}  {x1 : Int32} {x2 : Int32} {d : ix_D2} (h : f_X9_pace_4 n z   x1 x2 d = some (r, d1)) : ix_G p l e (ix_rm 0 0 0 0) s m args below meth c (MQ below (ix_Post K (some (.int r)) (ix_w z d1)) args s 0 0 (ix_A K)) K 5 0 0 4 [(1, .int x1), (2, .int x2)] [] (ix_w z d) := by
  have key : ∀ (f : Nat) (x1 : Int32) (x2 : Int32) (d : ix_D2), ix_fix (b_X9_pace_4 n z  ) (fun _ _ _ => none) f x1 x2 d = some (r, d1) → ix_G p l e (ix_rm 0 0 0 0) s m args below meth c (MQ below (ix_Post K (some (.int r)) (ix_w z d1)) args s 0 0 (ix_A K)) K 5 0 0 4 [(1, .int x1), (2, .int x2)] [] (ix_w z d) := by
    intro f
    induction f with
    | zero =>
      intro x1 x2 d h
      have h : (none : Option (Int32 × ix_D2)) = some (r, d1) := h
      cases h
    | succ f ih =>
      intro x1 x2 d h
      exact tb_X9_pace_4 hKp X hr hlk (rec4 := ix_fix (b_X9_pace_4 n z  ) (fun _ _ _ => none) f)  ih h
  exact key n x1 x2 d h
set_option maxRecDepth 20000 in
theorem c_X9_pace {l : Launch} {K : ix_Cx} (hKp : ix_Kp K) {n : Nat} {z : ix_Z} {x0 : Int32} {d : ix_D2} {r : Int32} {d1 : ix_D2} (h : f_X9_pace n z x0 d = some (r, d1)) : ix_M l K yX9_pace cX9_pace 5 (some .int) 0 0 0 0 [.int x0] (ix_w z d) (some (.int r)) (ix_w z d1) := by
  refine ix_met mf_X9_pace hKp (Nat.le_of_ble_eq_true rfl) ?_
  intro p e s m args below meth c hr hlk hnm X
  have X : ix_X p s m args c K cX9_pace RX9 5 := X
  show ix_G p l e (ix_rm 0 0 0 0) s m args below meth c (MQ below (ix_Post K (some (.int r)) (ix_w z d1)) args s 0 0 (ix_A K)) K 5 0 0 0 [(0, .int x0)] [] (ix_w z d)
  unfold f_X9_pace at h
  refine ix_iload_n (i := 0) (j := 0) X (ix_tb_at tb_X9_pace 0 rfl) rfl rfl (pc1 := 1) rfl ?_
  refine ix_istore_n (i := 1) (L1 := [(1, .int x0), (0, .int x0)]) X (ix_tb_at tb_X9_pace 1 rfl) rfl (Nat.le_of_ble_eq_true rfl) rfl (pc1 := 2) rfl ?_
  refine ix_iconst (v := 0) X (ix_tb_at tb_X9_pace 2 rfl) (by decide) (pc1 := 3) rfl ?_
  refine ix_istore_n (i := 2) (L1 := [(2, .int 0), (1, .int x0), (0, .int x0)]) X (ix_tb_at tb_X9_pace 3 rfl) rfl (Nat.le_of_ble_eq_true rfl) rfl (pc1 := 4) rfl ?_
  refine ix_sub (L1 := [(1, .int x0), (2, .int 0)]) [1, 0] rfl ?_
  exact t_X9_pace_4 hKp X hr hlk  h
def tab_X9_goBack : List (Nat × Instr × Nat) := [(0, .iconst 0, 1), (1, .istore_n 1, 1), (2, .iconst 1, 1), (3, .istore_n 2, 1), (4, .iload_n 2, 1), (5, .aload_n 0, 1), (6, .getfield 128, 3), (9, .if_icmp .ge 31, 3), (12, .iload_n 1, 1), (13, .aload_n 0, 1), (14, .getfield 12, 3), (17, .getfield 250, 3), (20, .aload_n 0, 1), (21, .getfield 56, 3), (24, .iload_n 2, 1), (25, .iaload, 1), (26, .invokestatic 201, 3), (29, .iaload, 1), (30, .invokestatic 189, 3), (33, .istore_n 1, 1), (34, .iinc 2 1, 3), (37, .goto (-33), 3), (40, .aload_n 0, 1), (41, .getfield 12, 3), (44, .iload_n 1, 1), (45, .invokevirtual 277, 3), (48, .aload_n 0, 1), (49, .dup, 1), (50, .getfield 97, 3), (53, .iconst 1, 1), (54, .iadd, 1), (55, .putfield 97, 3), (58, .aload_n 0, 1), (59, .getfield 92, 3), (62, .ifCond .le 49, 3), (65, .aload_n 0, 1), (66, .getfield 97, 3), (69, .aload_n 0, 1), (70, .getfield 92, 3), (73, .aload_n 0, 1), (74, .getfield 47, 3), (77, .iconst 5, 1), (78, .iaload, 1), (79, .iconst 1, 1), (80, .iadd, 1), (81, .invokestatic 280, 3), (84, .imul, 1), (85, .if_icmp .lt 26, 3), (88, .aload_n 0, 1), (89, .getfield 12, 3), (92, .iconst 0, 1), (93, .invokevirtual 277, 3), (96, .aload_n 0, 1), (97, .iconst 0, 1), (98, .putfield 97, 3), (101, .aload_n 0, 1), (102, .getfield 47, 3), (105, .iconst 5, 1), (106, .dup2, 1), (107, .iaload, 1), (108, .iconst 1, 1), (109, .iadd, 1), (110, .iastore, 1), (111, .return_, 1)]
theorem tb_X9_goBack : ix_tab cX9_goBack tab_X9_goBack := by
  unfold ix_tab
  decide +kernel
noncomputable def b_X9_goBack_4 (n : Nat) (z : ix_Z)  (a0 : Nat) (rec4 : Int32 → Int32 → ix_D2 → Option (ix_D2)) (x1 : Int32) (x2 : Int32) (d : ix_D2) : Option (ix_D2) :=
  ix_ck (ix_ok z [8] a0) (ix_if (d.1 a0 14 ≤ x2) (ix_bd1 (z.1 a0 0) (fun b_3 => ix_ck (ix_ok z [1] b_3) (ix_bd1 (f_X1_backTo n z b_3 x1 d) (fun d_5 => ix_lt (ix_di d_5 a0 19 ((d_5.1 a0 19) + 1)) (fun d_8 => ix_if (d_8.1 a0 17 ≤ 0) (some d_8) (ix_bd1 (z.1 a0 10) (fun b_11 => ix_ck (ix_ix z 20 b_11 5) (ix_bd2 (f_X9_pace n z ((d_8.1 b_11 (ix_n 5)) + 1) d_8) (fun r_16 d_14 => ix_if (d_8.1 a0 19 < (d_8.1 a0 17) * r_16) (some d_14) (ix_bd1 (f_X1_backTo n z b_3 0 d_14) (fun d_18 => ix_lt (ix_di d_18 a0 19 0) (fun d_20 => ix_lt (ix_di d_20 b_11 (ix_n 5) ((d_20.1 b_11 (ix_n 5)) + 1)) (fun d_22 => some d_22))))))))))))) (ix_bd1 (z.1 a0 0) (fun b_24 => ix_ck (ix_ok z [1] b_24) (ix_bd1 (z.1 b_24 9) (fun b_27 => ix_bd1 (z.1 a0 13) (fun b_29 => ix_ck (ix_ix z 20 b_29 x2) (ix_ck (ix_ix z 20 b_27 (ix_abs (d.1 b_29 (ix_n x2)))) (ix_lt (ix_max x1 (d.1 b_27 (ix_n (ix_abs (d.1 b_29 (ix_n x2)))))) (fun x1_33 => ix_lt (x2 + 1) (fun x2_35 => rec4 x1_33 x2_35 d))))))))))
noncomputable def f_X9_goBack_4 (n : Nat) (z : ix_Z)  (a0 : Nat) (x1 : Int32) (x2 : Int32) (d : ix_D2) : Option (ix_D2) := ix_fix (b_X9_goBack_4 n z  a0) (fun _ _ _ => none) n x1 x2 d
noncomputable def f_X9_goBack (n : Nat) (z : ix_Z) (a0 : Nat) (d : ix_D2) : Option (ix_D2) :=
  f_X9_goBack_4 n z  a0 0 1 d
set_option maxRecDepth 20000 in
theorem tb_X9_goBack_4 {l : Launch} {p : Program} {e : Env} {s : State} {m : MethodId} {args : Array Value} {below : List Frame} {meth : Method} {c : Code} {K : ix_Cx} (hKp : ix_Kp K) {n : Nat} {z : ix_Z} (X : ix_X p s m args c K cX9_goBack RX9 3) (hr : meth.sig.returnType = (none : Option Jvm.ClassFile.FieldType)) (hlk : meth.locks = false)  {a0 : Nat} {rec4 : Int32 → Int32 → ix_D2 → Option (ix_D2)} {d1 : ix_D2} (hrec4 : ∀ (x1 : Int32) (x2 : Int32) (d : ix_D2), rec4 x1 x2 d = some d1 → ix_G p l e (ix_rm 3 74 0 0) s m args below meth c (MQ below (ix_Post K none (ix_w z d1)) args s 0 0 (ix_A K)) K 3 0 0 4 [(0, .ref (K.2.2.1 + a0)), (1, .int x1), (2, .int x2)] [] (ix_w z d)) {x1 : Int32} {x2 : Int32} {d : ix_D2} (h : b_X9_goBack_4 n z  a0 rec4 x1 x2 d = some d1) : ix_G p l e (ix_rm 3 74 0 0) s m args below meth c (MQ below (ix_Post K none (ix_w z d1)) args s 0 0 (ix_A K)) K 3 0 0 4 [(0, .ref (K.2.2.1 + a0)), (1, .int x1), (2, .int x2)] [] (ix_w z d) := by
  unfold b_X9_goBack_4 at h
  refine ix_iload_n (i := 2) (j := 2) X (ix_tb_at tb_X9_goBack 4 rfl) rfl rfl (pc1 := 5) rfl ?_
  refine ix_aload_n (i := 0) (j := 0) X (ix_tb_at tb_X9_goBack 5 rfl) rfl rfl (pc1 := 6) rfl ?_
  obtain ⟨k_1, h⟩ := ix_ck_some h
  refine iz_getI X fl_RX9_128 k_1 (ix_tb_at tb_X9_goBack 6 rfl) (pc1 := 9) rfl ?_
  refine ix_icmp_ge (tgt := 40) X (ix_tb_at tb_X9_goBack 7 rfl) (by decide) (pc1 := 12) rfl (fun q_2 => ?_) (fun q_2 => ?_)
  · have h := ix_ift q_2 h
    refine ix_aload_n (i := 0) (j := 0) X (ix_tb_at tb_X9_goBack 22 rfl) rfl rfl (pc1 := 41) rfl ?_
    obtain ⟨b_3, q_4, h⟩ := ix_bd1_ex h
    refine iz_getR X fl_RX9_12 k_1 q_4 (ix_tb_at tb_X9_goBack 23 rfl) (pc1 := 44) rfl ?_
    refine ix_iload_n (i := 1) (j := 1) X (ix_tb_at tb_X9_goBack 24 rfl) rfl rfl (pc1 := 45) rfl ?_
    obtain ⟨k_7, h⟩ := ix_ck_some h
    obtain ⟨d_5, h_6, h⟩ := ix_bd1_ex h
    refine ix_callV (As := [.int x1]) (rest := []) (ci := 1) (T := TX1) (nf := 17) X mf_X1_backTo mi_X1_backTo ms_X1_backTo rfl (Nat.le_of_ble_eq_true rfl) ml_RX9_277 ⟨Nat.le_of_ble_eq_true rfl, Nat.le_of_ble_eq_true rfl⟩ ⟨Nat.le_of_ble_eq_true rfl, Nat.le_of_ble_eq_true rfl⟩ rfl (Nat.le_of_ble_eq_true rfl) (ix_tb_at tb_X9_goBack 25 rfl) ⟨k_7.1, List.mem_singleton.mp k_7.2⟩ (c_X1_backTo hKp h_6) rfl (pc1 := 48) rfl ?_
    refine ix_aload_n (i := 0) (j := 0) X (ix_tb_at tb_X9_goBack 26 rfl) rfl rfl (pc1 := 49) rfl ?_
    refine ix_dup X (ix_tb_at tb_X9_goBack 27 rfl) rfl (pc1 := 50) rfl ?_
    refine iz_getI X fl_RX9_97 k_1 (ix_tb_at tb_X9_goBack 28 rfl) (pc1 := 53) rfl ?_
    refine ix_iconst (v := 1) X (ix_tb_at tb_X9_goBack 29 rfl) (by decide) (pc1 := 54) rfl ?_
    refine ix_iadd X (ix_tb_at tb_X9_goBack 30 rfl) (pc1 := 55) rfl ?_
    obtain ⟨d_8, e_9, h⟩ := ix_lt_ex h
    refine iz_putI X fp_RX9_97 k_1 (ix_tb_at tb_X9_goBack 31 rfl) e_9 (pc1 := 58) rfl ?_
    refine ix_aload_n (i := 0) (j := 0) X (ix_tb_at tb_X9_goBack 32 rfl) rfl rfl (pc1 := 59) rfl ?_
    refine iz_getI X fl_RX9_92 k_1 (ix_tb_at tb_X9_goBack 33 rfl) (pc1 := 62) rfl ?_
    refine ix_if_le (tgt := 111) X (ix_tb_at tb_X9_goBack 34 rfl) (by decide) (pc1 := 65) rfl (fun q_10 => ?_) (fun q_10 => ?_)
    · have h := ix_ift q_10 h
      exact ix_vret X hr hlk (ix_r1 (g := ix_w z) h) (ix_tb_at tb_X9_goBack 63 rfl)
    · have h := ix_iff q_10 h
      refine ix_aload_n (i := 0) (j := 0) X (ix_tb_at tb_X9_goBack 35 rfl) rfl rfl (pc1 := 66) rfl ?_
      refine iz_getI X fl_RX9_97 k_1 (ix_tb_at tb_X9_goBack 36 rfl) (pc1 := 69) rfl ?_
      refine ix_aload_n (i := 0) (j := 0) X (ix_tb_at tb_X9_goBack 37 rfl) rfl rfl (pc1 := 70) rfl ?_
      refine iz_getI X fl_RX9_92 k_1 (ix_tb_at tb_X9_goBack 38 rfl) (pc1 := 73) rfl ?_
      refine ix_aload_n (i := 0) (j := 0) X (ix_tb_at tb_X9_goBack 39 rfl) rfl rfl (pc1 := 74) rfl ?_
      obtain ⟨b_11, q_12, h⟩ := ix_bd1_ex h
      refine iz_getR X fl_RX9_47 k_1 q_12 (ix_tb_at tb_X9_goBack 40 rfl) (pc1 := 77) rfl ?_
      refine ix_iconst (v := 5) X (ix_tb_at tb_X9_goBack 41 rfl) (by decide) (pc1 := 78) rfl ?_
      obtain ⟨k_13, h⟩ := ix_ck_some h
      refine iz_iald X k_13 (ix_tb_at tb_X9_goBack 42 rfl) (pc1 := 79) rfl ?_
      refine ix_iconst (v := 1) X (ix_tb_at tb_X9_goBack 43 rfl) (by decide) (pc1 := 80) rfl ?_
      refine ix_iadd X (ix_tb_at tb_X9_goBack 44 rfl) (pc1 := 81) rfl ?_
      obtain ⟨r_16, d_14, h_15, h⟩ := ix_bd2_ex h
      refine ix_callS (As := [.int ((d_8.1 b_11 (ix_n 5)) + 1)]) (rest := [.int (d_8.1 a0 17), .int (d_8.1 a0 19)]) X mf_X9_pace st_X9_pace ml_RX9_280 ⟨Nat.le_of_ble_eq_true rfl, Nat.le_of_ble_eq_true rfl⟩ ⟨Nat.le_of_ble_eq_true rfl, Nat.le_of_ble_eq_true rfl⟩ rfl (Nat.le_of_ble_eq_true rfl) (ix_tb_at tb_X9_goBack 45 rfl) (c_X9_pace hKp h_15) rfl (pc1 := 84) rfl ?_
      refine ix_imul X (ix_tb_at tb_X9_goBack 46 rfl) (pc1 := 85) rfl ?_
      refine ix_icmp_lt (tgt := 111) X (ix_tb_at tb_X9_goBack 47 rfl) (by decide) (pc1 := 88) rfl (fun q_17 => ?_) (fun q_17 => ?_)
      · have h := ix_ift q_17 h
        exact ix_vret X hr hlk (ix_r1 (g := ix_w z) h) (ix_tb_at tb_X9_goBack 63 rfl)
      · have h := ix_iff q_17 h
        refine ix_aload_n (i := 0) (j := 0) X (ix_tb_at tb_X9_goBack 48 rfl) rfl rfl (pc1 := 89) rfl ?_
        refine iz_getR X fl_RX9_12 k_1 q_4 (ix_tb_at tb_X9_goBack 49 rfl) (pc1 := 92) rfl ?_
        refine ix_iconst (v := 0) X (ix_tb_at tb_X9_goBack 50 rfl) (by decide) (pc1 := 93) rfl ?_
        obtain ⟨d_18, h_19, h⟩ := ix_bd1_ex h
        refine ix_callV (As := [.int 0]) (rest := []) (ci := 1) (T := TX1) (nf := 17) X mf_X1_backTo mi_X1_backTo ms_X1_backTo rfl (Nat.le_of_ble_eq_true rfl) ml_RX9_277 ⟨Nat.le_of_ble_eq_true rfl, Nat.le_of_ble_eq_true rfl⟩ ⟨Nat.le_of_ble_eq_true rfl, Nat.le_of_ble_eq_true rfl⟩ rfl (Nat.le_of_ble_eq_true rfl) (ix_tb_at tb_X9_goBack 51 rfl) ⟨k_7.1, List.mem_singleton.mp k_7.2⟩ (c_X1_backTo hKp h_19) rfl (pc1 := 96) rfl ?_
        refine ix_aload_n (i := 0) (j := 0) X (ix_tb_at tb_X9_goBack 52 rfl) rfl rfl (pc1 := 97) rfl ?_
        refine ix_iconst (v := 0) X (ix_tb_at tb_X9_goBack 53 rfl) (by decide) (pc1 := 98) rfl ?_
        obtain ⟨d_20, e_21, h⟩ := ix_lt_ex h
        refine iz_putI X fp_RX9_97 k_1 (ix_tb_at tb_X9_goBack 54 rfl) e_21 (pc1 := 101) rfl ?_
        refine ix_aload_n (i := 0) (j := 0) X (ix_tb_at tb_X9_goBack 55 rfl) rfl rfl (pc1 := 102) rfl ?_
        refine iz_getR X fl_RX9_47 k_1 q_12 (ix_tb_at tb_X9_goBack 56 rfl) (pc1 := 105) rfl ?_
        refine ix_iconst (v := 5) X (ix_tb_at tb_X9_goBack 57 rfl) (by decide) (pc1 := 106) rfl ?_
        refine ix_dup2 X (ix_tb_at tb_X9_goBack 58 rfl) rfl rfl (pc1 := 107) rfl ?_
        refine iz_iald X k_13 (ix_tb_at tb_X9_goBack 59 rfl) (pc1 := 108) rfl ?_
        refine ix_iconst (v := 1) X (ix_tb_at tb_X9_goBack 60 rfl) (by decide) (pc1 := 109) rfl ?_
        refine ix_iadd X (ix_tb_at tb_X9_goBack 61 rfl) (pc1 := 110) rfl ?_
        obtain ⟨d_22, e_23, h⟩ := ix_lt_ex h
        refine iz_iast X k_13 (ix_tb_at tb_X9_goBack 62 rfl) e_23 (pc1 := 111) rfl ?_
        exact ix_vret X hr hlk (ix_r1 (g := ix_w z) h) (ix_tb_at tb_X9_goBack 63 rfl)
  · have h := ix_iff q_2 h
    refine ix_iload_n (i := 1) (j := 1) X (ix_tb_at tb_X9_goBack 8 rfl) rfl rfl (pc1 := 13) rfl ?_
    refine ix_aload_n (i := 0) (j := 0) X (ix_tb_at tb_X9_goBack 9 rfl) rfl rfl (pc1 := 14) rfl ?_
    obtain ⟨b_24, q_25, h⟩ := ix_bd1_ex h
    refine iz_getR X fl_RX9_12 k_1 q_25 (ix_tb_at tb_X9_goBack 10 rfl) (pc1 := 17) rfl ?_
    obtain ⟨k_26, h⟩ := ix_ck_some h
    obtain ⟨b_27, q_28, h⟩ := ix_bd1_ex h
    refine iz_getR X fl_RX9_250 k_26 q_28 (ix_tb_at tb_X9_goBack 11 rfl) (pc1 := 20) rfl ?_
    refine ix_aload_n (i := 0) (j := 0) X (ix_tb_at tb_X9_goBack 12 rfl) rfl rfl (pc1 := 21) rfl ?_
    obtain ⟨b_29, q_30, h⟩ := ix_bd1_ex h
    refine iz_getR X fl_RX9_56 k_1 q_30 (ix_tb_at tb_X9_goBack 13 rfl) (pc1 := 24) rfl ?_
    refine ix_iload_n (i := 2) (j := 2) X (ix_tb_at tb_X9_goBack 14 rfl) rfl rfl (pc1 := 25) rfl ?_
    obtain ⟨k_31, h⟩ := ix_ck_some h
    refine iz_iald X k_31 (ix_tb_at tb_X9_goBack 15 rfl) (pc1 := 26) rfl ?_
    refine ix_mabs X ml_RX9_201 (Nat.le_of_ble_eq_true rfl) (Nat.le_of_ble_eq_true rfl) ⟨Nat.le_of_ble_eq_true rfl, Nat.le_of_ble_eq_true rfl⟩ (ix_tb_at tb_X9_goBack 16 rfl) (pc1 := 29) rfl ?_
    obtain ⟨k_32, h⟩ := ix_ck_some h
    refine iz_iald X k_32 (ix_tb_at tb_X9_goBack 17 rfl) (pc1 := 30) rfl ?_
    refine ix_mmax X ml_RX9_189 (Nat.le_of_ble_eq_true rfl) (Nat.le_of_ble_eq_true rfl) ⟨Nat.le_of_ble_eq_true rfl, Nat.le_of_ble_eq_true rfl⟩ (ix_tb_at tb_X9_goBack 18 rfl) (pc1 := 33) rfl ?_
    obtain ⟨x1_33, e_34, h⟩ := ix_lt_ex h
    refine ix_nmi e_34 ?_
    refine ix_istore_n (i := 1) (L1 := [(1, .int x1_33), (0, .ref (K.2.2.1 + a0)), (2, .int x2)]) X (ix_tb_at tb_X9_goBack 19 rfl) rfl (Nat.le_of_ble_eq_true rfl) rfl (pc1 := 34) rfl ?_
    obtain ⟨x2_35, e_36, h⟩ := ix_lt_ex h
    refine ix_iinc (i := 2) (j := 2) (v := x2_35) (L1 := [(2, .int x2_35), (1, .int x1_33), (0, .ref (K.2.2.1 + a0))]) X (ix_tb_at tb_X9_goBack 20 rfl) rfl (by rw [oi_1]; exact e_36.symm) (Nat.le_of_ble_eq_true rfl) rfl (pc1 := 37) rfl ?_
    refine ix_goto (tgt := 4) X (ix_tb_at tb_X9_goBack 21 rfl) (by decide) ?_
    refine ix_sub (L1 := [(0, .ref (K.2.2.1 + a0)), (1, .int x1_33), (2, .int x2_35)]) [2, 1, 0] rfl ?_
    exact hrec4 x1_33 x2_35 d h
theorem t_X9_goBack_4 {l : Launch} {p : Program} {e : Env} {s : State} {m : MethodId} {args : Array Value} {below : List Frame} {meth : Method} {c : Code} {K : ix_Cx} (hKp : ix_Kp K) {n : Nat} {z : ix_Z} (X : ix_X p s m args c K cX9_goBack RX9 3) (hr : meth.sig.returnType = (none : Option Jvm.ClassFile.FieldType)) (hlk : meth.locks = false)  {a0 : Nat} {d1 : ix_D2}  {x1 : Int32} {x2 : Int32} {d : ix_D2} (h : f_X9_goBack_4 n z  a0 x1 x2 d = some d1) : ix_G p l e (ix_rm 3 74 0 0) s m args below meth c (MQ below (ix_Post K none (ix_w z d1)) args s 0 0 (ix_A K)) K 3 0 0 4 [(0, .ref (K.2.2.1 + a0)), (1, .int x1), (2, .int x2)] [] (ix_w z d) := by
  have key : ∀ (f : Nat) (x1 : Int32) (x2 : Int32) (d : ix_D2), ix_fix (b_X9_goBack_4 n z  a0) (fun _ _ _ => none) f x1 x2 d = some d1 → ix_G p l e (ix_rm 3 74 0 0) s m args below meth c (MQ below (ix_Post K none (ix_w z d1)) args s 0 0 (ix_A K)) K 3 0 0 4 [(0, .ref (K.2.2.1 + a0)), (1, .int x1), (2, .int x2)] [] (ix_w z d) := by
    intro f
    induction f with
    | zero =>
      intro x1 x2 d h
      have h : (none : Option (ix_D2)) = some d1 := h
      cases h
    | succ f ih =>
      intro x1 x2 d h
      exact tb_X9_goBack_4 hKp X hr hlk (rec4 := ix_fix (b_X9_goBack_4 n z  a0) (fun _ _ _ => none) f)  ih h
  exact key n x1 x2 d h
set_option maxRecDepth 20000 in
theorem c_X9_goBack {l : Launch} {K : ix_Cx} (hKp : ix_Kp K) {n : Nat} {z : ix_Z} {a0 : Nat} {d : ix_D2} {d1 : ix_D2} (h : f_X9_goBack n z a0 d = some d1) : ix_M l K yX9_goBack cX9_goBack 3 (none : Option Jvm.ClassFile.FieldType) 3 74 0 0 [.ref (K.2.2.1 + a0)] (ix_w z d) none (ix_w z d1) := by
  refine ix_met mf_X9_goBack hKp (Nat.le_of_ble_eq_true rfl) ?_
  intro p e s m args below meth c hr hlk hnm X
  have X : ix_X p s m args c K cX9_goBack RX9 3 := X
  show ix_G p l e (ix_rm 3 74 0 0) s m args below meth c (MQ below (ix_Post K none (ix_w z d1)) args s 0 0 (ix_A K)) K 3 0 0 0 [(0, .ref (K.2.2.1 + a0))] [] (ix_w z d)
  unfold f_X9_goBack at h
  refine ix_iconst (v := 0) X (ix_tb_at tb_X9_goBack 0 rfl) (by decide) (pc1 := 1) rfl ?_
  refine ix_istore_n (i := 1) (L1 := [(1, .int 0), (0, .ref (K.2.2.1 + a0))]) X (ix_tb_at tb_X9_goBack 1 rfl) rfl (Nat.le_of_ble_eq_true rfl) rfl (pc1 := 2) rfl ?_
  refine ix_iconst (v := 1) X (ix_tb_at tb_X9_goBack 2 rfl) (by decide) (pc1 := 3) rfl ?_
  refine ix_istore_n (i := 2) (L1 := [(2, .int 1), (1, .int 0), (0, .ref (K.2.2.1 + a0))]) X (ix_tb_at tb_X9_goBack 3 rfl) rfl (Nat.le_of_ble_eq_true rfl) rfl (pc1 := 4) rfl ?_
  refine ix_sub (L1 := [(0, .ref (K.2.2.1 + a0)), (1, .int 0), (2, .int 1)]) [2, 1, 0] rfl ?_
  exact t_X9_goBack_4 hKp X hr hlk  h
def tab_X9_isThere : List (Nat × Instr × Nat) := [(0, .aload_n 0, 1), (1, .getfield 12, 3), (4, .getfield 298, 3), (7, .aload_n 0, 1), (8, .getfield 12, 3), (11, .getfield 113, 3), (14, .iload_n 1, 1), (15, .iadd, 1), (16, .iaload, 1), (17, .ldc_w 301, 3), (20, .if_icmp .ge 7, 3), (23, .iconst 1, 1), (24, .goto 4, 3), (27, .iconst 0, 1), (28, .ireturn, 1)]
theorem tb_X9_isThere : ix_tab cX9_isThere tab_X9_isThere := by
  unfold ix_tab
  decide +kernel
noncomputable def f_X9_isThere (n : Nat) (z : ix_Z) (a0 : Nat) (x1 : Int32) (d : ix_D2) : Option (Int32 × ix_D2) :=
  ix_ck (ix_ok z [8] a0) (ix_bd1 (z.1 a0 0) (fun b_2 => ix_ck (ix_ok z [1] b_2) (ix_bd1 (z.1 b_2 4) (fun b_5 => ix_ck (ix_ix z 20 b_5 ((d.1 b_2 16) + x1)) (ix_if (1000000 ≤ d.1 b_5 (ix_n ((d.1 b_2 16) + x1))) (some (0, d)) (some (1, d)))))))
set_option maxRecDepth 20000 in
theorem c_X9_isThere {l : Launch} {K : ix_Cx} (hKp : ix_Kp K) {n : Nat} {z : ix_Z} {a0 : Nat} {x1 : Int32} {d : ix_D2} {r : Int32} {d1 : ix_D2} (h : f_X9_isThere n z a0 x1 d = some (r, d1)) : ix_M l K yX9_isThere cX9_isThere 2 (some .boolean) 0 0 0 0 [.ref (K.2.2.1 + a0), .int x1] (ix_w z d) (some (.int r)) (ix_w z d1) := by
  refine ix_met mf_X9_isThere hKp (Nat.le_of_ble_eq_true rfl) ?_
  intro p e s m args below meth c hr hlk hnm X
  have X : ix_X p s m args c K cX9_isThere RX9 2 := X
  show ix_G p l e (ix_rm 0 0 0 0) s m args below meth c (MQ below (ix_Post K (some (.int r)) (ix_w z d1)) args s 0 0 (ix_A K)) K 2 0 0 0 [(0, .ref (K.2.2.1 + a0)), (1, .int x1)] [] (ix_w z d)
  unfold f_X9_isThere at h
  refine ix_aload_n (i := 0) (j := 0) X (ix_tb_at tb_X9_isThere 0 rfl) rfl rfl (pc1 := 1) rfl ?_
  obtain ⟨k_1, h⟩ := ix_ck_some h
  obtain ⟨b_2, q_3, h⟩ := ix_bd1_ex h
  refine iz_getR X fl_RX9_12 k_1 q_3 (ix_tb_at tb_X9_isThere 1 rfl) (pc1 := 4) rfl ?_
  obtain ⟨k_4, h⟩ := ix_ck_some h
  obtain ⟨b_5, q_6, h⟩ := ix_bd1_ex h
  refine iz_getR X fl_RX9_298 k_4 q_6 (ix_tb_at tb_X9_isThere 2 rfl) (pc1 := 7) rfl ?_
  refine ix_aload_n (i := 0) (j := 0) X (ix_tb_at tb_X9_isThere 3 rfl) rfl rfl (pc1 := 8) rfl ?_
  refine iz_getR X fl_RX9_12 k_1 q_3 (ix_tb_at tb_X9_isThere 4 rfl) (pc1 := 11) rfl ?_
  refine iz_getI X fl_RX9_113 k_4 (ix_tb_at tb_X9_isThere 5 rfl) (pc1 := 14) rfl ?_
  refine ix_iload_n (i := 1) (j := 1) X (ix_tb_at tb_X9_isThere 6 rfl) rfl rfl (pc1 := 15) rfl ?_
  refine ix_iadd X (ix_tb_at tb_X9_isThere 7 rfl) (pc1 := 16) rfl ?_
  obtain ⟨k_7, h⟩ := ix_ck_some h
  refine iz_iald X k_7 (ix_tb_at tb_X9_isThere 8 rfl) (pc1 := 17) rfl ?_
  refine ix_ldcw (pl := 1299) (v := 1000000) X (ix_tb_at tb_X9_isThere 9 rfl) (by decide +kernel) (pc1 := 20) rfl ?_
  refine ix_icmp_ge (tgt := 27) X (ix_tb_at tb_X9_isThere 10 rfl) (by decide) (pc1 := 23) rfl (fun q_8 => ?_) (fun q_8 => ?_)
  · have h := ix_ift q_8 h
    refine ix_iconst (v := 0) X (ix_tb_at tb_X9_isThere 13 rfl) (by decide) (pc1 := 28) rfl ?_
    exact ix_zret X hr hlk (by decide) (ix_r2 (f := fun r => some (.int r)) (g := ix_w z) h) (ix_tb_at tb_X9_isThere 14 rfl)
  · have h := ix_iff q_8 h
    refine ix_iconst (v := 1) X (ix_tb_at tb_X9_isThere 11 rfl) (by decide) (pc1 := 24) rfl ?_
    refine ix_goto (tgt := 28) X (ix_tb_at tb_X9_isThere 12 rfl) (by decide) ?_
    exact ix_zret X hr hlk (by decide) (ix_r2 (f := fun r => some (.int r)) (g := ix_w z) h) (ix_tb_at tb_X9_isThere 14 rfl)
def tab_X9_queueByUse : List (Nat × Instr × Nat) := [(0, .aload_n 0, 1), (1, .getfield 222, 3), (4, .istore_n 2, 1), (5, .iload_n 2, 1), (6, .ifCond .le 45, 3), (9, .aload_n 0, 1), (10, .getfield 35, 3), (13, .aload_n 0, 1), (14, .getfield 59, 3), (17, .iload_n 2, 1), (18, .iconst 1, 1), (19, .isub, 1), (20, .iaload, 1), (21, .iaload, 1), (22, .aload_n 0, 1), (23, .getfield 35, 3), (26, .iload_n 1, 1), (27, .iaload, 1), (28, .if_icmp .le 23, 3), (31, .aload_n 0, 1), (32, .getfield 59, 3), (35, .iload_n 2, 1), (36, .aload_n 0, 1), (37, .getfield 59, 3), (40, .iload_n 2, 1), (41, .iconst 1, 1), (42, .isub, 1), (43, .iaload, 1), (44, .iastore, 1), (45, .iinc 2 (-1), 3), (48, .goto (-43), 3), (51, .aload_n 0, 1), (52, .getfield 59, 3), (55, .iload_n 2, 1), (56, .iload_n 1, 1), (57, .iastore, 1), (58, .aload_n 0, 1), (59, .dup, 1), (60, .getfield 222, 3), (63, .iconst 1, 1), (64, .iadd, 1), (65, .putfield 222, 3), (68, .return_, 1)]
theorem tb_X9_queueByUse : ix_tab cX9_queueByUse tab_X9_queueByUse := by
  unfold ix_tab
  decide +kernel
noncomputable def f_X9_queueByUse_51 (n : Nat) (z : ix_Z)  (a0 : Nat) (x1 : Int32) (x2 : Int32) (d : ix_D2) : Option (ix_D2) :=
  ix_ck (ix_ok z [8] a0) (ix_bd1 (z.1 a0 15) (fun b_6 => ix_ck (ix_ix z 20 b_6 x2) (ix_lt (ix_di d b_6 (ix_n x2) x1) (fun d_9 => ix_lt (ix_di d_9 a0 16 ((d_9.1 a0 16) + 1)) (fun d_11 => some d_11)))))
noncomputable def b_X9_queueByUse_5 (n : Nat) (z : ix_Z)  (a0 : Nat) (x1 : Int32) (rec5 : Int32 → ix_D2 → Option (ix_D2)) (x2 : Int32) (d : ix_D2) : Option (ix_D2) :=
  ix_if (x2 ≤ 0) (f_X9_queueByUse_51 n z  a0 x1 x2 d) (ix_ck (ix_ok z [8] a0) (ix_bd1 (z.1 a0 6) (fun b_14 => ix_bd1 (z.1 a0 15) (fun b_16 => ix_ck (ix_ix z 20 b_16 (x2 - 1)) (ix_ck (ix_ix z 20 b_14 (d.1 b_16 (ix_n (x2 - 1)))) (ix_ck (ix_ix z 20 b_14 x1) (ix_if (d.1 b_14 (ix_n (d.1 b_16 (ix_n (x2 - 1)))) ≤ d.1 b_14 (ix_n x1)) (f_X9_queueByUse_51 n z  a0 x1 x2 d) (ix_ck (ix_ix z 20 b_16 x2) (ix_lt (ix_di d b_16 (ix_n x2) (d.1 b_16 (ix_n (x2 - 1)))) (fun d_23 => ix_lt (x2 + (-1)) (fun x2_25 => rec5 x2_25 d_23)))))))))))
noncomputable def f_X9_queueByUse_5 (n : Nat) (z : ix_Z)  (a0 : Nat) (x1 : Int32) (x2 : Int32) (d : ix_D2) : Option (ix_D2) := ix_fix (b_X9_queueByUse_5 n z  a0 x1) (fun _ _ => none) n x2 d
noncomputable def f_X9_queueByUse (n : Nat) (z : ix_Z) (a0 : Nat) (x1 : Int32) (d : ix_D2) : Option (ix_D2) :=
  ix_ck (ix_ok z [8] a0) (ix_lt (d.1 a0 16) (fun x2_2 => f_X9_queueByUse_5 n z  a0 x1 x2_2 d))
set_option maxRecDepth 20000 in
theorem t_X9_queueByUse_51 {l : Launch} {p : Program} {e : Env} {s : State} {m : MethodId} {args : Array Value} {below : List Frame} {meth : Method} {c : Code} {K : ix_Cx} (hKp : ix_Kp K) {n : Nat} {z : ix_Z} (X : ix_X p s m args c K cX9_queueByUse RX9 3) (hr : meth.sig.returnType = (none : Option Jvm.ClassFile.FieldType)) (hlk : meth.locks = false)  {a0 : Nat} {x1 : Int32} {x2 : Int32} {d1 : ix_D2}  {d : ix_D2} (h : f_X9_queueByUse_51 n z  a0 x1 x2 d = some d1) : ix_G p l e (ix_rm 0 0 0 0) s m args below meth c (MQ below (ix_Post K none (ix_w z d1)) args s 0 0 (ix_A K)) K 3 0 0 51 [(0, .ref (K.2.2.1 + a0)), (1, .int x1), (2, .int x2)] [] (ix_w z d) := by
  unfold f_X9_queueByUse_51 at h
  refine ix_aload_n (i := 0) (j := 0) X (ix_tb_at tb_X9_queueByUse 31 rfl) rfl rfl (pc1 := 52) rfl ?_
  obtain ⟨k_5, h⟩ := ix_ck_some h
  obtain ⟨b_6, q_7, h⟩ := ix_bd1_ex h
  refine iz_getR X fl_RX9_59 k_5 q_7 (ix_tb_at tb_X9_queueByUse 32 rfl) (pc1 := 55) rfl ?_
  refine ix_iload_n (i := 2) (j := 2) X (ix_tb_at tb_X9_queueByUse 33 rfl) rfl rfl (pc1 := 56) rfl ?_
  refine ix_iload_n (i := 1) (j := 1) X (ix_tb_at tb_X9_queueByUse 34 rfl) rfl rfl (pc1 := 57) rfl ?_
  obtain ⟨k_8, h⟩ := ix_ck_some h
  obtain ⟨d_9, e_10, h⟩ := ix_lt_ex h
  refine iz_iast X k_8 (ix_tb_at tb_X9_queueByUse 35 rfl) e_10 (pc1 := 58) rfl ?_
  refine ix_aload_n (i := 0) (j := 0) X (ix_tb_at tb_X9_queueByUse 36 rfl) rfl rfl (pc1 := 59) rfl ?_
  refine ix_dup X (ix_tb_at tb_X9_queueByUse 37 rfl) rfl (pc1 := 60) rfl ?_
  refine iz_getI X fl_RX9_222 k_5 (ix_tb_at tb_X9_queueByUse 38 rfl) (pc1 := 63) rfl ?_
  refine ix_iconst (v := 1) X (ix_tb_at tb_X9_queueByUse 39 rfl) (by decide) (pc1 := 64) rfl ?_
  refine ix_iadd X (ix_tb_at tb_X9_queueByUse 40 rfl) (pc1 := 65) rfl ?_
  obtain ⟨d_11, e_12, h⟩ := ix_lt_ex h
  refine iz_putI X fp_RX9_222 k_5 (ix_tb_at tb_X9_queueByUse 41 rfl) e_12 (pc1 := 68) rfl ?_
  exact ix_vret X hr hlk (ix_r1 (g := ix_w z) h) (ix_tb_at tb_X9_queueByUse 42 rfl)
set_option maxRecDepth 20000 in
theorem tb_X9_queueByUse_5 {l : Launch} {p : Program} {e : Env} {s : State} {m : MethodId} {args : Array Value} {below : List Frame} {meth : Method} {c : Code} {K : ix_Cx} (hKp : ix_Kp K) {n : Nat} {z : ix_Z} (X : ix_X p s m args c K cX9_queueByUse RX9 3) (hr : meth.sig.returnType = (none : Option Jvm.ClassFile.FieldType)) (hlk : meth.locks = false)  {a0 : Nat} {x1 : Int32} {rec5 : Int32 → ix_D2 → Option (ix_D2)} {d1 : ix_D2} (hrec5 : ∀ (x2 : Int32) (d : ix_D2), rec5 x2 d = some d1 → ix_G p l e (ix_rm 0 0 0 0) s m args below meth c (MQ below (ix_Post K none (ix_w z d1)) args s 0 0 (ix_A K)) K 3 0 0 5 [(0, .ref (K.2.2.1 + a0)), (1, .int x1), (2, .int x2)] [] (ix_w z d)) {x2 : Int32} {d : ix_D2} (h : b_X9_queueByUse_5 n z  a0 x1 rec5 x2 d = some d1) : ix_G p l e (ix_rm 0 0 0 0) s m args below meth c (MQ below (ix_Post K none (ix_w z d1)) args s 0 0 (ix_A K)) K 3 0 0 5 [(0, .ref (K.2.2.1 + a0)), (1, .int x1), (2, .int x2)] [] (ix_w z d) := by
  unfold b_X9_queueByUse_5 at h
  refine ix_iload_n (i := 2) (j := 2) X (ix_tb_at tb_X9_queueByUse 3 rfl) rfl rfl (pc1 := 6) rfl ?_
  refine ix_if_le (tgt := 51) X (ix_tb_at tb_X9_queueByUse 4 rfl) (by decide) (pc1 := 9) rfl (fun q_4 => ?_) (fun q_4 => ?_)
  · have h := ix_ift q_4 h
    refine ix_sub (L1 := [(0, .ref (K.2.2.1 + a0)), (1, .int x1), (2, .int x2)]) [0, 1, 2] rfl ?_
    exact t_X9_queueByUse_51 hKp X hr hlk  h
  · have h := ix_iff q_4 h
    refine ix_aload_n (i := 0) (j := 0) X (ix_tb_at tb_X9_queueByUse 5 rfl) rfl rfl (pc1 := 10) rfl ?_
    obtain ⟨k_13, h⟩ := ix_ck_some h
    obtain ⟨b_14, q_15, h⟩ := ix_bd1_ex h
    refine iz_getR X fl_RX9_35 k_13 q_15 (ix_tb_at tb_X9_queueByUse 6 rfl) (pc1 := 13) rfl ?_
    refine ix_aload_n (i := 0) (j := 0) X (ix_tb_at tb_X9_queueByUse 7 rfl) rfl rfl (pc1 := 14) rfl ?_
    obtain ⟨b_16, q_17, h⟩ := ix_bd1_ex h
    refine iz_getR X fl_RX9_59 k_13 q_17 (ix_tb_at tb_X9_queueByUse 8 rfl) (pc1 := 17) rfl ?_
    refine ix_iload_n (i := 2) (j := 2) X (ix_tb_at tb_X9_queueByUse 9 rfl) rfl rfl (pc1 := 18) rfl ?_
    refine ix_iconst (v := 1) X (ix_tb_at tb_X9_queueByUse 10 rfl) (by decide) (pc1 := 19) rfl ?_
    refine ix_isub X (ix_tb_at tb_X9_queueByUse 11 rfl) (pc1 := 20) rfl ?_
    obtain ⟨k_18, h⟩ := ix_ck_some h
    refine iz_iald X k_18 (ix_tb_at tb_X9_queueByUse 12 rfl) (pc1 := 21) rfl ?_
    obtain ⟨k_19, h⟩ := ix_ck_some h
    refine iz_iald X k_19 (ix_tb_at tb_X9_queueByUse 13 rfl) (pc1 := 22) rfl ?_
    refine ix_aload_n (i := 0) (j := 0) X (ix_tb_at tb_X9_queueByUse 14 rfl) rfl rfl (pc1 := 23) rfl ?_
    refine iz_getR X fl_RX9_35 k_13 q_15 (ix_tb_at tb_X9_queueByUse 15 rfl) (pc1 := 26) rfl ?_
    refine ix_iload_n (i := 1) (j := 1) X (ix_tb_at tb_X9_queueByUse 16 rfl) rfl rfl (pc1 := 27) rfl ?_
    obtain ⟨k_20, h⟩ := ix_ck_some h
    refine iz_iald X k_20 (ix_tb_at tb_X9_queueByUse 17 rfl) (pc1 := 28) rfl ?_
    refine ix_icmp_le (tgt := 51) X (ix_tb_at tb_X9_queueByUse 18 rfl) (by decide) (pc1 := 31) rfl (fun q_21 => ?_) (fun q_21 => ?_)
    · have h := ix_ift q_21 h
      refine ix_sub (L1 := [(0, .ref (K.2.2.1 + a0)), (1, .int x1), (2, .int x2)]) [0, 1, 2] rfl ?_
      exact t_X9_queueByUse_51 hKp X hr hlk  h
    · have h := ix_iff q_21 h
      refine ix_aload_n (i := 0) (j := 0) X (ix_tb_at tb_X9_queueByUse 19 rfl) rfl rfl (pc1 := 32) rfl ?_
      refine iz_getR X fl_RX9_59 k_13 q_17 (ix_tb_at tb_X9_queueByUse 20 rfl) (pc1 := 35) rfl ?_
      refine ix_iload_n (i := 2) (j := 2) X (ix_tb_at tb_X9_queueByUse 21 rfl) rfl rfl (pc1 := 36) rfl ?_
      refine ix_aload_n (i := 0) (j := 0) X (ix_tb_at tb_X9_queueByUse 22 rfl) rfl rfl (pc1 := 37) rfl ?_
      refine iz_getR X fl_RX9_59 k_13 q_17 (ix_tb_at tb_X9_queueByUse 23 rfl) (pc1 := 40) rfl ?_
      refine ix_iload_n (i := 2) (j := 2) X (ix_tb_at tb_X9_queueByUse 24 rfl) rfl rfl (pc1 := 41) rfl ?_
      refine ix_iconst (v := 1) X (ix_tb_at tb_X9_queueByUse 25 rfl) (by decide) (pc1 := 42) rfl ?_
      refine ix_isub X (ix_tb_at tb_X9_queueByUse 26 rfl) (pc1 := 43) rfl ?_
      refine iz_iald X k_18 (ix_tb_at tb_X9_queueByUse 27 rfl) (pc1 := 44) rfl ?_
      obtain ⟨k_22, h⟩ := ix_ck_some h
      obtain ⟨d_23, e_24, h⟩ := ix_lt_ex h
      refine iz_iast X k_22 (ix_tb_at tb_X9_queueByUse 28 rfl) e_24 (pc1 := 45) rfl ?_
      obtain ⟨x2_25, e_26, h⟩ := ix_lt_ex h
      refine ix_iinc (i := 2) (j := 2) (v := x2_25) (L1 := [(2, .int x2_25), (0, .ref (K.2.2.1 + a0)), (1, .int x1)]) X (ix_tb_at tb_X9_queueByUse 29 rfl) rfl (by rw [oi_m1]; exact e_26.symm) (Nat.le_of_ble_eq_true rfl) rfl (pc1 := 48) rfl ?_
      refine ix_goto (tgt := 5) X (ix_tb_at tb_X9_queueByUse 30 rfl) (by decide) ?_
      refine ix_sub (L1 := [(0, .ref (K.2.2.1 + a0)), (1, .int x1), (2, .int x2_25)]) [1, 2, 0] rfl ?_
      exact hrec5 x2_25 d_23 h
theorem t_X9_queueByUse_5 {l : Launch} {p : Program} {e : Env} {s : State} {m : MethodId} {args : Array Value} {below : List Frame} {meth : Method} {c : Code} {K : ix_Cx} (hKp : ix_Kp K) {n : Nat} {z : ix_Z} (X : ix_X p s m args c K cX9_queueByUse RX9 3) (hr : meth.sig.returnType = (none : Option Jvm.ClassFile.FieldType)) (hlk : meth.locks = false)  {a0 : Nat} {x1 : Int32} {d1 : ix_D2}  {x2 : Int32} {d : ix_D2} (h : f_X9_queueByUse_5 n z  a0 x1 x2 d = some d1) : ix_G p l e (ix_rm 0 0 0 0) s m args below meth c (MQ below (ix_Post K none (ix_w z d1)) args s 0 0 (ix_A K)) K 3 0 0 5 [(0, .ref (K.2.2.1 + a0)), (1, .int x1), (2, .int x2)] [] (ix_w z d) := by
  have key : ∀ (f : Nat) (x2 : Int32) (d : ix_D2), ix_fix (b_X9_queueByUse_5 n z  a0 x1) (fun _ _ => none) f x2 d = some d1 → ix_G p l e (ix_rm 0 0 0 0) s m args below meth c (MQ below (ix_Post K none (ix_w z d1)) args s 0 0 (ix_A K)) K 3 0 0 5 [(0, .ref (K.2.2.1 + a0)), (1, .int x1), (2, .int x2)] [] (ix_w z d) := by
    intro f
    induction f with
    | zero =>
      intro x2 d h
      have h : (none : Option (ix_D2)) = some d1 := h
      cases h
    | succ f ih =>
      intro x2 d h
      exact tb_X9_queueByUse_5 hKp X hr hlk (rec5 := ix_fix (b_X9_queueByUse_5 n z  a0 x1) (fun _ _ => none) f)  ih h
  exact key n x2 d h
set_option maxRecDepth 20000 in
theorem c_X9_queueByUse {l : Launch} {K : ix_Cx} (hKp : ix_Kp K) {n : Nat} {z : ix_Z} {a0 : Nat} {x1 : Int32} {d : ix_D2} {d1 : ix_D2} (h : f_X9_queueByUse n z a0 x1 d = some d1) : ix_M l K yX9_queueByUse cX9_queueByUse 3 (none : Option Jvm.ClassFile.FieldType) 0 0 0 0 [.ref (K.2.2.1 + a0), .int x1] (ix_w z d) none (ix_w z d1) := by
  refine ix_met mf_X9_queueByUse hKp (Nat.le_of_ble_eq_true rfl) ?_
  intro p e s m args below meth c hr hlk hnm X
  have X : ix_X p s m args c K cX9_queueByUse RX9 3 := X
  show ix_G p l e (ix_rm 0 0 0 0) s m args below meth c (MQ below (ix_Post K none (ix_w z d1)) args s 0 0 (ix_A K)) K 3 0 0 0 [(0, .ref (K.2.2.1 + a0)), (1, .int x1)] [] (ix_w z d)
  unfold f_X9_queueByUse at h
  refine ix_aload_n (i := 0) (j := 0) X (ix_tb_at tb_X9_queueByUse 0 rfl) rfl rfl (pc1 := 1) rfl ?_
  obtain ⟨k_1, h⟩ := ix_ck_some h
  refine iz_getI X fl_RX9_222 k_1 (ix_tb_at tb_X9_queueByUse 1 rfl) (pc1 := 4) rfl ?_
  obtain ⟨x2_2, e_3, h⟩ := ix_lt_ex h
  refine ix_nmi e_3 ?_
  refine ix_istore_n (i := 2) (L1 := [(2, .int x2_2), (0, .ref (K.2.2.1 + a0)), (1, .int x1)]) X (ix_tb_at tb_X9_queueByUse 2 rfl) rfl (Nat.le_of_ble_eq_true rfl) rfl (pc1 := 5) rfl ?_
  refine ix_sub (L1 := [(0, .ref (K.2.2.1 + a0)), (1, .int x1), (2, .int x2_2)]) [1, 2, 0] rfl ?_
  exact t_X9_queueByUse_5 hKp X hr hlk  h
def tab_X9_forgetSome : List (Nat × Instr × Nat) := [(0, .aload_n 0, 1), (1, .getfield 96, 3), (4, .ifCond .eq 17, 3), (7, .aload_n 0, 1), (8, .getfield 47, 3), (11, .bipush 7, 2), (13, .iaload, 1), (14, .aload_n 0, 1), (15, .getfield 96, 3), (18, .if_icmp .gt 4, 3), (21, .return_, 1), (22, .aload_n 0, 1), (23, .iconst 0, 1), (24, .putfield 222, 3), (27, .iconst 0, 1), (28, .istore_n 1, 1), (29, .iload_n 1, 1), (30, .aload_n 0, 1), (31, .getfield 47, 3), (34, .bipush 8, 2), (36, .iaload, 1), (37, .if_icmp .ge 58, 3), (40, .aload_n 0, 1), (41, .getfield 12, 3), (44, .getfield 113, 3), (47, .iload_n 1, 1), (48, .iadd, 1), (49, .istore_n 2, 1), (50, .aload_n 0, 1), (51, .iload_n 1, 1), (52, .invokevirtual 283, 3), (55, .ifCond .eq 34, 3), (58, .aload_n 0, 1), (59, .getfield 12, 3), (62, .getfield 107, 3), (65, .iload_n 2, 1), (66, .invokevirtual 286, 3), (69, .iconst 2, 1), (70, .if_icmp .le 19, 3), (73, .aload_n 0, 1), (74, .getfield 12, 3), (77, .iload_n 2, 1), (78, .invokevirtual 289, 3), (81, .ifCond .ne 8, 3), (84, .aload_n 0, 1), (85, .iload_n 1, 1), (86, .invokevirtual 292, 3), (89, .iinc 1 1, 3), (92, .goto (-63), 3), (95, .iconst 0, 1), (96, .istore_n 1, 1), (97, .iload_n 1, 1), (98, .aload_n 0, 1), (99, .getfield 222, 3), (102, .iconst 2, 1), (103, .idiv, 1), (104, .if_icmp .ge 30, 3), (107, .aload_n 0, 1), (108, .getfield 12, 3), (111, .aload_n 0, 1), (112, .getfield 12, 3), (115, .getfield 113, 3), (118, .aload_n 0, 1), (119, .getfield 59, 3), (122, .iload_n 1, 1), (123, .iaload, 1), (124, .iadd, 1), (125, .invokevirtual 295, 3), (128, .iinc 1 1, 3), (131, .goto (-34), 3), (134, .aload_n 0, 1), (135, .getfield 47, 3), (138, .bipush 6, 2), (140, .dup2, 1), (141, .iaload, 1), (142, .aload_n 0, 1), (143, .getfield 222, 3), (146, .iconst 2, 1), (147, .idiv, 1), (148, .iadd, 1), (149, .iastore, 1), (150, .aload_n 0, 1), (151, .getfield 47, 3), (154, .bipush 7, 2), (156, .dup2, 1), (157, .iaload, 1), (158, .aload_n 0, 1), (159, .getfield 222, 3), (162, .iconst 2, 1), (163, .idiv, 1), (164, .isub, 1), (165, .iastore, 1), (166, .iconst 0, 1), (167, .istore_n 1, 1), (168, .iload_n 1, 1), (169, .aload_n 0, 1), (170, .getfield 47, 3), (173, .bipush 8, 2), (175, .iaload, 1), (176, .if_icmp .ge 19, 3), (179, .aload_n 0, 1), (180, .getfield 35, 3), (183, .iload_n 1, 1), (184, .dup2, 1), (185, .iaload, 1), (186, .iconst 2, 1), (187, .idiv, 1), (188, .iastore, 1), (189, .iinc 1 1, 3), (192, .goto (-24), 3), (195, .return_, 1)]
theorem tb_X9_forgetSome : ix_tab cX9_forgetSome tab_X9_forgetSome := by
  unfold ix_tab
  decide +kernel
noncomputable def b_X9_forgetSome_168 (n : Nat) (z : ix_Z)  (a0 : Nat) (rec168 : Int32 → ix_D2 → Option (ix_D2)) (x1 : Int32) (d : ix_D2) : Option (ix_D2) :=
  ix_ck (ix_ok z [8] a0) (ix_bd1 (z.1 a0 10) (fun b_25 => ix_ck (ix_ix z 20 b_25 8) (ix_if (d.1 b_25 (ix_n 8) ≤ x1) (some d) (ix_bd1 (z.1 a0 6) (fun b_29 => ix_ck (ix_ix z 20 b_29 x1) (ix_lt (ix_di d b_29 (ix_n x1) ((d.1 b_29 (ix_n x1)) / 2)) (fun d_32 => ix_lt (x1 + 1) (fun x1_34 => rec168 x1_34 d_32))))))))
noncomputable def f_X9_forgetSome_168 (n : Nat) (z : ix_Z)  (a0 : Nat) (x1 : Int32) (d : ix_D2) : Option (ix_D2) := ix_fix (b_X9_forgetSome_168 n z  a0) (fun _ _ => none) n x1 d
noncomputable def b_X9_forgetSome_97 (n : Nat) (z : ix_Z)  (a0 : Nat) (rec97 : Int32 → ix_D2 → Option (ix_D2)) (x1 : Int32) (d : ix_D2) : Option (ix_D2) :=
  ix_ck (ix_ok z [8] a0) (ix_if ((d.1 a0 16) / 2 ≤ x1) (ix_bd1 (z.1 a0 10) (fun b_16 => ix_ck (ix_ix z 20 b_16 6) (ix_lt (ix_di d b_16 (ix_n 6) ((d.1 b_16 (ix_n 6)) + ((d.1 a0 16) / 2))) (fun d_19 => ix_ck (ix_ix z 20 b_16 7) (ix_lt (ix_di d_19 b_16 (ix_n 7) ((d_19.1 b_16 (ix_n 7)) - ((d_19.1 a0 16) / 2))) (fun d_22 => f_X9_forgetSome_168 n z  a0 0 d_22)))))) (ix_bd1 (z.1 a0 0) (fun b_36 => ix_ck (ix_ok z [1] b_36) (ix_bd1 (z.1 a0 15) (fun b_39 => ix_ck (ix_ix z 20 b_39 x1) (ix_bd1 (f_X1_bury n z b_36 ((d.1 b_36 16) + (d.1 b_39 (ix_n x1))) d) (fun d_42 => ix_lt (x1 + 1) (fun x1_44 => rec97 x1_44 d_42))))))))
noncomputable def f_X9_forgetSome_97 (n : Nat) (z : ix_Z)  (a0 : Nat) (x1 : Int32) (d : ix_D2) : Option (ix_D2) := ix_fix (b_X9_forgetSome_97 n z  a0) (fun _ _ => none) n x1 d
noncomputable def f_X9_forgetSome_89 (n : Nat) (z : ix_Z) (rec29 : Int32 → ix_D2 → Option (ix_D2)) (a0 : Nat) (x1 : Int32) (d : ix_D2) : Option (ix_D2) :=
  ix_lt (x1 + 1) (fun x1_55 => rec29 x1_55 d)
noncomputable def b_X9_forgetSome_29 (n : Nat) (z : ix_Z)  (a0 : Nat) (rec29 : Int32 → ix_D2 → Option (ix_D2)) (x1 : Int32) (d : ix_D2) : Option (ix_D2) :=
  ix_ck (ix_ok z [8] a0) (ix_bd1 (z.1 a0 10) (fun b_10 => ix_ck (ix_ix z 20 b_10 8) (ix_if (d.1 b_10 (ix_n 8) ≤ x1) (f_X9_forgetSome_97 n z  a0 0 d) (ix_bd1 (z.1 a0 0) (fun b_46 => ix_ck (ix_ok z [1] b_46) (ix_lt ((d.1 b_46 16) + x1) (fun x2_49 => ix_bd2 (f_X9_isThere n z a0 x1 d) (fun r_53 d_51 => ix_if (r_53 = 0) (f_X9_forgetSome_89 n z rec29 a0 x1 d_51) (ix_bd1 (z.1 b_46 0) (fun b_57 => ix_ck (ix_ok z [7] b_57) (ix_bd2 (f_X7_size n z b_57 x2_49 d_51) (fun r_62 d_59 => ix_if (r_62 ≤ 2) (f_X9_forgetSome_89 n z rec29 a0 x1 d_59) (ix_bd2 (f_X1_isReason n z b_46 x2_49 d_59) (fun r_66 d_64 => ix_if (r_66 = 0) (ix_bd1 (f_X9_queueByUse n z a0 x1 d_64) (fun d_68 => f_X9_forgetSome_89 n z rec29 a0 x1 d_68)) (f_X9_forgetSome_89 n z rec29 a0 x1 d_64)))))))))))))))
noncomputable def f_X9_forgetSome_29 (n : Nat) (z : ix_Z)  (a0 : Nat) (x1 : Int32) (d : ix_D2) : Option (ix_D2) := ix_fix (b_X9_forgetSome_29 n z  a0) (fun _ _ => none) n x1 d
noncomputable def f_X9_forgetSome (n : Nat) (z : ix_Z) (a0 : Nat) (d : ix_D2) : Option (ix_D2) :=
  ix_ck (ix_ok z [8] a0) (ix_if (d.1 a0 18 = 0) (some d) (ix_bd1 (z.1 a0 10) (fun b_3 => ix_ck (ix_ix z 20 b_3 7) (ix_if (d.1 a0 18 < d.1 b_3 (ix_n 7)) (ix_lt (ix_di d a0 16 0) (fun d_7 => f_X9_forgetSome_29 n z  a0 0 d_7)) (some d)))))
set_option maxRecDepth 20000 in
theorem tb_X9_forgetSome_168 {l : Launch} {p : Program} {e : Env} {s : State} {m : MethodId} {args : Array Value} {below : List Frame} {meth : Method} {c : Code} {K : ix_Cx} (hKp : ix_Kp K) {n : Nat} {z : ix_Z} (X : ix_X p s m args c K cX9_forgetSome RX9 3) (hr : meth.sig.returnType = (none : Option Jvm.ClassFile.FieldType)) (hlk : meth.locks = false)  {a0 : Nat} {rec168 : Int32 → ix_D2 → Option (ix_D2)} {d1 : ix_D2} (hrec168 : ∀ (x1 : Int32) (d : ix_D2), rec168 x1 d = some d1 → ix_G p l e (ix_rm 3 65 0 0) s m args below meth c (MQ below (ix_Post K none (ix_w z d1)) args s 0 0 (ix_A K)) K 3 0 0 168 [(0, .ref (K.2.2.1 + a0)), (1, .int x1)] [] (ix_w z d)) {x1 : Int32} {d : ix_D2} (h : b_X9_forgetSome_168 n z  a0 rec168 x1 d = some d1) : ix_G p l e (ix_rm 3 65 0 0) s m args below meth c (MQ below (ix_Post K none (ix_w z d1)) args s 0 0 (ix_A K)) K 3 0 0 168 [(0, .ref (K.2.2.1 + a0)), (1, .int x1)] [] (ix_w z d) := by
  unfold b_X9_forgetSome_168 at h
  refine ix_iload_n (i := 1) (j := 1) X (ix_tb_at tb_X9_forgetSome 94 rfl) rfl rfl (pc1 := 169) rfl ?_
  refine ix_aload_n (i := 0) (j := 0) X (ix_tb_at tb_X9_forgetSome 95 rfl) rfl rfl (pc1 := 170) rfl ?_
  obtain ⟨k_24, h⟩ := ix_ck_some h
  obtain ⟨b_25, q_26, h⟩ := ix_bd1_ex h
  refine iz_getR X fl_RX9_47 k_24 q_26 (ix_tb_at tb_X9_forgetSome 96 rfl) (pc1 := 173) rfl ?_
  refine ix_bipush (v := 8) X (ix_tb_at tb_X9_forgetSome 97 rfl) (by decide) (pc1 := 175) rfl ?_
  obtain ⟨k_27, h⟩ := ix_ck_some h
  refine iz_iald X k_27 (ix_tb_at tb_X9_forgetSome 98 rfl) (pc1 := 176) rfl ?_
  refine ix_icmp_ge (tgt := 195) X (ix_tb_at tb_X9_forgetSome 99 rfl) (by decide) (pc1 := 179) rfl (fun q_28 => ?_) (fun q_28 => ?_)
  · have h := ix_ift q_28 h
    exact ix_vret X hr hlk (ix_r1 (g := ix_w z) h) (ix_tb_at tb_X9_forgetSome 110 rfl)
  · have h := ix_iff q_28 h
    refine ix_aload_n (i := 0) (j := 0) X (ix_tb_at tb_X9_forgetSome 100 rfl) rfl rfl (pc1 := 180) rfl ?_
    obtain ⟨b_29, q_30, h⟩ := ix_bd1_ex h
    refine iz_getR X fl_RX9_35 k_24 q_30 (ix_tb_at tb_X9_forgetSome 101 rfl) (pc1 := 183) rfl ?_
    refine ix_iload_n (i := 1) (j := 1) X (ix_tb_at tb_X9_forgetSome 102 rfl) rfl rfl (pc1 := 184) rfl ?_
    refine ix_dup2 X (ix_tb_at tb_X9_forgetSome 103 rfl) rfl rfl (pc1 := 185) rfl ?_
    obtain ⟨k_31, h⟩ := ix_ck_some h
    refine iz_iald X k_31 (ix_tb_at tb_X9_forgetSome 104 rfl) (pc1 := 186) rfl ?_
    refine ix_iconst (v := 2) X (ix_tb_at tb_X9_forgetSome 105 rfl) (by decide) (pc1 := 187) rfl ?_
    refine ix_idiv X (ix_tb_at tb_X9_forgetSome 106 rfl) (by decide) (pc1 := 188) rfl ?_
    obtain ⟨d_32, e_33, h⟩ := ix_lt_ex h
    refine iz_iast X k_31 (ix_tb_at tb_X9_forgetSome 107 rfl) e_33 (pc1 := 189) rfl ?_
    obtain ⟨x1_34, e_35, h⟩ := ix_lt_ex h
    refine ix_iinc (i := 1) (j := 1) (v := x1_34) (L1 := [(1, .int x1_34), (0, .ref (K.2.2.1 + a0))]) X (ix_tb_at tb_X9_forgetSome 108 rfl) rfl (by rw [oi_1]; exact e_35.symm) (Nat.le_of_ble_eq_true rfl) rfl (pc1 := 192) rfl ?_
    refine ix_goto (tgt := 168) X (ix_tb_at tb_X9_forgetSome 109 rfl) (by decide) ?_
    refine ix_sub (L1 := [(0, .ref (K.2.2.1 + a0)), (1, .int x1_34)]) [1, 0] rfl ?_
    exact hrec168 x1_34 d_32 h
theorem t_X9_forgetSome_168 {l : Launch} {p : Program} {e : Env} {s : State} {m : MethodId} {args : Array Value} {below : List Frame} {meth : Method} {c : Code} {K : ix_Cx} (hKp : ix_Kp K) {n : Nat} {z : ix_Z} (X : ix_X p s m args c K cX9_forgetSome RX9 3) (hr : meth.sig.returnType = (none : Option Jvm.ClassFile.FieldType)) (hlk : meth.locks = false)  {a0 : Nat} {d1 : ix_D2}  {x1 : Int32} {d : ix_D2} (h : f_X9_forgetSome_168 n z  a0 x1 d = some d1) : ix_G p l e (ix_rm 3 65 0 0) s m args below meth c (MQ below (ix_Post K none (ix_w z d1)) args s 0 0 (ix_A K)) K 3 0 0 168 [(0, .ref (K.2.2.1 + a0)), (1, .int x1)] [] (ix_w z d) := by
  have key : ∀ (f : Nat) (x1 : Int32) (d : ix_D2), ix_fix (b_X9_forgetSome_168 n z  a0) (fun _ _ => none) f x1 d = some d1 → ix_G p l e (ix_rm 3 65 0 0) s m args below meth c (MQ below (ix_Post K none (ix_w z d1)) args s 0 0 (ix_A K)) K 3 0 0 168 [(0, .ref (K.2.2.1 + a0)), (1, .int x1)] [] (ix_w z d) := by
    intro f
    induction f with
    | zero =>
      intro x1 d h
      have h : (none : Option (ix_D2)) = some d1 := h
      cases h
    | succ f ih =>
      intro x1 d h
      exact tb_X9_forgetSome_168 hKp X hr hlk (rec168 := ix_fix (b_X9_forgetSome_168 n z  a0) (fun _ _ => none) f)  ih h
  exact key n x1 d h
set_option maxRecDepth 20000 in
theorem tb_X9_forgetSome_97 {l : Launch} {p : Program} {e : Env} {s : State} {m : MethodId} {args : Array Value} {below : List Frame} {meth : Method} {c : Code} {K : ix_Cx} (hKp : ix_Kp K) {n : Nat} {z : ix_Z} (X : ix_X p s m args c K cX9_forgetSome RX9 3) (hr : meth.sig.returnType = (none : Option Jvm.ClassFile.FieldType)) (hlk : meth.locks = false)  {a0 : Nat} {rec97 : Int32 → ix_D2 → Option (ix_D2)} {d1 : ix_D2} (hrec97 : ∀ (x1 : Int32) (d : ix_D2), rec97 x1 d = some d1 → ix_G p l e (ix_rm 3 65 0 0) s m args below meth c (MQ below (ix_Post K none (ix_w z d1)) args s 0 0 (ix_A K)) K 3 0 0 97 [(0, .ref (K.2.2.1 + a0)), (1, .int x1)] [] (ix_w z d)) {x1 : Int32} {d : ix_D2} (h : b_X9_forgetSome_97 n z  a0 rec97 x1 d = some d1) : ix_G p l e (ix_rm 3 65 0 0) s m args below meth c (MQ below (ix_Post K none (ix_w z d1)) args s 0 0 (ix_A K)) K 3 0 0 97 [(0, .ref (K.2.2.1 + a0)), (1, .int x1)] [] (ix_w z d) := by
  unfold b_X9_forgetSome_97 at h
  refine ix_iload_n (i := 1) (j := 1) X (ix_tb_at tb_X9_forgetSome 51 rfl) rfl rfl (pc1 := 98) rfl ?_
  refine ix_aload_n (i := 0) (j := 0) X (ix_tb_at tb_X9_forgetSome 52 rfl) rfl rfl (pc1 := 99) rfl ?_
  obtain ⟨k_14, h⟩ := ix_ck_some h
  refine iz_getI X fl_RX9_222 k_14 (ix_tb_at tb_X9_forgetSome 53 rfl) (pc1 := 102) rfl ?_
  refine ix_iconst (v := 2) X (ix_tb_at tb_X9_forgetSome 54 rfl) (by decide) (pc1 := 103) rfl ?_
  refine ix_idiv X (ix_tb_at tb_X9_forgetSome 55 rfl) (by decide) (pc1 := 104) rfl ?_
  refine ix_icmp_ge (tgt := 134) X (ix_tb_at tb_X9_forgetSome 56 rfl) (by decide) (pc1 := 107) rfl (fun q_15 => ?_) (fun q_15 => ?_)
  · have h := ix_ift q_15 h
    refine ix_aload_n (i := 0) (j := 0) X (ix_tb_at tb_X9_forgetSome 70 rfl) rfl rfl (pc1 := 135) rfl ?_
    obtain ⟨b_16, q_17, h⟩ := ix_bd1_ex h
    refine iz_getR X fl_RX9_47 k_14 q_17 (ix_tb_at tb_X9_forgetSome 71 rfl) (pc1 := 138) rfl ?_
    refine ix_bipush (v := 6) X (ix_tb_at tb_X9_forgetSome 72 rfl) (by decide) (pc1 := 140) rfl ?_
    refine ix_dup2 X (ix_tb_at tb_X9_forgetSome 73 rfl) rfl rfl (pc1 := 141) rfl ?_
    obtain ⟨k_18, h⟩ := ix_ck_some h
    refine iz_iald X k_18 (ix_tb_at tb_X9_forgetSome 74 rfl) (pc1 := 142) rfl ?_
    refine ix_aload_n (i := 0) (j := 0) X (ix_tb_at tb_X9_forgetSome 75 rfl) rfl rfl (pc1 := 143) rfl ?_
    refine iz_getI X fl_RX9_222 k_14 (ix_tb_at tb_X9_forgetSome 76 rfl) (pc1 := 146) rfl ?_
    refine ix_iconst (v := 2) X (ix_tb_at tb_X9_forgetSome 77 rfl) (by decide) (pc1 := 147) rfl ?_
    refine ix_idiv X (ix_tb_at tb_X9_forgetSome 78 rfl) (by decide) (pc1 := 148) rfl ?_
    refine ix_iadd X (ix_tb_at tb_X9_forgetSome 79 rfl) (pc1 := 149) rfl ?_
    obtain ⟨d_19, e_20, h⟩ := ix_lt_ex h
    refine iz_iast X k_18 (ix_tb_at tb_X9_forgetSome 80 rfl) e_20 (pc1 := 150) rfl ?_
    refine ix_aload_n (i := 0) (j := 0) X (ix_tb_at tb_X9_forgetSome 81 rfl) rfl rfl (pc1 := 151) rfl ?_
    refine iz_getR X fl_RX9_47 k_14 q_17 (ix_tb_at tb_X9_forgetSome 82 rfl) (pc1 := 154) rfl ?_
    refine ix_bipush (v := 7) X (ix_tb_at tb_X9_forgetSome 83 rfl) (by decide) (pc1 := 156) rfl ?_
    refine ix_dup2 X (ix_tb_at tb_X9_forgetSome 84 rfl) rfl rfl (pc1 := 157) rfl ?_
    obtain ⟨k_21, h⟩ := ix_ck_some h
    refine iz_iald X k_21 (ix_tb_at tb_X9_forgetSome 85 rfl) (pc1 := 158) rfl ?_
    refine ix_aload_n (i := 0) (j := 0) X (ix_tb_at tb_X9_forgetSome 86 rfl) rfl rfl (pc1 := 159) rfl ?_
    refine iz_getI X fl_RX9_222 k_14 (ix_tb_at tb_X9_forgetSome 87 rfl) (pc1 := 162) rfl ?_
    refine ix_iconst (v := 2) X (ix_tb_at tb_X9_forgetSome 88 rfl) (by decide) (pc1 := 163) rfl ?_
    refine ix_idiv X (ix_tb_at tb_X9_forgetSome 89 rfl) (by decide) (pc1 := 164) rfl ?_
    refine ix_isub X (ix_tb_at tb_X9_forgetSome 90 rfl) (pc1 := 165) rfl ?_
    obtain ⟨d_22, e_23, h⟩ := ix_lt_ex h
    refine iz_iast X k_21 (ix_tb_at tb_X9_forgetSome 91 rfl) e_23 (pc1 := 166) rfl ?_
    refine ix_iconst (v := 0) X (ix_tb_at tb_X9_forgetSome 92 rfl) (by decide) (pc1 := 167) rfl ?_
    refine ix_istore_n (i := 1) (L1 := [(1, .int 0), (0, .ref (K.2.2.1 + a0))]) X (ix_tb_at tb_X9_forgetSome 93 rfl) rfl (Nat.le_of_ble_eq_true rfl) rfl (pc1 := 168) rfl ?_
    refine ix_sub (L1 := [(0, .ref (K.2.2.1 + a0)), (1, .int 0)]) [1, 0] rfl ?_
    exact t_X9_forgetSome_168 hKp X hr hlk  h
  · have h := ix_iff q_15 h
    refine ix_aload_n (i := 0) (j := 0) X (ix_tb_at tb_X9_forgetSome 57 rfl) rfl rfl (pc1 := 108) rfl ?_
    obtain ⟨b_36, q_37, h⟩ := ix_bd1_ex h
    refine iz_getR X fl_RX9_12 k_14 q_37 (ix_tb_at tb_X9_forgetSome 58 rfl) (pc1 := 111) rfl ?_
    refine ix_aload_n (i := 0) (j := 0) X (ix_tb_at tb_X9_forgetSome 59 rfl) rfl rfl (pc1 := 112) rfl ?_
    refine iz_getR X fl_RX9_12 k_14 q_37 (ix_tb_at tb_X9_forgetSome 60 rfl) (pc1 := 115) rfl ?_
    obtain ⟨k_38, h⟩ := ix_ck_some h
    refine iz_getI X fl_RX9_113 k_38 (ix_tb_at tb_X9_forgetSome 61 rfl) (pc1 := 118) rfl ?_
    refine ix_aload_n (i := 0) (j := 0) X (ix_tb_at tb_X9_forgetSome 62 rfl) rfl rfl (pc1 := 119) rfl ?_
    obtain ⟨b_39, q_40, h⟩ := ix_bd1_ex h
    refine iz_getR X fl_RX9_59 k_14 q_40 (ix_tb_at tb_X9_forgetSome 63 rfl) (pc1 := 122) rfl ?_
    refine ix_iload_n (i := 1) (j := 1) X (ix_tb_at tb_X9_forgetSome 64 rfl) rfl rfl (pc1 := 123) rfl ?_
    obtain ⟨k_41, h⟩ := ix_ck_some h
    refine iz_iald X k_41 (ix_tb_at tb_X9_forgetSome 65 rfl) (pc1 := 124) rfl ?_
    refine ix_iadd X (ix_tb_at tb_X9_forgetSome 66 rfl) (pc1 := 125) rfl ?_
    obtain ⟨d_42, h_43, h⟩ := ix_bd1_ex h
    refine ix_callV (As := [.int ((d.1 b_36 16) + (d.1 b_39 (ix_n x1)))]) (rest := []) (ci := 1) (T := TX1) (nf := 17) X mf_X1_bury mi_X1_bury ms_X1_bury rfl (Nat.le_of_ble_eq_true rfl) ml_RX9_295 ⟨Nat.le_of_ble_eq_true rfl, Nat.le_of_ble_eq_true rfl⟩ ⟨Nat.le_of_ble_eq_true rfl, Nat.le_of_ble_eq_true rfl⟩ rfl (Nat.le_of_ble_eq_true rfl) (ix_tb_at tb_X9_forgetSome 67 rfl) ⟨k_38.1, List.mem_singleton.mp k_38.2⟩ (c_X1_bury hKp h_43) rfl (pc1 := 128) rfl ?_
    obtain ⟨x1_44, e_45, h⟩ := ix_lt_ex h
    refine ix_iinc (i := 1) (j := 1) (v := x1_44) (L1 := [(1, .int x1_44), (0, .ref (K.2.2.1 + a0))]) X (ix_tb_at tb_X9_forgetSome 68 rfl) rfl (by rw [oi_1]; exact e_45.symm) (Nat.le_of_ble_eq_true rfl) rfl (pc1 := 131) rfl ?_
    refine ix_goto (tgt := 97) X (ix_tb_at tb_X9_forgetSome 69 rfl) (by decide) ?_
    refine ix_sub (L1 := [(0, .ref (K.2.2.1 + a0)), (1, .int x1_44)]) [1, 0] rfl ?_
    exact hrec97 x1_44 d_42 h
theorem t_X9_forgetSome_97 {l : Launch} {p : Program} {e : Env} {s : State} {m : MethodId} {args : Array Value} {below : List Frame} {meth : Method} {c : Code} {K : ix_Cx} (hKp : ix_Kp K) {n : Nat} {z : ix_Z} (X : ix_X p s m args c K cX9_forgetSome RX9 3) (hr : meth.sig.returnType = (none : Option Jvm.ClassFile.FieldType)) (hlk : meth.locks = false)  {a0 : Nat} {d1 : ix_D2}  {x1 : Int32} {d : ix_D2} (h : f_X9_forgetSome_97 n z  a0 x1 d = some d1) : ix_G p l e (ix_rm 3 65 0 0) s m args below meth c (MQ below (ix_Post K none (ix_w z d1)) args s 0 0 (ix_A K)) K 3 0 0 97 [(0, .ref (K.2.2.1 + a0)), (1, .int x1)] [] (ix_w z d) := by
  have key : ∀ (f : Nat) (x1 : Int32) (d : ix_D2), ix_fix (b_X9_forgetSome_97 n z  a0) (fun _ _ => none) f x1 d = some d1 → ix_G p l e (ix_rm 3 65 0 0) s m args below meth c (MQ below (ix_Post K none (ix_w z d1)) args s 0 0 (ix_A K)) K 3 0 0 97 [(0, .ref (K.2.2.1 + a0)), (1, .int x1)] [] (ix_w z d) := by
    intro f
    induction f with
    | zero =>
      intro x1 d h
      have h : (none : Option (ix_D2)) = some d1 := h
      cases h
    | succ f ih =>
      intro x1 d h
      exact tb_X9_forgetSome_97 hKp X hr hlk (rec97 := ix_fix (b_X9_forgetSome_97 n z  a0) (fun _ _ => none) f)  ih h
  exact key n x1 d h
set_option maxRecDepth 20000 in
theorem t_X9_forgetSome_89 {l : Launch} {p : Program} {e : Env} {s : State} {m : MethodId} {args : Array Value} {below : List Frame} {meth : Method} {c : Code} {K : ix_Cx} (hKp : ix_Kp K) {n : Nat} {z : ix_Z} (X : ix_X p s m args c K cX9_forgetSome RX9 3) (hr : meth.sig.returnType = (none : Option Jvm.ClassFile.FieldType)) (hlk : meth.locks = false) {rec29 : Int32 → ix_D2 → Option (ix_D2)} {a0 : Nat} {x1 : Int32} {d1 : ix_D2} (hrec29 : ∀ (x1 : Int32) (d : ix_D2), rec29 x1 d = some d1 → ix_G p l e (ix_rm 3 65 0 0) s m args below meth c (MQ below (ix_Post K none (ix_w z d1)) args s 0 0 (ix_A K)) K 3 0 0 29 [(0, .ref (K.2.2.1 + a0)), (1, .int x1)] [] (ix_w z d)) {d : ix_D2} (h : f_X9_forgetSome_89 n z rec29 a0 x1 d = some d1) : ix_G p l e (ix_rm 3 65 0 0) s m args below meth c (MQ below (ix_Post K none (ix_w z d1)) args s 0 0 (ix_A K)) K 3 0 0 89 [(0, .ref (K.2.2.1 + a0)), (1, .int x1)] [] (ix_w z d) := by
  unfold f_X9_forgetSome_89 at h
  obtain ⟨x1_55, e_56, h⟩ := ix_lt_ex h
  refine ix_iinc (i := 1) (j := 1) (v := x1_55) (L1 := [(1, .int x1_55), (0, .ref (K.2.2.1 + a0))]) X (ix_tb_at tb_X9_forgetSome 47 rfl) rfl (by rw [oi_1]; exact e_56.symm) (Nat.le_of_ble_eq_true rfl) rfl (pc1 := 92) rfl ?_
  refine ix_goto (tgt := 29) X (ix_tb_at tb_X9_forgetSome 48 rfl) (by decide) ?_
  refine ix_sub (L1 := [(0, .ref (K.2.2.1 + a0)), (1, .int x1_55)]) [1, 0] rfl ?_
  exact hrec29 x1_55 d h
set_option maxRecDepth 20000 in
theorem tb_X9_forgetSome_29 {l : Launch} {p : Program} {e : Env} {s : State} {m : MethodId} {args : Array Value} {below : List Frame} {meth : Method} {c : Code} {K : ix_Cx} (hKp : ix_Kp K) {n : Nat} {z : ix_Z} (X : ix_X p s m args c K cX9_forgetSome RX9 3) (hr : meth.sig.returnType = (none : Option Jvm.ClassFile.FieldType)) (hlk : meth.locks = false)  {a0 : Nat} {rec29 : Int32 → ix_D2 → Option (ix_D2)} {d1 : ix_D2} (hrec29 : ∀ (x1 : Int32) (d : ix_D2), rec29 x1 d = some d1 → ix_G p l e (ix_rm 3 65 0 0) s m args below meth c (MQ below (ix_Post K none (ix_w z d1)) args s 0 0 (ix_A K)) K 3 0 0 29 [(0, .ref (K.2.2.1 + a0)), (1, .int x1)] [] (ix_w z d)) {x1 : Int32} {d : ix_D2} (h : b_X9_forgetSome_29 n z  a0 rec29 x1 d = some d1) : ix_G p l e (ix_rm 3 65 0 0) s m args below meth c (MQ below (ix_Post K none (ix_w z d1)) args s 0 0 (ix_A K)) K 3 0 0 29 [(0, .ref (K.2.2.1 + a0)), (1, .int x1)] [] (ix_w z d) := by
  unfold b_X9_forgetSome_29 at h
  refine ix_iload_n (i := 1) (j := 1) X (ix_tb_at tb_X9_forgetSome 16 rfl) rfl rfl (pc1 := 30) rfl ?_
  refine ix_aload_n (i := 0) (j := 0) X (ix_tb_at tb_X9_forgetSome 17 rfl) rfl rfl (pc1 := 31) rfl ?_
  obtain ⟨k_9, h⟩ := ix_ck_some h
  obtain ⟨b_10, q_11, h⟩ := ix_bd1_ex h
  refine iz_getR X fl_RX9_47 k_9 q_11 (ix_tb_at tb_X9_forgetSome 18 rfl) (pc1 := 34) rfl ?_
  refine ix_bipush (v := 8) X (ix_tb_at tb_X9_forgetSome 19 rfl) (by decide) (pc1 := 36) rfl ?_
  obtain ⟨k_12, h⟩ := ix_ck_some h
  refine iz_iald X k_12 (ix_tb_at tb_X9_forgetSome 20 rfl) (pc1 := 37) rfl ?_
  refine ix_icmp_ge (tgt := 95) X (ix_tb_at tb_X9_forgetSome 21 rfl) (by decide) (pc1 := 40) rfl (fun q_13 => ?_) (fun q_13 => ?_)
  · have h := ix_ift q_13 h
    refine ix_iconst (v := 0) X (ix_tb_at tb_X9_forgetSome 49 rfl) (by decide) (pc1 := 96) rfl ?_
    refine ix_istore_n (i := 1) (L1 := [(1, .int 0), (0, .ref (K.2.2.1 + a0))]) X (ix_tb_at tb_X9_forgetSome 50 rfl) rfl (Nat.le_of_ble_eq_true rfl) rfl (pc1 := 97) rfl ?_
    refine ix_sub (L1 := [(0, .ref (K.2.2.1 + a0)), (1, .int 0)]) [1, 0] rfl ?_
    exact t_X9_forgetSome_97 hKp X hr hlk  h
  · have h := ix_iff q_13 h
    refine ix_aload_n (i := 0) (j := 0) X (ix_tb_at tb_X9_forgetSome 22 rfl) rfl rfl (pc1 := 41) rfl ?_
    obtain ⟨b_46, q_47, h⟩ := ix_bd1_ex h
    refine iz_getR X fl_RX9_12 k_9 q_47 (ix_tb_at tb_X9_forgetSome 23 rfl) (pc1 := 44) rfl ?_
    obtain ⟨k_48, h⟩ := ix_ck_some h
    refine iz_getI X fl_RX9_113 k_48 (ix_tb_at tb_X9_forgetSome 24 rfl) (pc1 := 47) rfl ?_
    refine ix_iload_n (i := 1) (j := 1) X (ix_tb_at tb_X9_forgetSome 25 rfl) rfl rfl (pc1 := 48) rfl ?_
    refine ix_iadd X (ix_tb_at tb_X9_forgetSome 26 rfl) (pc1 := 49) rfl ?_
    obtain ⟨x2_49, e_50, h⟩ := ix_lt_ex h
    refine ix_nmi e_50 ?_
    refine ix_istore_n (i := 2) (L1 := [(2, .int x2_49), (0, .ref (K.2.2.1 + a0)), (1, .int x1)]) X (ix_tb_at tb_X9_forgetSome 27 rfl) rfl (Nat.le_of_ble_eq_true rfl) rfl (pc1 := 50) rfl ?_
    refine ix_aload_n (i := 0) (j := 1) X (ix_tb_at tb_X9_forgetSome 28 rfl) rfl rfl (pc1 := 51) rfl ?_
    refine ix_iload_n (i := 1) (j := 2) X (ix_tb_at tb_X9_forgetSome 29 rfl) rfl rfl (pc1 := 52) rfl ?_
    obtain ⟨r_53, d_51, h_52, h⟩ := ix_bd2_ex h
    refine ix_callV (As := [.int x1]) (rest := []) (ci := 8) (T := TX9) (nf := 20) X mf_X9_isThere mi_X9_isThere ms_X9_isThere rfl (Nat.le_of_ble_eq_true rfl) ml_RX9_283 ⟨Nat.le_of_ble_eq_true rfl, Nat.le_of_ble_eq_true rfl⟩ ⟨Nat.le_of_ble_eq_true rfl, Nat.le_of_ble_eq_true rfl⟩ rfl (Nat.le_of_ble_eq_true rfl) (ix_tb_at tb_X9_forgetSome 30 rfl) ⟨k_9.1, List.mem_singleton.mp k_9.2⟩ (c_X9_isThere hKp h_52) rfl (pc1 := 55) rfl ?_
    refine ix_if_eq (tgt := 89) X (ix_tb_at tb_X9_forgetSome 31 rfl) (by decide) (pc1 := 58) rfl (fun q_54 => ?_) (fun q_54 => ?_)
    · have h := ix_ift q_54 h
      refine ix_sub (L1 := [(0, .ref (K.2.2.1 + a0)), (1, .int x1)]) [1, 2] rfl ?_
      exact t_X9_forgetSome_89 hKp X hr hlk hrec29 h
    · have h := ix_iff q_54 h
      refine ix_aload_n (i := 0) (j := 1) X (ix_tb_at tb_X9_forgetSome 32 rfl) rfl rfl (pc1 := 59) rfl ?_
      refine iz_getR X fl_RX9_12 k_9 q_47 (ix_tb_at tb_X9_forgetSome 33 rfl) (pc1 := 62) rfl ?_
      obtain ⟨b_57, q_58, h⟩ := ix_bd1_ex h
      refine iz_getR X fl_RX9_107 k_48 q_58 (ix_tb_at tb_X9_forgetSome 34 rfl) (pc1 := 65) rfl ?_
      refine ix_iload_n (i := 2) (j := 0) X (ix_tb_at tb_X9_forgetSome 35 rfl) rfl rfl (pc1 := 66) rfl ?_
      obtain ⟨k_61, h⟩ := ix_ck_some h
      obtain ⟨r_62, d_59, h_60, h⟩ := ix_bd2_ex h
      refine ix_callV (As := [.int x2_49]) (rest := []) (ci := 7) (T := TX7) (nf := 3) X mf_X7_size mi_X7_size ms_X7_size rfl (Nat.le_of_ble_eq_true rfl) ml_RX9_286 ⟨Nat.le_of_ble_eq_true rfl, Nat.le_of_ble_eq_true rfl⟩ ⟨Nat.le_of_ble_eq_true rfl, Nat.le_of_ble_eq_true rfl⟩ rfl (Nat.le_of_ble_eq_true rfl) (ix_tb_at tb_X9_forgetSome 36 rfl) ⟨k_61.1, List.mem_singleton.mp k_61.2⟩ (c_X7_size hKp h_60) rfl (pc1 := 69) rfl ?_
      refine ix_iconst (v := 2) X (ix_tb_at tb_X9_forgetSome 37 rfl) (by decide) (pc1 := 70) rfl ?_
      refine ix_icmp_le (tgt := 89) X (ix_tb_at tb_X9_forgetSome 38 rfl) (by decide) (pc1 := 73) rfl (fun q_63 => ?_) (fun q_63 => ?_)
      · have h := ix_ift q_63 h
        refine ix_sub (L1 := [(0, .ref (K.2.2.1 + a0)), (1, .int x1)]) [1, 2] rfl ?_
        exact t_X9_forgetSome_89 hKp X hr hlk hrec29 h
      · have h := ix_iff q_63 h
        refine ix_aload_n (i := 0) (j := 1) X (ix_tb_at tb_X9_forgetSome 39 rfl) rfl rfl (pc1 := 74) rfl ?_
        refine iz_getR X fl_RX9_12 k_9 q_47 (ix_tb_at tb_X9_forgetSome 40 rfl) (pc1 := 77) rfl ?_
        refine ix_iload_n (i := 2) (j := 0) X (ix_tb_at tb_X9_forgetSome 41 rfl) rfl rfl (pc1 := 78) rfl ?_
        obtain ⟨r_66, d_64, h_65, h⟩ := ix_bd2_ex h
        refine ix_callV (As := [.int x2_49]) (rest := []) (ci := 1) (T := TX1) (nf := 17) X mf_X1_isReason mi_X1_isReason ms_X1_isReason rfl (Nat.le_of_ble_eq_true rfl) ml_RX9_289 ⟨Nat.le_of_ble_eq_true rfl, Nat.le_of_ble_eq_true rfl⟩ ⟨Nat.le_of_ble_eq_true rfl, Nat.le_of_ble_eq_true rfl⟩ rfl (Nat.le_of_ble_eq_true rfl) (ix_tb_at tb_X9_forgetSome 42 rfl) ⟨k_48.1, List.mem_singleton.mp k_48.2⟩ (c_X1_isReason hKp h_65) rfl (pc1 := 81) rfl ?_
        refine ix_if_ne (tgt := 89) X (ix_tb_at tb_X9_forgetSome 43 rfl) (by decide) (pc1 := 84) rfl (fun q_67 => ?_) (fun q_67 => ?_)
        · have h := ix_iff q_67 h
          refine ix_sub (L1 := [(0, .ref (K.2.2.1 + a0)), (1, .int x1)]) [1, 2] rfl ?_
          exact t_X9_forgetSome_89 hKp X hr hlk hrec29 h
        · have h := ix_ift q_67 h
          refine ix_aload_n (i := 0) (j := 1) X (ix_tb_at tb_X9_forgetSome 44 rfl) rfl rfl (pc1 := 85) rfl ?_
          refine ix_iload_n (i := 1) (j := 2) X (ix_tb_at tb_X9_forgetSome 45 rfl) rfl rfl (pc1 := 86) rfl ?_
          obtain ⟨d_68, h_69, h⟩ := ix_bd1_ex h
          refine ix_callV (As := [.int x1]) (rest := []) (ci := 8) (T := TX9) (nf := 20) X mf_X9_queueByUse mi_X9_queueByUse ms_X9_queueByUse rfl (Nat.le_of_ble_eq_true rfl) ml_RX9_292 ⟨Nat.le_of_ble_eq_true rfl, Nat.le_of_ble_eq_true rfl⟩ ⟨Nat.le_of_ble_eq_true rfl, Nat.le_of_ble_eq_true rfl⟩ rfl (Nat.le_of_ble_eq_true rfl) (ix_tb_at tb_X9_forgetSome 46 rfl) ⟨k_9.1, List.mem_singleton.mp k_9.2⟩ (c_X9_queueByUse hKp h_69) rfl (pc1 := 89) rfl ?_
          refine ix_sub (L1 := [(0, .ref (K.2.2.1 + a0)), (1, .int x1)]) [1, 2] rfl ?_
          exact t_X9_forgetSome_89 hKp X hr hlk hrec29 h
theorem t_X9_forgetSome_29 {l : Launch} {p : Program} {e : Env} {s : State} {m : MethodId} {args : Array Value} {below : List Frame} {meth : Method} {c : Code} {K : ix_Cx} (hKp : ix_Kp K) {n : Nat} {z : ix_Z} (X : ix_X p s m args c K cX9_forgetSome RX9 3) (hr : meth.sig.returnType = (none : Option Jvm.ClassFile.FieldType)) (hlk : meth.locks = false)  {a0 : Nat} {d1 : ix_D2}  {x1 : Int32} {d : ix_D2} (h : f_X9_forgetSome_29 n z  a0 x1 d = some d1) : ix_G p l e (ix_rm 3 65 0 0) s m args below meth c (MQ below (ix_Post K none (ix_w z d1)) args s 0 0 (ix_A K)) K 3 0 0 29 [(0, .ref (K.2.2.1 + a0)), (1, .int x1)] [] (ix_w z d) := by
  have key : ∀ (f : Nat) (x1 : Int32) (d : ix_D2), ix_fix (b_X9_forgetSome_29 n z  a0) (fun _ _ => none) f x1 d = some d1 → ix_G p l e (ix_rm 3 65 0 0) s m args below meth c (MQ below (ix_Post K none (ix_w z d1)) args s 0 0 (ix_A K)) K 3 0 0 29 [(0, .ref (K.2.2.1 + a0)), (1, .int x1)] [] (ix_w z d) := by
    intro f
    induction f with
    | zero =>
      intro x1 d h
      have h : (none : Option (ix_D2)) = some d1 := h
      cases h
    | succ f ih =>
      intro x1 d h
      exact tb_X9_forgetSome_29 hKp X hr hlk (rec29 := ix_fix (b_X9_forgetSome_29 n z  a0) (fun _ _ => none) f)  ih h
  exact key n x1 d h
set_option maxRecDepth 20000 in
theorem c_X9_forgetSome {l : Launch} {K : ix_Cx} (hKp : ix_Kp K) {n : Nat} {z : ix_Z} {a0 : Nat} {d : ix_D2} {d1 : ix_D2} (h : f_X9_forgetSome n z a0 d = some d1) : ix_M l K yX9_forgetSome cX9_forgetSome 3 (none : Option Jvm.ClassFile.FieldType) 3 65 0 0 [.ref (K.2.2.1 + a0)] (ix_w z d) none (ix_w z d1) := by
  refine ix_met mf_X9_forgetSome hKp (Nat.le_of_ble_eq_true rfl) ?_
  intro p e s m args below meth c hr hlk hnm X
  have X : ix_X p s m args c K cX9_forgetSome RX9 3 := X
  show ix_G p l e (ix_rm 3 65 0 0) s m args below meth c (MQ below (ix_Post K none (ix_w z d1)) args s 0 0 (ix_A K)) K 3 0 0 0 [(0, .ref (K.2.2.1 + a0))] [] (ix_w z d)
  unfold f_X9_forgetSome at h
  refine ix_aload_n (i := 0) (j := 0) X (ix_tb_at tb_X9_forgetSome 0 rfl) rfl rfl (pc1 := 1) rfl ?_
  obtain ⟨k_1, h⟩ := ix_ck_some h
  refine iz_getI X fl_RX9_96 k_1 (ix_tb_at tb_X9_forgetSome 1 rfl) (pc1 := 4) rfl ?_
  refine ix_if_eq (tgt := 21) X (ix_tb_at tb_X9_forgetSome 2 rfl) (by decide) (pc1 := 7) rfl (fun q_2 => ?_) (fun q_2 => ?_)
  · have h := ix_ift q_2 h
    exact ix_vret X hr hlk (ix_r1 (g := ix_w z) h) (ix_tb_at tb_X9_forgetSome 10 rfl)
  · have h := ix_iff q_2 h
    refine ix_aload_n (i := 0) (j := 0) X (ix_tb_at tb_X9_forgetSome 3 rfl) rfl rfl (pc1 := 8) rfl ?_
    obtain ⟨b_3, q_4, h⟩ := ix_bd1_ex h
    refine iz_getR X fl_RX9_47 k_1 q_4 (ix_tb_at tb_X9_forgetSome 4 rfl) (pc1 := 11) rfl ?_
    refine ix_bipush (v := 7) X (ix_tb_at tb_X9_forgetSome 5 rfl) (by decide) (pc1 := 13) rfl ?_
    obtain ⟨k_5, h⟩ := ix_ck_some h
    refine iz_iald X k_5 (ix_tb_at tb_X9_forgetSome 6 rfl) (pc1 := 14) rfl ?_
    refine ix_aload_n (i := 0) (j := 0) X (ix_tb_at tb_X9_forgetSome 7 rfl) rfl rfl (pc1 := 15) rfl ?_
    refine iz_getI X fl_RX9_96 k_1 (ix_tb_at tb_X9_forgetSome 8 rfl) (pc1 := 18) rfl ?_
    refine ix_icmp_gt (tgt := 22) X (ix_tb_at tb_X9_forgetSome 9 rfl) (by decide) (pc1 := 21) rfl (fun q_6 => ?_) (fun q_6 => ?_)
    · have h := ix_ift q_6 h
      refine ix_aload_n (i := 0) (j := 0) X (ix_tb_at tb_X9_forgetSome 11 rfl) rfl rfl (pc1 := 23) rfl ?_
      refine ix_iconst (v := 0) X (ix_tb_at tb_X9_forgetSome 12 rfl) (by decide) (pc1 := 24) rfl ?_
      obtain ⟨d_7, e_8, h⟩ := ix_lt_ex h
      refine iz_putI X fp_RX9_222 k_1 (ix_tb_at tb_X9_forgetSome 13 rfl) e_8 (pc1 := 27) rfl ?_
      refine ix_iconst (v := 0) X (ix_tb_at tb_X9_forgetSome 14 rfl) (by decide) (pc1 := 28) rfl ?_
      refine ix_istore_n (i := 1) (L1 := [(1, .int 0), (0, .ref (K.2.2.1 + a0))]) X (ix_tb_at tb_X9_forgetSome 15 rfl) rfl (Nat.le_of_ble_eq_true rfl) rfl (pc1 := 29) rfl ?_
      refine ix_sub (L1 := [(0, .ref (K.2.2.1 + a0)), (1, .int 0)]) [1, 0] rfl ?_
      exact t_X9_forgetSome_29 hKp X hr hlk  h
    · have h := ix_iff q_6 h
      exact ix_vret X hr hlk (ix_r1 (g := ix_w z) h) (ix_tb_at tb_X9_forgetSome 10 rfl)

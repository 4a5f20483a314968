theorem fl_RX9_153 : ix_flb 226 0 true RX9 153 "ClauseCourt$Board" [1] 13 0 = true := by decide +kernel
theorem ms_X9_walkBack : Cond.selects yX9_walkBack.cls yX9_walkBack yX9_walkBack ∈ lw_tbl := List.mem_append_left _ (List.mem_of_getElem? (i := 30) (by decide +kernel))
theorem ml_RX9_207 : tables_1[1248]? = some (Cond.methodLink RX9 207 yX9_walkBack) := by decide +kernel
theorem ms_X9_makeFresh : Cond.selects yX9_makeFresh.cls yX9_makeFresh yX9_makeFresh ∈ lw_tbl := List.mem_append_left _ (List.mem_of_getElem? (i := 32) (by decide +kernel))
theorem ml_RX9_210 : tables_1[1256]? = some (Cond.methodLink RX9 210 yX9_makeFresh) := by decide +kernel
theorem ms_X9_raiseWeights : Cond.selects yX9_raiseWeights.cls yX9_raiseWeights yX9_raiseWeights ∈ lw_tbl := List.mem_append_left _ (List.mem_of_getElem? (i := 34) (by decide +kernel))
theorem ml_RX9_219 : tables_1[1264]? = some (Cond.methodLink RX9 219 yX9_raiseWeights) := by decide +kernel
theorem ms_X9_goBack : Cond.selects yX9_goBack.cls yX9_goBack yX9_goBack ∈ lw_tbl := List.mem_append_left _ (List.mem_of_getElem? (i := 35) (by decide +kernel))
theorem ml_RX9_225 : tables_1[1274]? = some (Cond.methodLink RX9 225 yX9_goBack) := by decide +kernel
theorem ms_X9_forgetSome : Cond.selects yX9_forgetSome.cls yX9_forgetSome yX9_forgetSome ∈ lw_tbl := List.mem_append_left _ (List.mem_of_getElem? (i := 37) (by decide +kernel))
theorem ml_RX9_228 : tables_1[1291]? = some (Cond.methodLink RX9 228 yX9_forgetSome) := by decide +kernel
theorem ml_RX9_234 : tables_1[1315]? = some (Cond.methodLink RX9 234 yX1_lay) := by decide +kernel
theorem mf_X9_learn : ix_mf yX9_learn cX9_learn 5 (some .int) 1 := ⟨ix_wm (i := 1247) (by decide +kernel), ix_wm (i := 5) (by decide +kernel), ⟨by decide +kernel, by decide +kernel⟩, by decide +kernel, by decide +kernel⟩
theorem mi_X9_learn : Cond.instanceMethod yX9_learn ∈ lw_tbl := ix_wm (i := 1246) (by decide +kernel)
theorem mf_X9_keepNameSources : ix_mf yX9_keepNameSources cX9_keepNameSources 4 (none : Option Jvm.ClassFile.FieldType) 2 := ⟨ix_wm (i := 1331) (by decide +kernel), ix_wm (i := 5) (by decide +kernel), ⟨by decide +kernel, by decide +kernel⟩, by decide +kernel, by decide +kernel⟩
theorem mi_X9_keepNameSources : Cond.instanceMethod yX9_keepNameSources ∈ lw_tbl := ix_wm (i := 1330) (by decide +kernel)
theorem ml_RX9_198 : tables_1[1320]? = some (Cond.methodLink RX9 198 yX1_openItem) := by decide +kernel
theorem ml_RX9_195 : tables_1[1324]? = some (Cond.methodLink RX9 195 yX1_assign) := by decide +kernel
theorem ms_X9_keepNameSources : Cond.selects yX9_keepNameSources.cls yX9_keepNameSources yX9_keepNameSources ∈ lw_tbl := List.mem_append_left _ (List.mem_of_getElem? (i := 41) (by decide +kernel))
theorem ml_RX9_204 : tables_1[1328]? = some (Cond.methodLink RX9 204 yX9_keepNameSources) := by decide +kernel
theorem mf_X9_force : ix_mf yX9_force cX9_force 3 (some .int) 1 := ⟨ix_wm (i := 1319) (by decide +kernel), ix_wm (i := 5) (by decide +kernel), ⟨by decide +kernel, by decide +kernel⟩, by decide +kernel, by decide +kernel⟩
theorem mi_X9_force : Cond.instanceMethod yX9_force ∈ lw_tbl := ix_wm (i := 1318) (by decide +kernel)
theorem mf_X9_markReason : ix_mf yX9_markReason cX9_markReason 4 (none : Option Jvm.ClassFile.FieldType) 1 := ⟨ix_wm (i := 1344) (by decide +kernel), ix_wm (i := 5) (by decide +kernel), ⟨by decide +kernel, by decide +kernel⟩, by decide +kernel, by decide +kernel⟩
theorem mi_X9_markReason : Cond.instanceMethod yX9_markReason ∈ lw_tbl := ix_wm (i := 1343) (by decide +kernel)
theorem ms_X9_markReason : Cond.selects yX9_markReason.cls yX9_markReason yX9_markReason ∈ lw_tbl := List.mem_append_left _ (List.mem_of_getElem? (i := 44) (by decide +kernel))
theorem ml_RX9_309 : tables_1[1341]? = some (Cond.methodLink RX9 309 yX9_markReason) := by decide +kernel
theorem mf_X9_refuteAssumed : ix_mf yX9_refuteAssumed cX9_refuteAssumed 4 (some .int) 1 := ⟨ix_wm (i := 1340) (by decide +kernel), ix_wm (i := 5) (by decide +kernel), ⟨by decide +kernel, by decide +kernel⟩, by decide +kernel, by decide +kernel⟩
theorem mi_X9_refuteAssumed : Cond.instanceMethod yX9_refuteAssumed ∈ lw_tbl := ix_wm (i := 1339) (by decide +kernel)
theorem fp_RX9_153 : ix_fpb 226 0 true RX9 153 "ClauseCourt$Board" [1] 13 "I" false = true := by decide +kernel
theorem mf_X9_decide : ix_mf yX9_decide cX9_decide 2 (some .int) 1 := ⟨ix_wm (i := 1349) (by decide +kernel), ix_wm (i := 5) (by decide +kernel), ⟨by decide +kernel, by decide +kernel⟩, by decide +kernel, by decide +kernel⟩
theorem mi_X9_decide : Cond.instanceMethod yX9_decide ∈ lw_tbl := ix_wm (i := 1348) (by decide +kernel)
theorem fl_RX9_186 : ix_flb 211 0 true RX9 186 "ClauseCourt$Board" [1] 7 2 = true := by decide +kernel
theorem mf_X9_heaviestOpen : ix_mf yX9_heaviestOpen cX9_heaviestOpen 3 (some .int) 0 := ⟨ix_wm (i := 1353) (by decide +kernel), ix_wm (i := 5) (by decide +kernel), ⟨by decide +kernel, by decide +kernel⟩, by decide +kernel, by decide +kernel⟩
theorem mi_X9_heaviestOpen : Cond.instanceMethod yX9_heaviestOpen ∈ lw_tbl := ix_wm (i := 1352) (by decide +kernel)
theorem ms_X9_heaviestOpen : Cond.selects yX9_heaviestOpen.cls yX9_heaviestOpen yX9_heaviestOpen ∈ lw_tbl := List.mem_append_left _ (List.mem_of_getElem? (i := 46) (by decide +kernel))
theorem ml_RX9_179 : tables_1[1350]? = some (Cond.methodLink RX9 179 yX9_heaviestOpen) := by decide +kernel
theorem fl_RX9_182 : ix_flb 213 0 true RX9 182 "ClauseCourt$Board" [1] 8 2 = true := by decide +kernel
theorem ms_X9_decide : Cond.selects yX9_decide.cls yX9_decide yX9_decide ∈ lw_tbl := List.mem_append_left _ (List.mem_of_getElem? (i := 45) (by decide +kernel))
theorem ml_RX9_176 : tables_1[1346]? = some (Cond.methodLink RX9 176 yX9_decide) := by decide +kernel
theorem ml_RX9_170 : tables_1[1336]? = some (Cond.methodLink RX9 170 yX1_valueOf) := by decide +kernel
theorem ms_X9_refuteAssumed : Cond.selects yX9_refuteAssumed.cls yX9_refuteAssumed yX9_refuteAssumed ∈ lw_tbl := List.mem_append_left _ (List.mem_of_getElem? (i := 43) (by decide +kernel))
theorem ml_RX9_173 : tables_1[1337]? = some (Cond.methodLink RX9 173 yX9_refuteAssumed) := by decide +kernel
theorem mf_X9_choose : ix_mf yX9_choose cX9_choose 4 (some .int) 1 := ⟨ix_wm (i := 1335) (by decide +kernel), ix_wm (i := 5) (by decide +kernel), ⟨by decide +kernel, by decide +kernel⟩, by decide +kernel, by decide +kernel⟩
theorem mi_X9_choose : Cond.instanceMethod yX9_choose ∈ lw_tbl := ix_wm (i := 1334) (by decide +kernel)
theorem ml_RX9_146 : tables_1[1183]? = some (Cond.methodLink RX9 146 yX1_firstQuarrel) := by decide +kernel
theorem ml_RX9_150 : tables_1[1196]? = some (Cond.methodLink RX9 150 yX1_firstUnit) := by decide +kernel
theorem ms_X9_choose : Cond.selects yX9_choose.cls yX9_choose yX9_choose ∈ lw_tbl := List.mem_append_left _ (List.mem_of_getElem? (i := 42) (by decide +kernel))
theorem ml_RX9_166 : tables_1[1332]? = some (Cond.methodLink RX9 166 yX9_choose) := by decide +kernel
theorem ms_X9_force : Cond.selects yX9_force.cls yX9_force yX9_force ∈ lw_tbl := List.mem_append_left _ (List.mem_of_getElem? (i := 40) (by decide +kernel))
theorem ml_RX9_163 : tables_1[1316]? = some (Cond.methodLink RX9 163 yX9_force) := by decide +kernel
theorem ms_X9_learn : Cond.selects yX9_learn.cls yX9_learn yX9_learn ∈ lw_tbl := List.mem_append_left _ (List.mem_of_getElem? (i := 29) (by decide +kernel))
theorem ml_RX9_160 : tables_1[1244]? = some (Cond.methodLink RX9 160 yX9_learn) := by decide +kernel
theorem ms_X9_refute : Cond.selects yX9_refute.cls yX9_refute yX9_refute ∈ lw_tbl := List.mem_append_left _ (List.mem_of_getElem? (i := 22) (by decide +kernel))
theorem ml_RX9_156 : tables_1[1200]? = some (Cond.methodLink RX9 156 yX9_refute) := by decide +kernel
theorem mf_X9_go : ix_mf yX9_go cX9_go 6 (some .int) 1 := ⟨ix_wm (i := 1182) (by decide +kernel), ix_wm (i := 5) (by decide +kernel), ⟨by decide +kernel, by decide +kernel⟩, by decide +kernel, by decide +kernel⟩
theorem mi_X9_go : Cond.instanceMethod yX9_go ∈ lw_tbl := ix_wm (i := 1180) (by decide +kernel)
theorem mf_X9_hasSource : ix_mf yX9_hasSource cX9_hasSource 4 (some .boolean) 2 := ⟨ix_wm (i := 1365) (by decide +kernel), ix_wm (i := 5) (by decide +kernel), ⟨by decide +kernel, by decide +kernel⟩, by decide +kernel, by decide +kernel⟩
theorem mi_X9_hasSource : Cond.instanceMethod yX9_hasSource ∈ lw_tbl := ix_wm (i := 1363) (by decide +kernel)
theorem mf_X10_kindNumber : ix_mf yX10_kindNumber cX10_kindNumber 1 (some .int) 0 := ⟨ix_wm (i := 863) (by decide +kernel), ix_wm (i := 14) (by decide +kernel), ⟨by decide +kernel, by decide +kernel⟩, by decide +kernel, by decide +kernel⟩
theorem mi_X10_kindNumber : Cond.instanceMethod yX10_kindNumber ∈ lw_tbl := ix_wm (i := 862) (by decide +kernel)
theorem mf_X10_partsOf : ix_mf yX10_partsOf cX10_partsOf 1 (some .int) 1 := ⟨ix_wm (i := 593) (by decide +kernel), ix_wm (i := 14) (by decide +kernel), ⟨by decide +kernel, by decide +kernel⟩, by decide +kernel, by decide +kernel⟩
theorem st_X10_partsOf : Cond.static yX10_partsOf ∈ lw_tbl := ix_wm (i := 592) (by decide +kernel)
theorem mf_X10_signOf : ix_mf yX10_signOf cX10_signOf 1 (some .int) 1 := ⟨ix_wm (i := 600) (by decide +kernel), ix_wm (i := 14) (by decide +kernel), ⟨by decide +kernel, by decide +kernel⟩, by decide +kernel, by decide +kernel⟩
theorem st_X10_signOf : Cond.static yX10_signOf ∈ lw_tbl := ix_wm (i := 599) (by decide +kernel)
theorem ml_RX10_79 : tables_1[607]? = some (Cond.methodLink RX10 79 yX2_add) := by decide +kernel
theorem ml_RX10_83 : tables_1[608]? = some (Cond.methodLink RX10 83 yX2_layDraft) := by decide +kernel
theorem fl_RX10_40 : ix_flb 827 0 false RX10 40 "ClauseCourt$Told" [9] 5 2 = true := by decide +kernel
theorem ml_RX10_75 : tables_1[606]? = some (Cond.methodLink RX10 75 yX2_lay) := by decide +kernel
theorem mf_X10_layAll : ix_mf yX10_layAll cX10_layAll 6 (none : Option Jvm.ClassFile.FieldType) 4 := ⟨ix_wm (i := 605) (by decide +kernel), ix_wm (i := 14) (by decide +kernel), ⟨by decide +kernel, by decide +kernel⟩, by decide +kernel, by decide +kernel⟩
theorem mi_X10_layAll : Cond.instanceMethod yX10_layAll ∈ lw_tbl := ix_wm (i := 603) (by decide +kernel)
theorem mf_X10_addParts : ix_mf yX10_addParts cX10_addParts 5 (none : Option Jvm.ClassFile.FieldType) 3 := ⟨ix_wm (i := 616) (by decide +kernel), ix_wm (i := 14) (by decide +kernel), ⟨by decide +kernel, by decide +kernel⟩, by decide +kernel, by decide +kernel⟩
theorem mi_X10_addParts : Cond.instanceMethod yX10_addParts ∈ lw_tbl := ix_wm (i := 615) (by decide +kernel)
theorem ms_X10_addParts : Cond.selects yX10_addParts.cls yX10_addParts yX10_addParts ∈ lw_tbl := List.mem_append_left _ (List.mem_of_getElem? (i := 8) (by decide +kernel))
theorem ml_RX10_87 : tables_1[613]? = some (Cond.methodLink RX10 87 yX10_addParts) := by decide +kernel
theorem mf_X10_laySome : ix_mf yX10_laySome cX10_laySome 6 (none : Option Jvm.ClassFile.FieldType) 4 := ⟨ix_wm (i := 612) (by decide +kernel), ix_wm (i := 14) (by decide +kernel), ⟨by decide +kernel, by decide +kernel⟩, by decide +kernel, by decide +kernel⟩
theorem mi_X10_laySome : Cond.instanceMethod yX10_laySome ∈ lw_tbl := ix_wm (i := 611) (by decide +kernel)
theorem mf_X10_layThen : ix_mf yX10_layThen cX10_layThen 4 (none : Option Jvm.ClassFile.FieldType) 4 := ⟨ix_wm (i := 619) (by decide +kernel), ix_wm (i := 14) (by decide +kernel), ⟨by decide +kernel, by decide +kernel⟩, by decide +kernel, by decide +kernel⟩
theorem st_X10_layThen : Cond.static yX10_layThen ∈ lw_tbl := ix_wm (i := 618) (by decide +kernel)
theorem mf_X10_layJustOne : ix_mf yX10_layJustOne cX10_layJustOne 7 (none : Option Jvm.ClassFile.FieldType) 4 := ⟨ix_wm (i := 623) (by decide +kernel), ix_wm (i := 14) (by decide +kernel), ⟨by decide +kernel, by decide +kernel⟩, by decide +kernel, by decide +kernel⟩
theorem mi_X10_layJustOne : Cond.instanceMethod yX10_layJustOne ∈ lw_tbl := ix_wm (i := 622) (by decide +kernel)
theorem fl_RX10_39 : ix_flb 826 0 false RX10 39 "ClauseCourt$Told" [9] 4 2 = true := by decide +kernel
theorem ml_RX10_43 : tables_1[591]? = some (Cond.methodLink RX10 43 yX10_partsOf) := by decide +kernel
theorem ml_RX10_47 : tables_1[594]? = some (Cond.methodLink RX10 47 yX2_makeName) := by decide +kernel
theorem ml_RX10_53 : tables_1[595]? = some (Cond.methodLink RX10 53 Lib.Math.max.name) := by decide +kernel
theorem ml_RX10_59 : tables_1[598]? = some (Cond.methodLink RX10 59 yX10_signOf) := by decide +kernel
theorem ms_X10_layAll : Cond.selects yX10_layAll.cls yX10_layAll yX10_layAll ∈ lw_tbl := List.mem_append_left _ (List.mem_of_getElem? (i := 6) (by decide +kernel))
theorem ml_RX10_62 : tables_1[601]? = some (Cond.methodLink RX10 62 yX10_layAll) := by decide +kernel
theorem ms_X10_laySome : Cond.selects yX10_laySome.cls yX10_laySome yX10_laySome ∈ lw_tbl := List.mem_append_left _ (List.mem_of_getElem? (i := 7) (by decide +kernel))
theorem ml_RX10_66 : tables_1[609]? = some (Cond.methodLink RX10 66 yX10_laySome) := by decide +kernel
theorem ml_RX10_69 : tables_1[617]? = some (Cond.methodLink RX10 69 yX10_layThen) := by decide +kernel
theorem ms_X10_layJustOne : Cond.selects yX10_layJustOne.cls yX10_layJustOne yX10_layJustOne ∈ lw_tbl := List.mem_append_left _ (List.mem_of_getElem? (i := 9) (by decide +kernel))
theorem ml_RX10_72 : tables_1[620]? = some (Cond.methodLink RX10 72 yX10_layJustOne) := by decide +kernel
theorem mf_X10_layInto : ix_mf yX10_layInto cX10_layInto 7 (none : Option Jvm.ClassFile.FieldType) 1 := ⟨ix_wm (i := 590) (by decide +kernel), ix_wm (i := 14) (by decide +kernel), ⟨by decide +kernel, by decide +kernel⟩, by decide +kernel, by decide +kernel⟩
theorem mi_X10_layInto : Cond.instanceMethod yX10_layInto ∈ lw_tbl := ix_wm (i := 589) (by decide +kernel)
theorem mf_X10_isSo : ix_mf yX10_isSo cX10_isSo 6 (some .boolean) 3 := ⟨ix_wm (i := 960) (by decide +kernel), ix_wm (i := 14) (by decide +kernel), ⟨by decide +kernel, by decide +kernel⟩, by decide +kernel, by decide +kernel⟩
theorem mi_X10_isSo : Cond.instanceMethod yX10_isSo ∈ lw_tbl := ix_wm (i := 959) (by decide +kernel)
theorem ml_RX10_91 : tables_1[956]? = some (Cond.methodLink RX10 91 yX4_note) := by decide +kernel
theorem ml_RX10_98 : tables_1[961]? = some (Cond.methodLink RX10 98 yX1_isTrue) := by decide +kernel
theorem ms_X10_isSo : Cond.selects yX10_isSo.cls yX10_isSo yX10_isSo ∈ lw_tbl := List.mem_append_left _ (List.mem_of_getElem? (i := 19) (by decide +kernel))
theorem ml_RX10_94 : tables_1[957]? = some (Cond.methodLink RX10 94 yX10_isSo) := by decide +kernel
theorem mf_X10_holds : ix_mf yX10_holds cX10_holds 8 (some .boolean) 2 := ⟨ix_wm (i := 955) (by decide +kernel), ix_wm (i := 14) (by decide +kernel), ⟨by decide +kernel, by decide +kernel⟩, by decide +kernel, by decide +kernel⟩
theorem mi_X10_holds : Cond.instanceMethod yX10_holds ∈ lw_tbl := ix_wm (i := 954) (by decide +kernel)
def tab_X9_learn : List (Nat × Instr × Nat) := [(0, .aload_n 0, 1), (1, .getfield 12, 3), (4, .getfield 153, 3), (7, .istore_n 2, 1), (8, .aload_n 0, 1), (9, .iload_n 1, 1), (10, .iload_n 2, 1), (11, .invokevirtual 207, 3), (14, .istore_n 3, 1), (15, .aload_n 0, 1), (16, .iload_n 3, 1), (17, .invokevirtual 210, 3), (20, .aload_n 0, 1), (21, .getfield 12, 3), (24, .aload_n 0, 1), (25, .getfield 128, 3), (28, .invokevirtual 213, 3), (31, .ifCond .ne 7, 3), (34, .sipush (-1003), 3), (37, .ireturn, 1), (38, .aload_n 0, 1), (39, .getfield 50, 3), (42, .iconst 0, 1), (43, .aload_n 0, 1), (44, .getfield 12, 3), (47, .iload_n 1, 1), (48, .invokevirtual 216, 3), (51, .iastore, 1), (52, .aload_n 0, 1), (53, .getfield 50, 3), (56, .iconst 1, 1), (57, .iload_n 2, 1), (58, .iastore, 1), (59, .aload_n 0, 1), (60, .getfield 50, 3), (63, .iconst 3, 1), (64, .aload_n 0, 1), (65, .invokevirtual 219, 3), (68, .iastore, 1), (69, .aload_n 0, 1), (70, .getfield 50, 3), (73, .iconst 4, 1), (74, .aload_n 0, 1), (75, .getfield 128, 3), (78, .iastore, 1), (79, .iconst 0, 1), (80, .istore 4, 2), (82, .iload 4, 2), (84, .aload_n 0, 1), (85, .getfield 222, 3), (88, .if_icmp .ge 25, 3), (91, .aload_n 0, 1), (92, .getfield 35, 3), (95, .aload_n 0, 1), (96, .getfield 59, 3), (99, .iload 4, 2), (101, .iaload, 1), (102, .dup2, 1), (103, .iaload, 1), (104, .iconst 1, 1), (105, .iadd, 1), (106, .iastore, 1), (107, .iinc 4 1, 3), (110, .goto (-28), 3), (113, .aload_n 0, 1), (114, .invokevirtual 225, 3), (117, .aload_n 0, 1), (118, .getfield 50, 3), (121, .iconst 2, 1), (122, .aload_n 0, 1), (123, .getfield 12, 3), (126, .getfield 153, 3), (129, .iastore, 1), (130, .aload_n 0, 1), (131, .invokevirtual 228, 3), (134, .aload_n 0, 1), (135, .getfield 35, 3), (138, .aload_n 0, 1), (139, .getfield 47, 3), (142, .bipush 8, 2), (144, .iaload, 1), (145, .iconst 0, 1), (146, .iastore, 1), (147, .aload_n 0, 1), (148, .aload_n 0, 1), (149, .getfield 47, 3), (152, .bipush 8, 2), (154, .iaload, 1), (155, .invokevirtual 231, 3), (158, .aload_n 0, 1), (159, .getfield 12, 3), (162, .aload_n 0, 1), (163, .getfield 56, 3), (166, .iconst 0, 1), (167, .aload_n 0, 1), (168, .getfield 128, 3), (171, .invokevirtual 234, 3), (174, .aload_n 0, 1), (175, .getfield 47, 3), (178, .iconst 1, 1), (179, .dup2, 1), (180, .iaload, 1), (181, .iconst 1, 1), (182, .iadd, 1), (183, .iastore, 1), (184, .aload_n 0, 1), (185, .getfield 47, 3), (188, .iconst 4, 1), (189, .dup2, 1), (190, .iaload, 1), (191, .iconst 1, 1), (192, .iadd, 1), (193, .iastore, 1), (194, .aload_n 0, 1), (195, .getfield 47, 3), (198, .bipush 7, 2), (200, .dup2, 1), (201, .iaload, 1), (202, .iconst 1, 1), (203, .iadd, 1), (204, .iastore, 1), (205, .aload_n 0, 1), (206, .getfield 47, 3), (209, .bipush 8, 2), (211, .dup2, 1), (212, .iaload, 1), (213, .iconst 1, 1), (214, .iadd, 1), (215, .iastore, 1), (216, .iconst 2, 1), (217, .ireturn, 1)]
theorem tb_X9_learn : ix_tab cX9_learn tab_X9_learn := by
  unfold ix_tab
  decide +kernel
noncomputable def b_X9_learn_82 (n : Nat) (z : ix_Z)  (a0 : Nat) (rec82 : Int32 → ix_D2 → Option (Int32 × ix_D2)) (x4 : Int32) (d : ix_D2) : Option (Int32 × ix_D2) :=
  ix_ck (ix_ok z [8] a0) (ix_if (d.1 a0 16 ≤ x4) (ix_bd1 (f_X9_goBack n z a0 d) (fun d_38 => ix_bd1 (z.1 a0 11) (fun b_40 => ix_bd1 (z.1 a0 0) (fun b_42 => ix_ck (ix_ok z [1] b_42) (ix_ck (ix_ix z 20 b_40 2) (ix_lt (ix_di d_38 b_40 (ix_n 2) (d_38.1 b_42 13)) (fun d_46 => ix_bd1 (f_X9_forgetSome n z a0 d_46) (fun d_48 => ix_bd1 (z.1 a0 6) (fun b_50 => ix_bd1 (z.1 a0 10) (fun b_52 => ix_ck (ix_ix z 20 b_52 8) (ix_ck (ix_ix z 20 b_50 (d_48.1 b_52 (ix_n 8))) (ix_lt (ix_di d_48 b_50 (ix_n (d_48.1 b_52 (ix_n 8))) 0) (fun d_56 => ix_bd1 (f_X9_keepSources n z a0 (d_56.1 b_52 (ix_n 8)) d_56) (fun d_58 => ix_bd1 (z.1 a0 13) (fun b_60 => ix_bd1 (f_X1_lay n z b_42 b_60 0 (d_58.1 a0 14) d_58) (fun d_62 => ix_ck (ix_ix z 20 b_52 1) (ix_lt (ix_di d_62 b_52 (ix_n 1) ((d_62.1 b_52 (ix_n 1)) + 1)) (fun d_65 => ix_ck (ix_ix z 20 b_52 4) (ix_lt (ix_di d_65 b_52 (ix_n 4) ((d_65.1 b_52 (ix_n 4)) + 1)) (fun d_68 => ix_ck (ix_ix z 20 b_52 7) (ix_lt (ix_di d_68 b_52 (ix_n 7) ((d_68.1 b_52 (ix_n 7)) + 1)) (fun d_71 => ix_lt (ix_di d_71 b_52 (ix_n 8) ((d_71.1 b_52 (ix_n 8)) + 1)) (fun d_73 => some (2, d_73)))))))))))))))))))))))) (ix_bd1 (z.1 a0 6) (fun b_75 => ix_bd1 (z.1 a0 15) (fun b_77 => ix_ck (ix_ix z 20 b_77 x4) (ix_ck (ix_ix z 20 b_75 (d.1 b_77 (ix_n x4))) (ix_lt (ix_di d b_75 (ix_n (d.1 b_77 (ix_n x4))) ((d.1 b_75 (ix_n (d.1 b_77 (ix_n x4)))) + 1)) (fun d_81 => ix_lt (x4 + 1) (fun x4_83 => rec82 x4_83 d_81))))))))
noncomputable def f_X9_learn_82 (n : Nat) (z : ix_Z)  (a0 : Nat) (x4 : Int32) (d : ix_D2) : Option (Int32 × ix_D2) := ix_fix (b_X9_learn_82 n z  a0) (fun _ _ => none) n x4 d
noncomputable def f_X9_learn (n : Nat) (z : ix_Z) (a0 : Nat) (x1 : Int32) (d : ix_D2) : Option (Int32 × ix_D2) :=
  ix_ck (ix_ok z [8] a0) (ix_bd1 (z.1 a0 0) (fun b_2 => ix_ck (ix_ok z [1] b_2) (ix_lt (d.1 b_2 13) (fun x2_5 => ix_bd2 (f_X9_walkBack n z a0 x1 x2_5 d) (fun r_9 d_7 => ix_bd1 (f_X9_makeFresh n z a0 r_9 d_7) (fun d_10 => ix_bd2 (f_X1_recordTakes n z b_2 (d_10.1 a0 14) d_10) (fun r_14 d_12 => ix_if (r_14 = 0) (some ((-1003), d_12)) (ix_bd1 (z.1 a0 11) (fun b_16 => ix_bd2 (f_X1_numberOf n z b_2 x1 d_12) (fun r_20 d_18 => ix_ck (ix_ix z 20 b_16 0) (ix_lt (ix_di d_18 b_16 (ix_n 0) r_20) (fun d_22 => ix_ck (ix_ix z 20 b_16 1) (ix_lt (ix_di d_22 b_16 (ix_n 1) x2_5) (fun d_25 => ix_bd2 (f_X9_raiseWeights n z a0 d_25) (fun r_29 d_27 => ix_ck (ix_ix z 20 b_16 3) (ix_lt (ix_di d_27 b_16 (ix_n 3) r_29) (fun d_31 => ix_ck (ix_ix z 20 b_16 4) (ix_lt (ix_di d_31 b_16 (ix_n 4) (d_31.1 a0 14)) (fun d_34 => f_X9_learn_82 n z  a0 0 d_34)))))))))))))))))))
set_option maxRecDepth 20000 in
theorem tb_X9_learn_82 {l : Launch} {p : Program} {e : Env} {s : State} {m : MethodId} {args : Array Value} {below : List Frame} {meth : Method} {c : Code} {K : ix_Cx} (hKp : ix_Kp K) {n : Nat} {z : ix_Z} (X : ix_X p s m args c K cX9_learn RX9 5) (hr : meth.sig.returnType = (some .int)) (hlk : meth.locks = false)  {a0 : Nat} {rec82 : Int32 → ix_D2 → Option (Int32 × ix_D2)} {r : Int32} {d1 : ix_D2} (hrec82 : ∀ (x4 : Int32) (d : ix_D2), rec82 x4 d = some (r, d1) → ix_G p l e (ix_rm 4 96 0 0) s m args below meth c (MQ below (ix_Post K (some (.int r)) (ix_w z d1)) args s 0 0 (ix_A K)) K 5 0 0 82 [(0, .ref (K.2.2.1 + a0)), (4, .int x4)] [] (ix_w z d)) {x4 : Int32} {d : ix_D2} (h : b_X9_learn_82 n z  a0 rec82 x4 d = some (r, d1)) : ix_G p l e (ix_rm 4 96 0 0) s m args below meth c (MQ below (ix_Post K (some (.int r)) (ix_w z d1)) args s 0 0 (ix_A K)) K 5 0 0 82 [(0, .ref (K.2.2.1 + a0)), (4, .int x4)] [] (ix_w z d) := by
  unfold b_X9_learn_82 at h
  refine ix_iload (i := 4) (j := 1) X (ix_tb_at tb_X9_learn 47 rfl) rfl (pc1 := 84) rfl ?_
  refine ix_aload_n (i := 0) (j := 0) X (ix_tb_at tb_X9_learn 48 rfl) rfl rfl (pc1 := 85) rfl ?_
  obtain ⟨k_36, h⟩ := ix_ck_some h
  refine iz_getI X fl_RX9_222 k_36 (ix_tb_at tb_X9_learn 49 rfl) (pc1 := 88) rfl ?_
  refine ix_icmp_ge (tgt := 113) X (ix_tb_at tb_X9_learn 50 rfl) (by decide) (pc1 := 91) rfl (fun q_37 => ?_) (fun q_37 => ?_)
  · have h := ix_ift q_37 h
    refine ix_aload_n (i := 0) (j := 0) X (ix_tb_at tb_X9_learn 64 rfl) rfl rfl (pc1 := 114) rfl ?_
    obtain ⟨d_38, h_39, h⟩ := ix_bd1_ex h
    refine ix_callV (As := []) (rest := []) (ci := 8) (T := TX9) (nf := 20) X mf_X9_goBack mi_X9_goBack ms_X9_goBack rfl (Nat.le_of_ble_eq_true rfl) ml_RX9_225 ⟨Nat.le_of_ble_eq_true rfl, Nat.le_of_ble_eq_true rfl⟩ ⟨Nat.le_of_ble_eq_true rfl, Nat.le_of_ble_eq_true rfl⟩ rfl (Nat.le_of_ble_eq_true rfl) (ix_tb_at tb_X9_learn 65 rfl) ⟨k_36.1, List.mem_singleton.mp k_36.2⟩ (c_X9_goBack hKp h_39) rfl (pc1 := 117) rfl ?_
    refine ix_aload_n (i := 0) (j := 0) X (ix_tb_at tb_X9_learn 66 rfl) rfl rfl (pc1 := 118) rfl ?_
    obtain ⟨b_40, q_41, h⟩ := ix_bd1_ex h
    refine iz_getR X fl_RX9_50 k_36 q_41 (ix_tb_at tb_X9_learn 67 rfl) (pc1 := 121) rfl ?_
    refine ix_iconst (v := 2) X (ix_tb_at tb_X9_learn 68 rfl) (by decide) (pc1 := 122) rfl ?_
    refine ix_aload_n (i := 0) (j := 0) X (ix_tb_at tb_X9_learn 69 rfl) rfl rfl (pc1 := 123) rfl ?_
    obtain ⟨b_42, q_43, h⟩ := ix_bd1_ex h
    refine iz_getR X fl_RX9_12 k_36 q_43 (ix_tb_at tb_X9_learn 70 rfl) (pc1 := 126) rfl ?_
    obtain ⟨k_44, h⟩ := ix_ck_some h
    refine iz_getI X fl_RX9_153 k_44 (ix_tb_at tb_X9_learn 71 rfl) (pc1 := 129) rfl ?_
    obtain ⟨k_45, h⟩ := ix_ck_some h
    obtain ⟨d_46, e_47, h⟩ := ix_lt_ex h
    refine iz_iast X k_45 (ix_tb_at tb_X9_learn 72 rfl) e_47 (pc1 := 130) rfl ?_
    refine ix_aload_n (i := 0) (j := 0) X (ix_tb_at tb_X9_learn 73 rfl) rfl rfl (pc1 := 131) rfl ?_
    obtain ⟨d_48, h_49, h⟩ := ix_bd1_ex h
    refine ix_callV (As := []) (rest := []) (ci := 8) (T := TX9) (nf := 20) X mf_X9_forgetSome mi_X9_forgetSome ms_X9_forgetSome rfl (Nat.le_of_ble_eq_true rfl) ml_RX9_228 ⟨Nat.le_of_ble_eq_true rfl, Nat.le_of_ble_eq_true rfl⟩ ⟨Nat.le_of_ble_eq_true rfl, Nat.le_of_ble_eq_true rfl⟩ rfl (Nat.le_of_ble_eq_true rfl) (ix_tb_at tb_X9_learn 74 rfl) ⟨k_36.1, List.mem_singleton.mp k_36.2⟩ (c_X9_forgetSome hKp h_49) rfl (pc1 := 134) rfl ?_
    refine ix_aload_n (i := 0) (j := 0) X (ix_tb_at tb_X9_learn 75 rfl) rfl rfl (pc1 := 135) rfl ?_
    obtain ⟨b_50, q_51, h⟩ := ix_bd1_ex h
    refine iz_getR X fl_RX9_35 k_36 q_51 (ix_tb_at tb_X9_learn 76 rfl) (pc1 := 138) rfl ?_
    refine ix_aload_n (i := 0) (j := 0) X (ix_tb_at tb_X9_learn 77 rfl) rfl rfl (pc1 := 139) rfl ?_
    obtain ⟨b_52, q_53, h⟩ := ix_bd1_ex h
    refine iz_getR X fl_RX9_47 k_36 q_53 (ix_tb_at tb_X9_learn 78 rfl) (pc1 := 142) rfl ?_
    refine ix_bipush (v := 8) X (ix_tb_at tb_X9_learn 79 rfl) (by decide) (pc1 := 144) rfl ?_
    obtain ⟨k_54, h⟩ := ix_ck_some h
    refine iz_iald X k_54 (ix_tb_at tb_X9_learn 80 rfl) (pc1 := 145) rfl ?_
    refine ix_iconst (v := 0) X (ix_tb_at tb_X9_learn 81 rfl) (by decide) (pc1 := 146) rfl ?_
    obtain ⟨k_55, h⟩ := ix_ck_some h
    obtain ⟨d_56, e_57, h⟩ := ix_lt_ex h
    refine iz_iast X k_55 (ix_tb_at tb_X9_learn 82 rfl) e_57 (pc1 := 147) rfl ?_
    refine ix_aload_n (i := 0) (j := 0) X (ix_tb_at tb_X9_learn 83 rfl) rfl rfl (pc1 := 148) rfl ?_
    refine ix_aload_n (i := 0) (j := 0) X (ix_tb_at tb_X9_learn 84 rfl) rfl rfl (pc1 := 149) rfl ?_
    refine iz_getR X fl_RX9_47 k_36 q_53 (ix_tb_at tb_X9_learn 85 rfl) (pc1 := 152) rfl ?_
    refine ix_bipush (v := 8) X (ix_tb_at tb_X9_learn 86 rfl) (by decide) (pc1 := 154) rfl ?_
    refine iz_iald X k_54 (ix_tb_at tb_X9_learn 87 rfl) (pc1 := 155) rfl ?_
    obtain ⟨d_58, h_59, h⟩ := ix_bd1_ex h
    refine ix_callV (As := [.int (d_56.1 b_52 (ix_n 8))]) (rest := []) (ci := 8) (T := TX9) (nf := 20) X mf_X9_keepSources mi_X9_keepSources ms_X9_keepSources rfl (Nat.le_of_ble_eq_true rfl) ml_RX9_231 ⟨Nat.le_of_ble_eq_true rfl, Nat.le_of_ble_eq_true rfl⟩ ⟨Nat.le_of_ble_eq_true rfl, Nat.le_of_ble_eq_true rfl⟩ rfl (Nat.le_of_ble_eq_true rfl) (ix_tb_at tb_X9_learn 88 rfl) ⟨k_36.1, List.mem_singleton.mp k_36.2⟩ (c_X9_keepSources hKp h_59) rfl (pc1 := 158) rfl ?_
    refine ix_aload_n (i := 0) (j := 0) X (ix_tb_at tb_X9_learn 89 rfl) rfl rfl (pc1 := 159) rfl ?_
    refine iz_getR X fl_RX9_12 k_36 q_43 (ix_tb_at tb_X9_learn 90 rfl) (pc1 := 162) rfl ?_
    refine ix_aload_n (i := 0) (j := 0) X (ix_tb_at tb_X9_learn 91 rfl) rfl rfl (pc1 := 163) rfl ?_
    obtain ⟨b_60, q_61, h⟩ := ix_bd1_ex h
    refine iz_getR X fl_RX9_56 k_36 q_61 (ix_tb_at tb_X9_learn 92 rfl) (pc1 := 166) rfl ?_
    refine ix_iconst (v := 0) X (ix_tb_at tb_X9_learn 93 rfl) (by decide) (pc1 := 167) rfl ?_
    refine ix_aload_n (i := 0) (j := 0) X (ix_tb_at tb_X9_learn 94 rfl) rfl rfl (pc1 := 168) rfl ?_
    refine iz_getI X fl_RX9_128 k_36 (ix_tb_at tb_X9_learn 95 rfl) (pc1 := 171) rfl ?_
    obtain ⟨d_62, h_63, h⟩ := ix_bd1_ex h
    refine ix_callV (As := [.ref (K.2.2.1 + b_60), .int 0, .int (d_58.1 a0 14)]) (rest := []) (ci := 1) (T := TX1) (nf := 17) X mf_X1_lay mi_X1_lay ms_X1_lay rfl (Nat.le_of_ble_eq_true rfl) ml_RX9_234 ⟨Nat.le_of_ble_eq_true rfl, Nat.le_of_ble_eq_true rfl⟩ ⟨Nat.le_of_ble_eq_true rfl, Nat.le_of_ble_eq_true rfl⟩ rfl (Nat.le_of_ble_eq_true rfl) (ix_tb_at tb_X9_learn 96 rfl) ⟨k_44.1, List.mem_singleton.mp k_44.2⟩ (c_X1_lay hKp h_63) rfl (pc1 := 174) rfl ?_
    refine ix_aload_n (i := 0) (j := 0) X (ix_tb_at tb_X9_learn 97 rfl) rfl rfl (pc1 := 175) rfl ?_
    refine iz_getR X fl_RX9_47 k_36 q_53 (ix_tb_at tb_X9_learn 98 rfl) (pc1 := 178) rfl ?_
    refine ix_iconst (v := 1) X (ix_tb_at tb_X9_learn 99 rfl) (by decide) (pc1 := 179) rfl ?_
    refine ix_dup2 X (ix_tb_at tb_X9_learn 100 rfl) rfl rfl (pc1 := 180) rfl ?_
    obtain ⟨k_64, h⟩ := ix_ck_some h
    refine iz_iald X k_64 (ix_tb_at tb_X9_learn 101 rfl) (pc1 := 181) rfl ?_
    refine ix_iconst (v := 1) X (ix_tb_at tb_X9_learn 102 rfl) (by decide) (pc1 := 182) rfl ?_
    refine ix_iadd X (ix_tb_at tb_X9_learn 103 rfl) (pc1 := 183) rfl ?_
    obtain ⟨d_65, e_66, h⟩ := ix_lt_ex h
    refine iz_iast X k_64 (ix_tb_at tb_X9_learn 104 rfl) e_66 (pc1 := 184) rfl ?_
    refine ix_aload_n (i := 0) (j := 0) X (ix_tb_at tb_X9_learn 105 rfl) rfl rfl (pc1 := 185) rfl ?_
    refine iz_getR X fl_RX9_47 k_36 q_53 (ix_tb_at tb_X9_learn 106 rfl) (pc1 := 188) rfl ?_
    refine ix_iconst (v := 4) X (ix_tb_at tb_X9_learn 107 rfl) (by decide) (pc1 := 189) rfl ?_
    refine ix_dup2 X (ix_tb_at tb_X9_learn 108 rfl) rfl rfl (pc1 := 190) rfl ?_
    obtain ⟨k_67, h⟩ := ix_ck_some h
    refine iz_iald X k_67 (ix_tb_at tb_X9_learn 109 rfl) (pc1 := 191) rfl ?_
    refine ix_iconst (v := 1) X (ix_tb_at tb_X9_learn 110 rfl) (by decide) (pc1 := 192) rfl ?_
    refine ix_iadd X (ix_tb_at tb_X9_learn 111 rfl) (pc1 := 193) rfl ?_
    obtain ⟨d_68, e_69, h⟩ := ix_lt_ex h
    refine iz_iast X k_67 (ix_tb_at tb_X9_learn 112 rfl) e_69 (pc1 := 194) rfl ?_
    refine ix_aload_n (i := 0) (j := 0) X (ix_tb_at tb_X9_learn 113 rfl) rfl rfl (pc1 := 195) rfl ?_
    refine iz_getR X fl_RX9_47 k_36 q_53 (ix_tb_at tb_X9_learn 114 rfl) (pc1 := 198) rfl ?_
    refine ix_bipush (v := 7) X (ix_tb_at tb_X9_learn 115 rfl) (by decide) (pc1 := 200) rfl ?_
    refine ix_dup2 X (ix_tb_at tb_X9_learn 116 rfl) rfl rfl (pc1 := 201) rfl ?_
    obtain ⟨k_70, h⟩ := ix_ck_some h
    refine iz_iald X k_70 (ix_tb_at tb_X9_learn 117 rfl) (pc1 := 202) rfl ?_
    refine ix_iconst (v := 1) X (ix_tb_at tb_X9_learn 118 rfl) (by decide) (pc1 := 203) rfl ?_
    refine ix_iadd X (ix_tb_at tb_X9_learn 119 rfl) (pc1 := 204) rfl ?_
    obtain ⟨d_71, e_72, h⟩ := ix_lt_ex h
    refine iz_iast X k_70 (ix_tb_at tb_X9_learn 120 rfl) e_72 (pc1 := 205) rfl ?_
    refine ix_aload_n (i := 0) (j := 0) X (ix_tb_at tb_X9_learn 121 rfl) rfl rfl (pc1 := 206) rfl ?_
    refine iz_getR X fl_RX9_47 k_36 q_53 (ix_tb_at tb_X9_learn 122 rfl) (pc1 := 209) rfl ?_
    refine ix_bipush (v := 8) X (ix_tb_at tb_X9_learn 123 rfl) (by decide) (pc1 := 211) rfl ?_
    refine ix_dup2 X (ix_tb_at tb_X9_learn 124 rfl) rfl rfl (pc1 := 212) rfl ?_
    refine iz_iald X k_54 (ix_tb_at tb_X9_learn 125 rfl) (pc1 := 213) rfl ?_
    refine ix_iconst (v := 1) X (ix_tb_at tb_X9_learn 126 rfl) (by decide) (pc1 := 214) rfl ?_
    refine ix_iadd X (ix_tb_at tb_X9_learn 127 rfl) (pc1 := 215) rfl ?_
    obtain ⟨d_73, e_74, h⟩ := ix_lt_ex h
    refine iz_iast X k_54 (ix_tb_at tb_X9_learn 128 rfl) e_74 (pc1 := 216) rfl ?_
    refine ix_iconst (v := 2) X (ix_tb_at tb_X9_learn 129 rfl) (by decide) (pc1 := 217) rfl ?_
    exact ix_iret X hr hlk (ix_r2 (f := fun r => some (.int r)) (g := ix_w z) h) (ix_tb_at tb_X9_learn 130 rfl)
  · have h := ix_iff q_37 h
    refine ix_aload_n (i := 0) (j := 0) X (ix_tb_at tb_X9_learn 51 rfl) rfl rfl (pc1 := 92) rfl ?_
    obtain ⟨b_75, q_76, h⟩ := ix_bd1_ex h
    refine iz_getR X fl_RX9_35 k_36 q_76 (ix_tb_at tb_X9_learn 52 rfl) (pc1 := 95) rfl ?_
    refine ix_aload_n (i := 0) (j := 0) X (ix_tb_at tb_X9_learn 53 rfl) rfl rfl (pc1 := 96) rfl ?_
    obtain ⟨b_77, q_78, h⟩ := ix_bd1_ex h
    refine iz_getR X fl_RX9_59 k_36 q_78 (ix_tb_at tb_X9_learn 54 rfl) (pc1 := 99) rfl ?_
    refine ix_iload (i := 4) (j := 1) X (ix_tb_at tb_X9_learn 55 rfl) rfl (pc1 := 101) rfl ?_
    obtain ⟨k_79, h⟩ := ix_ck_some h
    refine iz_iald X k_79 (ix_tb_at tb_X9_learn 56 rfl) (pc1 := 102) rfl ?_
    refine ix_dup2 X (ix_tb_at tb_X9_learn 57 rfl) rfl rfl (pc1 := 103) rfl ?_
    obtain ⟨k_80, h⟩ := ix_ck_some h
    refine iz_iald X k_80 (ix_tb_at tb_X9_learn 58 rfl) (pc1 := 104) rfl ?_
    refine ix_iconst (v := 1) X (ix_tb_at tb_X9_learn 59 rfl) (by decide) (pc1 := 105) rfl ?_
    refine ix_iadd X (ix_tb_at tb_X9_learn 60 rfl) (pc1 := 106) rfl ?_
    obtain ⟨d_81, e_82, h⟩ := ix_lt_ex h
    refine iz_iast X k_80 (ix_tb_at tb_X9_learn 61 rfl) e_82 (pc1 := 107) rfl ?_
    obtain ⟨x4_83, e_84, h⟩ := ix_lt_ex h
    refine ix_iinc (i := 4) (j := 1) (v := x4_83) (L1 := [(4, .int x4_83), (0, .ref (K.2.2.1 + a0))]) X (ix_tb_at tb_X9_learn 62 rfl) rfl (by rw [oi_1]; exact e_84.symm) (Nat.le_of_ble_eq_true rfl) rfl (pc1 := 110) rfl ?_
    refine ix_goto (tgt := 82) X (ix_tb_at tb_X9_learn 63 rfl) (by decide) ?_
    refine ix_sub (L1 := [(0, .ref (K.2.2.1 + a0)), (4, .int x4_83)]) [1, 0] rfl ?_
    exact hrec82 x4_83 d_81 h
theorem t_X9_learn_82 {l : Launch} {p : Program} {e : Env} {s : State} {m : MethodId} {args : Array Value} {below : List Frame} {meth : Method} {c : Code} {K : ix_Cx} (hKp : ix_Kp K) {n : Nat} {z : ix_Z} (X : ix_X p s m args c K cX9_learn RX9 5) (hr : meth.sig.returnType = (some .int)) (hlk : meth.locks = false)  {a0 : Nat} {r : Int32} {d1 : ix_D2}  {x4 : Int32} {d : ix_D2} (h : f_X9_learn_82 n z  a0 x4 d = some (r, d1)) : ix_G p l e (ix_rm 4 96 0 0) s m args below meth c (MQ below (ix_Post K (some (.int r)) (ix_w z d1)) args s 0 0 (ix_A K)) K 5 0 0 82 [(0, .ref (K.2.2.1 + a0)), (4, .int x4)] [] (ix_w z d) := by
  have key : ∀ (f : Nat) (x4 : Int32) (d : ix_D2), ix_fix (b_X9_learn_82 n z  a0) (fun _ _ => none) f x4 d = some (r, d1) → ix_G p l e (ix_rm 4 96 0 0) s m args below meth c (MQ below (ix_Post K (some (.int r)) (ix_w z d1)) args s 0 0 (ix_A K)) K 5 0 0 82 [(0, .ref (K.2.2.1 + a0)), (4, .int x4)] [] (ix_w z d) := by
    intro f
    induction f with
    | zero =>
      intro x4 d h
      have h : (none : Option (Int32 × ix_D2)) = some (r, d1) := h
      cases h
    | succ f ih =>
      intro x4 d h
      exact tb_X9_learn_82 hKp X hr hlk (rec82 := ix_fix (b_X9_learn_82 n z  a0) (fun _ _ => none) f)  ih h
  exact key n x4 d h
set_option maxRecDepth 20000 in
theorem c_X9_learn {l : Launch} {K : ix_Cx} (hKp : ix_Kp K) {n : Nat} {z : ix_Z} {a0 : Nat} {x1 : Int32} {d : ix_D2} {r : Int32} {d1 : ix_D2} (h : f_X9_learn n z a0 x1 d = some (r, d1)) : ix_M l K yX9_learn cX9_learn 5 (some .int) 4 96 0 0 [.ref (K.2.2.1 + a0), .int x1] (ix_w z d) (some (.int r)) (ix_w z d1) := by
  refine ix_met mf_X9_learn hKp (Nat.le_of_ble_eq_true rfl) ?_
  intro p e s m args below meth c hr hlk hnm X
  have X : ix_X p s m args c K cX9_learn RX9 5 := X
  show ix_G p l e (ix_rm 4 96 0 0) s m args below meth c (MQ below (ix_Post K (some (.int r)) (ix_w z d1)) args s 0 0 (ix_A K)) K 5 0 0 0 [(0, .ref (K.2.2.1 + a0)), (1, .int x1)] [] (ix_w z d)
  unfold f_X9_learn at h
  refine ix_aload_n (i := 0) (j := 0) X (ix_tb_at tb_X9_learn 0 rfl) rfl rfl (pc1 := 1) rfl ?_
  obtain ⟨k_1, h⟩ := ix_ck_some h
  obtain ⟨b_2, q_3, h⟩ := ix_bd1_ex h
  refine iz_getR X fl_RX9_12 k_1 q_3 (ix_tb_at tb_X9_learn 1 rfl) (pc1 := 4) rfl ?_
  obtain ⟨k_4, h⟩ := ix_ck_some h
  refine iz_getI X fl_RX9_153 k_4 (ix_tb_at tb_X9_learn 2 rfl) (pc1 := 7) rfl ?_
  obtain ⟨x2_5, e_6, h⟩ := ix_lt_ex h
  refine ix_nmi e_6 ?_
  refine ix_istore_n (i := 2) (L1 := [(2, .int x2_5), (0, .ref (K.2.2.1 + a0)), (1, .int x1)]) X (ix_tb_at tb_X9_learn 3 rfl) rfl (Nat.le_of_ble_eq_true rfl) rfl (pc1 := 8) rfl ?_
  refine ix_aload_n (i := 0) (j := 1) X (ix_tb_at tb_X9_learn 4 rfl) rfl rfl (pc1 := 9) rfl ?_
  refine ix_iload_n (i := 1) (j := 2) X (ix_tb_at tb_X9_learn 5 rfl) rfl rfl (pc1 := 10) rfl ?_
  refine ix_iload_n (i := 2) (j := 0) X (ix_tb_at tb_X9_learn 6 rfl) rfl rfl (pc1 := 11) rfl ?_
  obtain ⟨r_9, d_7, h_8, h⟩ := ix_bd2_ex h
  refine ix_callV (As := [.int x1, .int x2_5]) (rest := []) (ci := 8) (T := TX9) (nf := 20) X mf_X9_walkBack mi_X9_walkBack ms_X9_walkBack rfl (Nat.le_of_ble_eq_true rfl) ml_RX9_207 ⟨Nat.le_of_ble_eq_true rfl, Nat.le_of_ble_eq_true rfl⟩ ⟨Nat.le_of_ble_eq_true rfl, Nat.le_of_ble_eq_true rfl⟩ rfl (Nat.le_of_ble_eq_true rfl) (ix_tb_at tb_X9_learn 7 rfl) ⟨k_1.1, List.mem_singleton.mp k_1.2⟩ (c_X9_walkBack hKp h_8) rfl (pc1 := 14) rfl ?_
  refine ix_istore_n (i := 3) (L1 := [(3, .int r_9), (2, .int x2_5), (0, .ref (K.2.2.1 + a0)), (1, .int x1)]) X (ix_tb_at tb_X9_learn 8 rfl) rfl (Nat.le_of_ble_eq_true rfl) rfl (pc1 := 15) rfl ?_
  refine ix_aload_n (i := 0) (j := 2) X (ix_tb_at tb_X9_learn 9 rfl) rfl rfl (pc1 := 16) rfl ?_
  refine ix_iload_n (i := 3) (j := 0) X (ix_tb_at tb_X9_learn 10 rfl) rfl rfl (pc1 := 17) rfl ?_
  obtain ⟨d_10, h_11, h⟩ := ix_bd1_ex h
  refine ix_callV (As := [.int r_9]) (rest := []) (ci := 8) (T := TX9) (nf := 20) X mf_X9_makeFresh mi_X9_makeFresh ms_X9_makeFresh rfl (Nat.le_of_ble_eq_true rfl) ml_RX9_210 ⟨Nat.le_of_ble_eq_true rfl, Nat.le_of_ble_eq_true rfl⟩ ⟨Nat.le_of_ble_eq_true rfl, Nat.le_of_ble_eq_true rfl⟩ rfl (Nat.le_of_ble_eq_true rfl) (ix_tb_at tb_X9_learn 11 rfl) ⟨k_1.1, List.mem_singleton.mp k_1.2⟩ (c_X9_makeFresh hKp h_11) rfl (pc1 := 20) rfl ?_
  refine ix_aload_n (i := 0) (j := 2) X (ix_tb_at tb_X9_learn 12 rfl) rfl rfl (pc1 := 21) rfl ?_
  refine iz_getR X fl_RX9_12 k_1 q_3 (ix_tb_at tb_X9_learn 13 rfl) (pc1 := 24) rfl ?_
  refine ix_aload_n (i := 0) (j := 2) X (ix_tb_at tb_X9_learn 14 rfl) rfl rfl (pc1 := 25) rfl ?_
  refine iz_getI X fl_RX9_128 k_1 (ix_tb_at tb_X9_learn 15 rfl) (pc1 := 28) rfl ?_
  obtain ⟨r_14, d_12, h_13, h⟩ := ix_bd2_ex h
  refine ix_callV (As := [.int (d_10.1 a0 14)]) (rest := []) (ci := 1) (T := TX1) (nf := 17) X mf_X1_recordTakes mi_X1_recordTakes ms_X1_recordTakes rfl (Nat.le_of_ble_eq_true rfl) ml_RX9_213 ⟨Nat.le_of_ble_eq_true rfl, Nat.le_of_ble_eq_true rfl⟩ ⟨Nat.le_of_ble_eq_true rfl, Nat.le_of_ble_eq_true rfl⟩ rfl (Nat.le_of_ble_eq_true rfl) (ix_tb_at tb_X9_learn 16 rfl) ⟨k_4.1, List.mem_singleton.mp k_4.2⟩ (c_X1_recordTakes hKp h_13) rfl (pc1 := 31) rfl ?_
  refine ix_if_ne (tgt := 38) X (ix_tb_at tb_X9_learn 17 rfl) (by decide) (pc1 := 34) rfl (fun q_15 => ?_) (fun q_15 => ?_)
  · have h := ix_iff q_15 h
    refine ix_aload_n (i := 0) (j := 2) X (ix_tb_at tb_X9_learn 20 rfl) rfl rfl (pc1 := 39) rfl ?_
    obtain ⟨b_16, q_17, h⟩ := ix_bd1_ex h
    refine iz_getR X fl_RX9_50 k_1 q_17 (ix_tb_at tb_X9_learn 21 rfl) (pc1 := 42) rfl ?_
    refine ix_iconst (v := 0) X (ix_tb_at tb_X9_learn 22 rfl) (by decide) (pc1 := 43) rfl ?_
    refine ix_aload_n (i := 0) (j := 2) X (ix_tb_at tb_X9_learn 23 rfl) rfl rfl (pc1 := 44) rfl ?_
    refine iz_getR X fl_RX9_12 k_1 q_3 (ix_tb_at tb_X9_learn 24 rfl) (pc1 := 47) rfl ?_
    refine ix_iload_n (i := 1) (j := 3) X (ix_tb_at tb_X9_learn 25 rfl) rfl rfl (pc1 := 48) rfl ?_
    obtain ⟨r_20, d_18, h_19, h⟩ := ix_bd2_ex h
    refine ix_callV (As := [.int x1]) (rest := [.int 0, .ref (K.2.2.1 + b_16)]) (ci := 1) (T := TX1) (nf := 17) X mf_X1_numberOf mi_X1_numberOf ms_X1_numberOf rfl (Nat.le_of_ble_eq_true rfl) ml_RX9_216 ⟨Nat.le_of_ble_eq_true rfl, Nat.le_of_ble_eq_true rfl⟩ ⟨Nat.le_of_ble_eq_true rfl, Nat.le_of_ble_eq_true rfl⟩ rfl (Nat.le_of_ble_eq_true rfl) (ix_tb_at tb_X9_learn 26 rfl) ⟨k_4.1, List.mem_singleton.mp k_4.2⟩ (c_X1_numberOf hKp h_19) rfl (pc1 := 51) rfl ?_
    obtain ⟨k_21, h⟩ := ix_ck_some h
    obtain ⟨d_22, e_23, h⟩ := ix_lt_ex h
    refine iz_iast X k_21 (ix_tb_at tb_X9_learn 27 rfl) e_23 (pc1 := 52) rfl ?_
    refine ix_aload_n (i := 0) (j := 2) X (ix_tb_at tb_X9_learn 28 rfl) rfl rfl (pc1 := 53) rfl ?_
    refine iz_getR X fl_RX9_50 k_1 q_17 (ix_tb_at tb_X9_learn 29 rfl) (pc1 := 56) rfl ?_
    refine ix_iconst (v := 1) X (ix_tb_at tb_X9_learn 30 rfl) (by decide) (pc1 := 57) rfl ?_
    refine ix_iload_n (i := 2) (j := 1) X (ix_tb_at tb_X9_learn 31 rfl) rfl rfl (pc1 := 58) rfl ?_
    obtain ⟨k_24, h⟩ := ix_ck_some h
    obtain ⟨d_25, e_26, h⟩ := ix_lt_ex h
    refine iz_iast X k_24 (ix_tb_at tb_X9_learn 32 rfl) e_26 (pc1 := 59) rfl ?_
    refine ix_aload_n (i := 0) (j := 2) X (ix_tb_at tb_X9_learn 33 rfl) rfl rfl (pc1 := 60) rfl ?_
    refine iz_getR X fl_RX9_50 k_1 q_17 (ix_tb_at tb_X9_learn 34 rfl) (pc1 := 63) rfl ?_
    refine ix_iconst (v := 3) X (ix_tb_at tb_X9_learn 35 rfl) (by decide) (pc1 := 64) rfl ?_
    refine ix_aload_n (i := 0) (j := 2) X (ix_tb_at tb_X9_learn 36 rfl) rfl rfl (pc1 := 65) rfl ?_
    obtain ⟨r_29, d_27, h_28, h⟩ := ix_bd2_ex h
    refine ix_callV (As := []) (rest := [.int 3, .ref (K.2.2.1 + b_16)]) (ci := 8) (T := TX9) (nf := 20) X mf_X9_raiseWeights mi_X9_raiseWeights ms_X9_raiseWeights rfl (Nat.le_of_ble_eq_true rfl) ml_RX9_219 ⟨Nat.le_of_ble_eq_true rfl, Nat.le_of_ble_eq_true rfl⟩ ⟨Nat.le_of_ble_eq_true rfl, Nat.le_of_ble_eq_true rfl⟩ rfl (Nat.le_of_ble_eq_true rfl) (ix_tb_at tb_X9_learn 37 rfl) ⟨k_1.1, List.mem_singleton.mp k_1.2⟩ (c_X9_raiseWeights hKp h_28) rfl (pc1 := 68) rfl ?_
    obtain ⟨k_30, h⟩ := ix_ck_some h
    obtain ⟨d_31, e_32, h⟩ := ix_lt_ex h
    refine iz_iast X k_30 (ix_tb_at tb_X9_learn 38 rfl) e_32 (pc1 := 69) rfl ?_
    refine ix_aload_n (i := 0) (j := 2) X (ix_tb_at tb_X9_learn 39 rfl) rfl rfl (pc1 := 70) rfl ?_
    refine iz_getR X fl_RX9_50 k_1 q_17 (ix_tb_at tb_X9_learn 40 rfl) (pc1 := 73) rfl ?_
    refine ix_iconst (v := 4) X (ix_tb_at tb_X9_learn 41 rfl) (by decide) (pc1 := 74) rfl ?_
    refine ix_aload_n (i := 0) (j := 2) X (ix_tb_at tb_X9_learn 42 rfl) rfl rfl (pc1 := 75) rfl ?_
    refine iz_getI X fl_RX9_128 k_1 (ix_tb_at tb_X9_learn 43 rfl) (pc1 := 78) rfl ?_
    obtain ⟨k_33, h⟩ := ix_ck_some h
    obtain ⟨d_34, e_35, h⟩ := ix_lt_ex h
    refine iz_iast X k_33 (ix_tb_at tb_X9_learn 44 rfl) e_35 (pc1 := 79) rfl ?_
    refine ix_iconst (v := 0) X (ix_tb_at tb_X9_learn 45 rfl) (by decide) (pc1 := 80) rfl ?_
    refine ix_istore (i := 4) (L1 := [(4, .int 0), (3, .int r_9), (2, .int x2_5), (0, .ref (K.2.2.1 + a0)), (1, .int x1)]) X (ix_tb_at tb_X9_learn 46 rfl) (Nat.le_of_ble_eq_true rfl) rfl (pc1 := 82) rfl ?_
    refine ix_sub (L1 := [(0, .ref (K.2.2.1 + a0)), (4, .int 0)]) [3, 0] rfl ?_
    exact t_X9_learn_82 hKp X hr hlk  h
  · have h := ix_ift q_15 h
    refine ix_sipush (v := (-1003)) X (ix_tb_at tb_X9_learn 18 rfl) (by decide) (pc1 := 37) rfl ?_
    exact ix_iret X hr hlk (ix_r2 (f := fun r => some (.int r)) (g := ix_w z) h) (ix_tb_at tb_X9_learn 19 rfl)
def tab_X9_keepNameSources : List (Nat × Instr × Nat) := [(0, .aload_n 0, 1), (1, .getfield 44, 3), (4, .lconst 0, 1), (5, .invokestatic 238, 3), (8, .iconst 0, 1), (9, .istore_n 3, 1), (10, .iload_n 3, 1), (11, .bipush 8, 2), (13, .if_icmp .ge 21, 3), (16, .aload_n 0, 1), (17, .getfield 41, 3), (20, .iload_n 1, 1), (21, .bipush 8, 2), (23, .imul, 1), (24, .iload_n 3, 1), (25, .iadd, 1), (26, .lconst 0, 1), (27, .lastore, 1), (28, .iinc 3 1, 3), (31, .goto (-21), 3), (34, .aload_n 0, 1), (35, .iload_n 2, 1), (36, .invokevirtual 302, 3), (39, .aload_n 0, 1), (40, .getfield 44, 3), (43, .iconst 0, 1), (44, .aload_n 0, 1), (45, .getfield 41, 3), (48, .iload_n 1, 1), (49, .bipush 8, 2), (51, .imul, 1), (52, .bipush 8, 2), (54, .invokestatic 316, 3), (57, .return_, 1)]
theorem tb_X9_keepNameSources : ix_tab cX9_keepNameSources tab_X9_keepNameSources := by
  unfold ix_tab
  decide +kernel
noncomputable def b_X9_keepNameSources_10 (n : Nat) (z : ix_Z)  (a0 : Nat) (x1 : Int32) (x2 : Int32) (rec10 : Int32 → ix_D2 → Option (ix_D2)) (x3 : Int32) (d : ix_D2) : Option (ix_D2) :=
  ix_if (8 ≤ x3) (ix_ck (ix_ok z [8] a0) (ix_bd1 (f_X9_gatherWhole n z a0 x2 d) (fun d_7 => ix_bd1 (z.1 a0 9) (fun b_10 => ix_bd1 (z.1 a0 8) (fun b_12 => ix_ck (ix_cpk z 23 b_10 0 b_12 (x1 * 8) 8) (ix_lt (ix_cpJ d_7 b_10 b_12 (ix_n 0) (ix_n (x1 * 8)) (ix_n 8)) (fun d_15 => some d_15))))))) (ix_ck (ix_ok z [8] a0) (ix_bd1 (z.1 a0 8) (fun b_18 => ix_ck (ix_ix z 23 b_18 ((x1 * 8) + x3)) (ix_lt (ix_dj d b_18 (ix_n ((x1 * 8) + x3)) 0) (fun d_21 => ix_lt (x3 + 1) (fun x3_23 => rec10 x3_23 d_21))))))
noncomputable def f_X9_keepNameSources_10 (n : Nat) (z : ix_Z)  (a0 : Nat) (x1 : Int32) (x2 : Int32) (x3 : Int32) (d : ix_D2) : Option (ix_D2) := ix_fix (b_X9_keepNameSources_10 n z  a0 x1 x2) (fun _ _ => none) n x3 d
noncomputable def f_X9_keepNameSources (n : Nat) (z : ix_Z) (a0 : Nat) (x1 : Int32) (x2 : Int32) (d : ix_D2) : Option (ix_D2) :=
  ix_ck (ix_ok z [8] a0) (ix_bd1 (z.1 a0 9) (fun b_2 => ix_bd1 (f_J7_fill_d0a16 n z b_2 0 d) (fun d_4 => f_X9_keepNameSources_10 n z  a0 x1 x2 0 d_4)))
set_option maxRecDepth 20000 in
theorem tb_X9_keepNameSources_10 {l : Launch} {p : Program} {e : Env} {s : State} {m : MethodId} {args : Array Value} {below : List Frame} {meth : Method} {c : Code} {K : ix_Cx} (hKp : ix_Kp K) {n : Nat} {z : ix_Z} (hsz : s.heap.size + 0 = K.2.2.1 + z.2.2) (X : ix_X p s m args c K cX9_keepNameSources RX9 4) (hr : meth.sig.returnType = (none : Option Jvm.ClassFile.FieldType)) (hlk : meth.locks = false)  {a0 : Nat} {x1 : Int32} {x2 : Int32} {rec10 : Int32 → ix_D2 → Option (ix_D2)} {d1 : ix_D2} (hrec10 : ∀ (x3 : Int32) (d : ix_D2), rec10 x3 d = some d1 → ix_G p l e (ix_rm 3 67 0 0) s m args below meth c (MQ below (ix_Post K none (ix_w z d1)) args s 0 0 (ix_A K)) K 4 0 0 10 [(0, .ref (K.2.2.1 + a0)), (1, .int x1), (2, .int x2), (3, .int x3)] [] (ix_w z d)) {x3 : Int32} {d : ix_D2} (h : b_X9_keepNameSources_10 n z  a0 x1 x2 rec10 x3 d = some d1) : ix_G p l e (ix_rm 3 67 0 0) s m args below meth c (MQ below (ix_Post K none (ix_w z d1)) args s 0 0 (ix_A K)) K 4 0 0 10 [(0, .ref (K.2.2.1 + a0)), (1, .int x1), (2, .int x2), (3, .int x3)] [] (ix_w z d) := by
  unfold b_X9_keepNameSources_10 at h
  refine ix_iload_n (i := 3) (j := 3) X (ix_tb_at tb_X9_keepNameSources 6 rfl) rfl rfl (pc1 := 11) rfl ?_
  refine ix_bipush (v := 8) X (ix_tb_at tb_X9_keepNameSources 7 rfl) (by decide) (pc1 := 13) rfl ?_
  refine ix_icmp_ge (tgt := 34) X (ix_tb_at tb_X9_keepNameSources 8 rfl) (by decide) (pc1 := 16) rfl (fun q_6 => ?_) (fun q_6 => ?_)
  · have h := ix_ift q_6 h
    refine ix_aload_n (i := 0) (j := 0) X (ix_tb_at tb_X9_keepNameSources 20 rfl) rfl rfl (pc1 := 35) rfl ?_
    refine ix_iload_n (i := 2) (j := 2) X (ix_tb_at tb_X9_keepNameSources 21 rfl) rfl rfl (pc1 := 36) rfl ?_
    obtain ⟨k_9, h⟩ := ix_ck_some h
    obtain ⟨d_7, h_8, h⟩ := ix_bd1_ex h
    refine ix_callV (As := [.int x2]) (rest := []) (ci := 8) (T := TX9) (nf := 20) X mf_X9_gatherWhole mi_X9_gatherWhole ms_X9_gatherWhole rfl (Nat.le_of_ble_eq_true rfl) ml_RX9_302 ⟨Nat.le_of_ble_eq_true rfl, Nat.le_of_ble_eq_true rfl⟩ ⟨Nat.le_of_ble_eq_true rfl, Nat.le_of_ble_eq_true rfl⟩ rfl (Nat.le_of_ble_eq_true rfl) (ix_tb_at tb_X9_keepNameSources 22 rfl) ⟨k_9.1, List.mem_singleton.mp k_9.2⟩ (c_X9_gatherWhole hKp h_8) rfl (pc1 := 39) rfl ?_
    refine ix_aload_n (i := 0) (j := 0) X (ix_tb_at tb_X9_keepNameSources 23 rfl) rfl rfl (pc1 := 40) rfl ?_
    obtain ⟨b_10, q_11, h⟩ := ix_bd1_ex h
    refine iz_getR X fl_RX9_44 k_9 q_11 (ix_tb_at tb_X9_keepNameSources 24 rfl) (pc1 := 43) rfl ?_
    refine ix_iconst (v := 0) X (ix_tb_at tb_X9_keepNameSources 25 rfl) (by decide) (pc1 := 44) rfl ?_
    refine ix_aload_n (i := 0) (j := 0) X (ix_tb_at tb_X9_keepNameSources 26 rfl) rfl rfl (pc1 := 45) rfl ?_
    obtain ⟨b_12, q_13, h⟩ := ix_bd1_ex h
    refine iz_getR X fl_RX9_41 k_9 q_13 (ix_tb_at tb_X9_keepNameSources 27 rfl) (pc1 := 48) rfl ?_
    refine ix_iload_n (i := 1) (j := 1) X (ix_tb_at tb_X9_keepNameSources 28 rfl) rfl rfl (pc1 := 49) rfl ?_
    refine ix_bipush (v := 8) X (ix_tb_at tb_X9_keepNameSources 29 rfl) (by decide) (pc1 := 51) rfl ?_
    refine ix_imul X (ix_tb_at tb_X9_keepNameSources 30 rfl) (pc1 := 52) rfl ?_
    refine ix_bipush (v := 8) X (ix_tb_at tb_X9_keepNameSources 31 rfl) (by decide) (pc1 := 54) rfl ?_
    obtain ⟨k_14, h⟩ := ix_ck_some h
    obtain ⟨d_15, e_16, h⟩ := ix_lt_ex h
    refine iz_copyJ X hsz ml_RX9_316 k_14 (Nat.le_of_ble_eq_true rfl) (Nat.le_of_ble_eq_true rfl) (ix_tb_at tb_X9_keepNameSources 32 rfl) e_16 (pc1 := 57) rfl ?_
    exact ix_vret X hr hlk (ix_r1 (g := ix_w z) h) (ix_tb_at tb_X9_keepNameSources 33 rfl)
  · have h := ix_iff q_6 h
    refine ix_aload_n (i := 0) (j := 0) X (ix_tb_at tb_X9_keepNameSources 9 rfl) rfl rfl (pc1 := 17) rfl ?_
    obtain ⟨k_17, h⟩ := ix_ck_some h
    obtain ⟨b_18, q_19, h⟩ := ix_bd1_ex h
    refine iz_getR X fl_RX9_41 k_17 q_19 (ix_tb_at tb_X9_keepNameSources 10 rfl) (pc1 := 20) rfl ?_
    refine ix_iload_n (i := 1) (j := 1) X (ix_tb_at tb_X9_keepNameSources 11 rfl) rfl rfl (pc1 := 21) rfl ?_
    refine ix_bipush (v := 8) X (ix_tb_at tb_X9_keepNameSources 12 rfl) (by decide) (pc1 := 23) rfl ?_
    refine ix_imul X (ix_tb_at tb_X9_keepNameSources 13 rfl) (pc1 := 24) rfl ?_
    refine ix_iload_n (i := 3) (j := 3) X (ix_tb_at tb_X9_keepNameSources 14 rfl) rfl rfl (pc1 := 25) rfl ?_
    refine ix_iadd X (ix_tb_at tb_X9_keepNameSources 15 rfl) (pc1 := 26) rfl ?_
    refine ix_lconst (v := 0) X (ix_tb_at tb_X9_keepNameSources 16 rfl) (by decide) (pc1 := 27) rfl ?_
    obtain ⟨k_20, h⟩ := ix_ck_some h
    obtain ⟨d_21, e_22, h⟩ := ix_lt_ex h
    refine iz_last X k_20 (ix_tb_at tb_X9_keepNameSources 17 rfl) e_22 (pc1 := 28) rfl ?_
    obtain ⟨x3_23, e_24, h⟩ := ix_lt_ex h
    refine ix_iinc (i := 3) (j := 3) (v := x3_23) (L1 := [(3, .int x3_23), (0, .ref (K.2.2.1 + a0)), (1, .int x1), (2, .int x2)]) X (ix_tb_at tb_X9_keepNameSources 18 rfl) rfl (by rw [oi_1]; exact e_24.symm) (Nat.le_of_ble_eq_true rfl) rfl (pc1 := 31) rfl ?_
    refine ix_goto (tgt := 10) X (ix_tb_at tb_X9_keepNameSources 19 rfl) (by decide) ?_
    refine ix_sub (L1 := [(0, .ref (K.2.2.1 + a0)), (1, .int x1), (2, .int x2), (3, .int x3_23)]) [1, 2, 3, 0] rfl ?_
    exact hrec10 x3_23 d_21 h
theorem t_X9_keepNameSources_10 {l : Launch} {p : Program} {e : Env} {s : State} {m : MethodId} {args : Array Value} {below : List Frame} {meth : Method} {c : Code} {K : ix_Cx} (hKp : ix_Kp K) {n : Nat} {z : ix_Z} (hsz : s.heap.size + 0 = K.2.2.1 + z.2.2) (X : ix_X p s m args c K cX9_keepNameSources RX9 4) (hr : meth.sig.returnType = (none : Option Jvm.ClassFile.FieldType)) (hlk : meth.locks = false)  {a0 : Nat} {x1 : Int32} {x2 : Int32} {d1 : ix_D2}  {x3 : Int32} {d : ix_D2} (h : f_X9_keepNameSources_10 n z  a0 x1 x2 x3 d = some d1) : ix_G p l e (ix_rm 3 67 0 0) s m args below meth c (MQ below (ix_Post K none (ix_w z d1)) args s 0 0 (ix_A K)) K 4 0 0 10 [(0, .ref (K.2.2.1 + a0)), (1, .int x1), (2, .int x2), (3, .int x3)] [] (ix_w z d) := by
  have key : ∀ (f : Nat) (x3 : Int32) (d : ix_D2), ix_fix (b_X9_keepNameSources_10 n z  a0 x1 x2) (fun _ _ => none) f x3 d = some d1 → ix_G p l e (ix_rm 3 67 0 0) s m args below meth c (MQ below (ix_Post K none (ix_w z d1)) args s 0 0 (ix_A K)) K 4 0 0 10 [(0, .ref (K.2.2.1 + a0)), (1, .int x1), (2, .int x2), (3, .int x3)] [] (ix_w z d) := by
    intro f
    induction f with
    | zero =>
      intro x3 d h
      have h : (none : Option (ix_D2)) = some d1 := h
      cases h
    | succ f ih =>
      intro x3 d h
      exact tb_X9_keepNameSources_10 hKp hsz X hr hlk (rec10 := ix_fix (b_X9_keepNameSources_10 n z  a0 x1 x2) (fun _ _ => none) f)  ih h
  exact key n x3 d h
set_option maxRecDepth 20000 in
theorem c_X9_keepNameSources {l : Launch} {K : ix_Cx} (hKp : ix_Kp K) {n : Nat} {z : ix_Z} {a0 : Nat} {x1 : Int32} {x2 : Int32} {d : ix_D2} {d1 : ix_D2} (h : f_X9_keepNameSources n z a0 x1 x2 d = some d1) : ix_M l K yX9_keepNameSources cX9_keepNameSources 4 (none : Option Jvm.ClassFile.FieldType) 3 67 0 0 [.ref (K.2.2.1 + a0), .int x1, .int x2] (ix_w z d) none (ix_w z d1) := by
  refine ix_met2 mf_X9_keepNameSources hKp (Nat.le_of_ble_eq_true rfl) ?_
  intro p e s m args below meth c hr hlk hnm hsz X
  have X : ix_X p s m args c K cX9_keepNameSources RX9 4 := X
  show ix_G p l e (ix_rm 3 67 0 0) s m args below meth c (MQ below (ix_Post K none (ix_w z d1)) args s 0 0 (ix_A K)) K 4 0 0 0 [(0, .ref (K.2.2.1 + a0)), (1, .int x1), (2, .int x2)] [] (ix_w z d)
  unfold f_X9_keepNameSources at h
  refine ix_aload_n (i := 0) (j := 0) X (ix_tb_at tb_X9_keepNameSources 0 rfl) rfl rfl (pc1 := 1) rfl ?_
  obtain ⟨k_1, h⟩ := ix_ck_some h
  obtain ⟨b_2, q_3, h⟩ := ix_bd1_ex h
  refine iz_getR X fl_RX9_44 k_1 q_3 (ix_tb_at tb_X9_keepNameSources 1 rfl) (pc1 := 4) rfl ?_
  refine ix_lconst (v := 0) X (ix_tb_at tb_X9_keepNameSources 2 rfl) (by decide) (pc1 := 5) rfl ?_
  obtain ⟨d_4, h_5, h⟩ := ix_bd1_ex h
  refine ix_callS (As := [.ref (K.2.2.1 + b_2), .long 0]) (rest := []) X mf_J7_fill_d0a16 st_J7_fill_d0a16 ml_RX9_238 ⟨Nat.le_of_ble_eq_true rfl, Nat.le_of_ble_eq_true rfl⟩ ⟨Nat.le_of_ble_eq_true rfl, Nat.le_of_ble_eq_true rfl⟩ rfl (Nat.le_of_ble_eq_true rfl) (ix_tb_at tb_X9_keepNameSources 3 rfl) (c_J7_fill_d0a16 hKp h_5) rfl (pc1 := 8) rfl ?_
  refine ix_iconst (v := 0) X (ix_tb_at tb_X9_keepNameSources 4 rfl) (by decide) (pc1 := 9) rfl ?_
  refine ix_istore_n (i := 3) (L1 := [(3, .int 0), (0, .ref (K.2.2.1 + a0)), (1, .int x1), (2, .int x2)]) X (ix_tb_at tb_X9_keepNameSources 5 rfl) rfl (Nat.le_of_ble_eq_true rfl) rfl (pc1 := 10) rfl ?_
  refine ix_sub (L1 := [(0, .ref (K.2.2.1 + a0)), (1, .int x1), (2, .int x2), (3, .int 0)]) [1, 2, 3, 0] rfl ?_
  exact t_X9_keepNameSources_10 hKp hsz X hr hlk  h
def tab_X9_force : List (Nat × Instr × Nat) := [(0, .aload_n 0, 1), (1, .getfield 12, 3), (4, .iload_n 1, 1), (5, .invokevirtual 198, 3), (8, .istore_n 2, 1), (9, .aload_n 0, 1), (10, .getfield 12, 3), (13, .iload_n 2, 1), (14, .iload_n 1, 1), (15, .invokevirtual 195, 3), (18, .aload_n 0, 1), (19, .getfield 12, 3), (22, .getfield 153, 3), (25, .ifCond .ne 12, 3), (28, .aload_n 0, 1), (29, .iload_n 2, 1), (30, .invokestatic 201, 3), (33, .iload_n 1, 1), (34, .invokevirtual 204, 3), (37, .aload_n 0, 1), (38, .getfield 47, 3), (41, .iconst 1, 1), (42, .dup2, 1), (43, .iaload, 1), (44, .iconst 1, 1), (45, .iadd, 1), (46, .iastore, 1), (47, .aload_n 0, 1), (48, .getfield 47, 3), (51, .iconst 2, 1), (52, .dup2, 1), (53, .iaload, 1), (54, .iconst 1, 1), (55, .iadd, 1), (56, .iastore, 1), (57, .iconst 2, 1), (58, .ireturn, 1)]
theorem tb_X9_force : ix_tab cX9_force tab_X9_force := by
  unfold ix_tab
  decide +kernel
noncomputable def f_X9_force_37 (n : Nat) (z : ix_Z)  (a0 : Nat) (d : ix_D2) : Option (Int32 × ix_D2) :=
  ix_ck (ix_ok z [8] a0) (ix_bd1 (z.1 a0 10) (fun b_12 => ix_ck (ix_ix z 20 b_12 1) (ix_lt (ix_di d b_12 (ix_n 1) ((d.1 b_12 (ix_n 1)) + 1)) (fun d_15 => ix_ck (ix_ix z 20 b_12 2) (ix_lt (ix_di d_15 b_12 (ix_n 2) ((d_15.1 b_12 (ix_n 2)) + 1)) (fun d_18 => some (2, d_18)))))))
noncomputable def f_X9_force (n : Nat) (z : ix_Z) (a0 : Nat) (x1 : Int32) (d : ix_D2) : Option (Int32 × ix_D2) :=
  ix_ck (ix_ok z [8] a0) (ix_bd1 (z.1 a0 0) (fun b_2 => ix_ck (ix_ok z [1] b_2) (ix_bd2 (f_X1_openItem n z b_2 x1 d) (fun r_7 d_4 => ix_bd1 (f_X1_assign n z b_2 r_7 x1 d_4) (fun d_8 => ix_if (d_8.1 b_2 13 = 0) (ix_bd1 (f_X9_keepNameSources n z a0 (ix_abs r_7) x1 d_8) (fun d_20 => f_X9_force_37 n z  a0 d_20)) (f_X9_force_37 n z  a0 d_8))))))
set_option maxRecDepth 20000 in
theorem t_X9_force_37 {l : Launch} {p : Program} {e : Env} {s : State} {m : MethodId} {args : Array Value} {below : List Frame} {meth : Method} {c : Code} {K : ix_Cx} (hKp : ix_Kp K) {n : Nat} {z : ix_Z} (X : ix_X p s m args c K cX9_force RX9 3) (hr : meth.sig.returnType = (some .int)) (hlk : meth.locks = false)  {a0 : Nat} {r : Int32} {d1 : ix_D2}  {d : ix_D2} (h : f_X9_force_37 n z  a0 d = some (r, d1)) : ix_G p l e (ix_rm 4 90 0 0) s m args below meth c (MQ below (ix_Post K (some (.int r)) (ix_w z d1)) args s 0 0 (ix_A K)) K 3 0 0 37 [(0, .ref (K.2.2.1 + a0))] [] (ix_w z d) := by
  unfold f_X9_force_37 at h
  refine ix_aload_n (i := 0) (j := 0) X (ix_tb_at tb_X9_force 19 rfl) rfl rfl (pc1 := 38) rfl ?_
  obtain ⟨k_11, h⟩ := ix_ck_some h
  obtain ⟨b_12, q_13, h⟩ := ix_bd1_ex h
  refine iz_getR X fl_RX9_47 k_11 q_13 (ix_tb_at tb_X9_force 20 rfl) (pc1 := 41) rfl ?_
  refine ix_iconst (v := 1) X (ix_tb_at tb_X9_force 21 rfl) (by decide) (pc1 := 42) rfl ?_
  refine ix_dup2 X (ix_tb_at tb_X9_force 22 rfl) rfl rfl (pc1 := 43) rfl ?_
  obtain ⟨k_14, h⟩ := ix_ck_some h
  refine iz_iald X k_14 (ix_tb_at tb_X9_force 23 rfl) (pc1 := 44) rfl ?_
  refine ix_iconst (v := 1) X (ix_tb_at tb_X9_force 24 rfl) (by decide) (pc1 := 45) rfl ?_
  refine ix_iadd X (ix_tb_at tb_X9_force 25 rfl) (pc1 := 46) rfl ?_
  obtain ⟨d_15, e_16, h⟩ := ix_lt_ex h
  refine iz_iast X k_14 (ix_tb_at tb_X9_force 26 rfl) e_16 (pc1 := 47) rfl ?_
  refine ix_aload_n (i := 0) (j := 0) X (ix_tb_at tb_X9_force 27 rfl) rfl rfl (pc1 := 48) rfl ?_
  refine iz_getR X fl_RX9_47 k_11 q_13 (ix_tb_at tb_X9_force 28 rfl) (pc1 := 51) rfl ?_
  refine ix_iconst (v := 2) X (ix_tb_at tb_X9_force 29 rfl) (by decide) (pc1 := 52) rfl ?_
  refine ix_dup2 X (ix_tb_at tb_X9_force 30 rfl) rfl rfl (pc1 := 53) rfl ?_
  obtain ⟨k_17, h⟩ := ix_ck_some h
  refine iz_iald X k_17 (ix_tb_at tb_X9_force 31 rfl) (pc1 := 54) rfl ?_
  refine ix_iconst (v := 1) X (ix_tb_at tb_X9_force 32 rfl) (by decide) (pc1 := 55) rfl ?_
  refine ix_iadd X (ix_tb_at tb_X9_force 33 rfl) (pc1 := 56) rfl ?_
  obtain ⟨d_18, e_19, h⟩ := ix_lt_ex h
  refine iz_iast X k_17 (ix_tb_at tb_X9_force 34 rfl) e_19 (pc1 := 57) rfl ?_
  refine ix_iconst (v := 2) X (ix_tb_at tb_X9_force 35 rfl) (by decide) (pc1 := 58) rfl ?_
  exact ix_iret X hr hlk (ix_r2 (f := fun r => some (.int r)) (g := ix_w z) h) (ix_tb_at tb_X9_force 36 rfl)
set_option maxRecDepth 20000 in
theorem c_X9_force {l : Launch} {K : ix_Cx} (hKp : ix_Kp K) {n : Nat} {z : ix_Z} {a0 : Nat} {x1 : Int32} {d : ix_D2} {r : Int32} {d1 : ix_D2} (h : f_X9_force n z a0 x1 d = some (r, d1)) : ix_M l K yX9_force cX9_force 3 (some .int) 4 90 0 0 [.ref (K.2.2.1 + a0), .int x1] (ix_w z d) (some (.int r)) (ix_w z d1) := by
  refine ix_met mf_X9_force hKp (Nat.le_of_ble_eq_true rfl) ?_
  intro p e s m args below meth c hr hlk hnm X
  have X : ix_X p s m args c K cX9_force RX9 3 := X
  show ix_G p l e (ix_rm 4 90 0 0) s m args below meth c (MQ below (ix_Post K (some (.int r)) (ix_w z d1)) args s 0 0 (ix_A K)) K 3 0 0 0 [(0, .ref (K.2.2.1 + a0)), (1, .int x1)] [] (ix_w z d)
  unfold f_X9_force at h
  refine ix_aload_n (i := 0) (j := 0) X (ix_tb_at tb_X9_force 0 rfl) rfl rfl (pc1 := 1) rfl ?_
  obtain ⟨k_1, h⟩ := ix_ck_some h
  obtain ⟨b_2, q_3, h⟩ := ix_bd1_ex h
  refine iz_getR X fl_RX9_12 k_1 q_3 (ix_tb_at tb_X9_force 1 rfl) (pc1 := 4) rfl ?_
  refine ix_iload_n (i := 1) (j := 1) X (ix_tb_at tb_X9_force 2 rfl) rfl rfl (pc1 := 5) rfl ?_
  obtain ⟨k_6, h⟩ := ix_ck_some h
  obtain ⟨r_7, d_4, h_5, h⟩ := ix_bd2_ex h
  refine ix_callV (As := [.int x1]) (rest := []) (ci := 1) (T := TX1) (nf := 17) X mf_X1_openItem mi_X1_openItem ms_X1_openItem rfl (Nat.le_of_ble_eq_true rfl) ml_RX9_198 ⟨Nat.le_of_ble_eq_true rfl, Nat.le_of_ble_eq_true rfl⟩ ⟨Nat.le_of_ble_eq_true rfl, Nat.le_of_ble_eq_true rfl⟩ rfl (Nat.le_of_ble_eq_true rfl) (ix_tb_at tb_X9_force 3 rfl) ⟨k_6.1, List.mem_singleton.mp k_6.2⟩ (c_X1_openItem hKp h_5) rfl (pc1 := 8) rfl ?_
  refine ix_istore_n (i := 2) (L1 := [(2, .int r_7), (0, .ref (K.2.2.1 + a0)), (1, .int x1)]) X (ix_tb_at tb_X9_force 4 rfl) rfl (Nat.le_of_ble_eq_true rfl) rfl (pc1 := 9) rfl ?_
  refine ix_aload_n (i := 0) (j := 1) X (ix_tb_at tb_X9_force 5 rfl) rfl rfl (pc1 := 10) rfl ?_
  refine iz_getR X fl_RX9_12 k_1 q_3 (ix_tb_at tb_X9_force 6 rfl) (pc1 := 13) rfl ?_
  refine ix_iload_n (i := 2) (j := 0) X (ix_tb_at tb_X9_force 7 rfl) rfl rfl (pc1 := 14) rfl ?_
  refine ix_iload_n (i := 1) (j := 2) X (ix_tb_at tb_X9_force 8 rfl) rfl rfl (pc1 := 15) rfl ?_
  obtain ⟨d_8, h_9, h⟩ := ix_bd1_ex h
  refine ix_callV (As := [.int r_7, .int x1]) (rest := []) (ci := 1) (T := TX1) (nf := 17) X mf_X1_assign mi_X1_assign ms_X1_assign rfl (Nat.le_of_ble_eq_true rfl) ml_RX9_195 ⟨Nat.le_of_ble_eq_true rfl, Nat.le_of_ble_eq_true rfl⟩ ⟨Nat.le_of_ble_eq_true rfl, Nat.le_of_ble_eq_true rfl⟩ rfl (Nat.le_of_ble_eq_true rfl) (ix_tb_at tb_X9_force 9 rfl) ⟨k_6.1, List.mem_singleton.mp k_6.2⟩ (c_X1_assign hKp h_9) rfl (pc1 := 18) rfl ?_
  refine ix_aload_n (i := 0) (j := 1) X (ix_tb_at tb_X9_force 10 rfl) rfl rfl (pc1 := 19) rfl ?_
  refine iz_getR X fl_RX9_12 k_1 q_3 (ix_tb_at tb_X9_force 11 rfl) (pc1 := 22) rfl ?_
  refine iz_getI X fl_RX9_153 k_6 (ix_tb_at tb_X9_force 12 rfl) (pc1 := 25) rfl ?_
  refine ix_if_ne (tgt := 37) X (ix_tb_at tb_X9_force 13 rfl) (by decide) (pc1 := 28) rfl (fun q_10 => ?_) (fun q_10 => ?_)
  · have h := ix_iff q_10 h
    refine ix_sub (L1 := [(0, .ref (K.2.2.1 + a0))]) [1] rfl ?_
    exact t_X9_force_37 hKp X hr hlk  h
  · have h := ix_ift q_10 h
    refine ix_aload_n (i := 0) (j := 1) X (ix_tb_at tb_X9_force 14 rfl) rfl rfl (pc1 := 29) rfl ?_
    refine ix_iload_n (i := 2) (j := 0) X (ix_tb_at tb_X9_force 15 rfl) rfl rfl (pc1 := 30) rfl ?_
    refine ix_mabs X ml_RX9_201 (Nat.le_of_ble_eq_true rfl) (Nat.le_of_ble_eq_true rfl) ⟨Nat.le_of_ble_eq_true rfl, Nat.le_of_ble_eq_true rfl⟩ (ix_tb_at tb_X9_force 16 rfl) (pc1 := 33) rfl ?_
    refine ix_iload_n (i := 1) (j := 2) X (ix_tb_at tb_X9_force 17 rfl) rfl rfl (pc1 := 34) rfl ?_
    obtain ⟨d_20, h_21, h⟩ := ix_bd1_ex h
    refine ix_callV (As := [.int (ix_abs r_7), .int x1]) (rest := []) (ci := 8) (T := TX9) (nf := 20) X mf_X9_keepNameSources mi_X9_keepNameSources ms_X9_keepNameSources rfl (Nat.le_of_ble_eq_true rfl) ml_RX9_204 ⟨Nat.le_of_ble_eq_true rfl, Nat.le_of_ble_eq_true rfl⟩ ⟨Nat.le_of_ble_eq_true rfl, Nat.le_of_ble_eq_true rfl⟩ rfl (Nat.le_of_ble_eq_true rfl) (ix_tb_at tb_X9_force 18 rfl) ⟨k_1.1, List.mem_singleton.mp k_1.2⟩ (c_X9_keepNameSources hKp h_21) rfl (pc1 := 37) rfl ?_
    refine ix_sub (L1 := [(0, .ref (K.2.2.1 + a0))]) [1] rfl ?_
    exact t_X9_force_37 hKp X hr hlk  h
def tab_X9_markReason : List (Nat × Instr × Nat) := [(0, .aload_n 0, 1), (1, .iload_n 1, 1), (2, .invokevirtual 256, 3), (5, .aload_n 0, 1), (6, .getfield 12, 3), (9, .getfield 107, 3), (12, .astore_n 2, 1), (13, .aload_n 2, 1), (14, .getfield 259, 3), (17, .iload_n 1, 1), (18, .iaload, 1), (19, .istore_n 3, 1), (20, .iload_n 3, 1), (21, .aload_n 2, 1), (22, .getfield 259, 3), (25, .iload_n 1, 1), (26, .iconst 1, 1), (27, .iadd, 1), (28, .iaload, 1), (29, .if_icmp .ge 24, 3), (32, .aload_n 0, 1), (33, .getfield 53, 3), (36, .aload_n 2, 1), (37, .getfield 262, 3), (40, .iload_n 3, 1), (41, .iaload, 1), (42, .invokestatic 201, 3), (45, .iconst 1, 1), (46, .iastore, 1), (47, .iinc 3 1, 3), (50, .goto (-30), 3), (53, .return_, 1)]
theorem tb_X9_markReason : ix_tab cX9_markReason tab_X9_markReason := by
  unfold ix_tab
  decide +kernel
noncomputable def b_X9_markReason_20 (n : Nat) (z : ix_Z)  (a0 : Nat) (x1 : Int32) (a2 : Nat) (rec20 : Int32 → ix_D2 → Option (ix_D2)) (x3 : Int32) (d : ix_D2) : Option (ix_D2) :=
  ix_ck (ix_ok z [7] a2) (ix_bd1 (z.1 a2 1) (fun b_16 => ix_ck (ix_ix z 20 b_16 (x1 + 1)) (ix_if (d.1 b_16 (ix_n (x1 + 1)) ≤ x3) (some d) (ix_ck (ix_ok z [8] a0) (ix_bd1 (z.1 a0 12) (fun b_21 => ix_bd1 (z.1 a2 0) (fun b_23 => ix_ck (ix_ix z 20 b_23 x3) (ix_ck (ix_ix z 20 b_21 (ix_abs (d.1 b_23 (ix_n x3)))) (ix_lt (ix_di d b_21 (ix_n (ix_abs (d.1 b_23 (ix_n x3)))) 1) (fun d_27 => ix_lt (x3 + 1) (fun x3_29 => rec20 x3_29 d_27)))))))))))
noncomputable def f_X9_markReason_20 (n : Nat) (z : ix_Z)  (a0 : Nat) (x1 : Int32) (a2 : Nat) (x3 : Int32) (d : ix_D2) : Option (ix_D2) := ix_fix (b_X9_markReason_20 n z  a0 x1 a2) (fun _ _ => none) n x3 d
noncomputable def f_X9_markReason (n : Nat) (z : ix_Z) (a0 : Nat) (x1 : Int32) (d : ix_D2) : Option (ix_D2) :=
  ix_ck (ix_ok z [8] a0) (ix_bd1 (f_X9_gatherRow n z a0 x1 d) (fun d_1 => ix_bd1 (z.1 a0 0) (fun b_4 => ix_ck (ix_ok z [1] b_4) (ix_bd1 (z.1 b_4 0) (fun b_7 => ix_ck (ix_ok z [7] b_7) (ix_bd1 (z.1 b_7 1) (fun b_10 => ix_ck (ix_ix z 20 b_10 x1) (ix_lt (d_1.1 b_10 (ix_n x1)) (fun x3_13 => f_X9_markReason_20 n z  a0 x1 b_7 x3_13 d_1)))))))))
set_option maxRecDepth 20000 in
theorem tb_X9_markReason_20 {l : Launch} {p : Program} {e : Env} {s : State} {m : MethodId} {args : Array Value} {below : List Frame} {meth : Method} {c : Code} {K : ix_Cx} (hKp : ix_Kp K) {n : Nat} {z : ix_Z} (X : ix_X p s m args c K cX9_markReason RX9 4) (hr : meth.sig.returnType = (none : Option Jvm.ClassFile.FieldType)) (hlk : meth.locks = false)  {a0 : Nat} {x1 : Int32} {a2 : Nat} {rec20 : Int32 → ix_D2 → Option (ix_D2)} {d1 : ix_D2} (hrec20 : ∀ (x3 : Int32) (d : ix_D2), rec20 x3 d = some d1 → ix_G p l e (ix_rm 2 44 0 0) s m args below meth c (MQ below (ix_Post K none (ix_w z d1)) args s 0 0 (ix_A K)) K 4 0 0 20 [(0, .ref (K.2.2.1 + a0)), (1, .int x1), (2, .ref (K.2.2.1 + a2)), (3, .int x3)] [] (ix_w z d)) {x3 : Int32} {d : ix_D2} (h : b_X9_markReason_20 n z  a0 x1 a2 rec20 x3 d = some d1) : ix_G p l e (ix_rm 2 44 0 0) s m args below meth c (MQ below (ix_Post K none (ix_w z d1)) args s 0 0 (ix_A K)) K 4 0 0 20 [(0, .ref (K.2.2.1 + a0)), (1, .int x1), (2, .ref (K.2.2.1 + a2)), (3, .int x3)] [] (ix_w z d) := by
  unfold b_X9_markReason_20 at h
  refine ix_iload_n (i := 3) (j := 3) X (ix_tb_at tb_X9_markReason 12 rfl) rfl rfl (pc1 := 21) rfl ?_
  refine ix_aload_n (i := 2) (j := 2) X (ix_tb_at tb_X9_markReason 13 rfl) rfl rfl (pc1 := 22) rfl ?_
  obtain ⟨k_15, h⟩ := ix_ck_some h
  obtain ⟨b_16, q_17, h⟩ := ix_bd1_ex h
  refine iz_getR X fl_RX9_259 k_15 q_17 (ix_tb_at tb_X9_markReason 14 rfl) (pc1 := 25) rfl ?_
  refine ix_iload_n (i := 1) (j := 1) X (ix_tb_at tb_X9_markReason 15 rfl) rfl rfl (pc1 := 26) rfl ?_
  refine ix_iconst (v := 1) X (ix_tb_at tb_X9_markReason 16 rfl) (by decide) (pc1 := 27) rfl ?_
  refine ix_iadd X (ix_tb_at tb_X9_markReason 17 rfl) (pc1 := 28) rfl ?_
  obtain ⟨k_18, h⟩ := ix_ck_some h
  refine iz_iald X k_18 (ix_tb_at tb_X9_markReason 18 rfl) (pc1 := 29) rfl ?_
  refine ix_icmp_ge (tgt := 53) X (ix_tb_at tb_X9_markReason 19 rfl) (by decide) (pc1 := 32) rfl (fun q_19 => ?_) (fun q_19 => ?_)
  · have h := ix_ift q_19 h
    exact ix_vret X hr hlk (ix_r1 (g := ix_w z) h) (ix_tb_at tb_X9_markReason 31 rfl)
  · have h := ix_iff q_19 h
    refine ix_aload_n (i := 0) (j := 0) X (ix_tb_at tb_X9_markReason 20 rfl) rfl rfl (pc1 := 33) rfl ?_
    obtain ⟨k_20, h⟩ := ix_ck_some h
    obtain ⟨b_21, q_22, h⟩ := ix_bd1_ex h
    refine iz_getR X fl_RX9_53 k_20 q_22 (ix_tb_at tb_X9_markReason 21 rfl) (pc1 := 36) rfl ?_
    refine ix_aload_n (i := 2) (j := 2) X (ix_tb_at tb_X9_markReason 22 rfl) rfl rfl (pc1 := 37) rfl ?_
    obtain ⟨b_23, q_24, h⟩ := ix_bd1_ex h
    refine iz_getR X fl_RX9_262 k_15 q_24 (ix_tb_at tb_X9_markReason 23 rfl) (pc1 := 40) rfl ?_
    refine ix_iload_n (i := 3) (j := 3) X (ix_tb_at tb_X9_markReason 24 rfl) rfl rfl (pc1 := 41) rfl ?_
    obtain ⟨k_25, h⟩ := ix_ck_some h
    refine iz_iald X k_25 (ix_tb_at tb_X9_markReason 25 rfl) (pc1 := 42) rfl ?_
    refine ix_mabs X ml_RX9_201 (Nat.le_of_ble_eq_true rfl) (Nat.le_of_ble_eq_true rfl) ⟨Nat.le_of_ble_eq_true rfl, Nat.le_of_ble_eq_true rfl⟩ (ix_tb_at tb_X9_markReason 26 rfl) (pc1 := 45) rfl ?_
    refine ix_iconst (v := 1) X (ix_tb_at tb_X9_markReason 27 rfl) (by decide) (pc1 := 46) rfl ?_
    obtain ⟨k_26, h⟩ := ix_ck_some h
    obtain ⟨d_27, e_28, h⟩ := ix_lt_ex h
    refine iz_iast X k_26 (ix_tb_at tb_X9_markReason 28 rfl) e_28 (pc1 := 47) rfl ?_
    obtain ⟨x3_29, e_30, h⟩ := ix_lt_ex h
    refine ix_iinc (i := 3) (j := 3) (v := x3_29) (L1 := [(3, .int x3_29), (0, .ref (K.2.2.1 + a0)), (1, .int x1), (2, .ref (K.2.2.1 + a2))]) X (ix_tb_at tb_X9_markReason 29 rfl) rfl (by rw [oi_1]; exact e_30.symm) (Nat.le_of_ble_eq_true rfl) rfl (pc1 := 50) rfl ?_
    refine ix_goto (tgt := 20) X (ix_tb_at tb_X9_markReason 30 rfl) (by decide) ?_
    refine ix_sub (L1 := [(0, .ref (K.2.2.1 + a0)), (1, .int x1), (2, .ref (K.2.2.1 + a2)), (3, .int x3_29)]) [1, 2, 3, 0] rfl ?_
    exact hrec20 x3_29 d_27 h
theorem t_X9_markReason_20 {l : Launch} {p : Program} {e : Env} {s : State} {m : MethodId} {args : Array Value} {below : List Frame} {meth : Method} {c : Code} {K : ix_Cx} (hKp : ix_Kp K) {n : Nat} {z : ix_Z} (X : ix_X p s m args c K cX9_markReason RX9 4) (hr : meth.sig.returnType = (none : Option Jvm.ClassFile.FieldType)) (hlk : meth.locks = false)  {a0 : Nat} {x1 : Int32} {a2 : Nat} {d1 : ix_D2}  {x3 : Int32} {d : ix_D2} (h : f_X9_markReason_20 n z  a0 x1 a2 x3 d = some d1) : ix_G p l e (ix_rm 2 44 0 0) s m args below meth c (MQ below (ix_Post K none (ix_w z d1)) args s 0 0 (ix_A K)) K 4 0 0 20 [(0, .ref (K.2.2.1 + a0)), (1, .int x1), (2, .ref (K.2.2.1 + a2)), (3, .int x3)] [] (ix_w z d) := by
  have key : ∀ (f : Nat) (x3 : Int32) (d : ix_D2), ix_fix (b_X9_markReason_20 n z  a0 x1 a2) (fun _ _ => none) f x3 d = some d1 → ix_G p l e (ix_rm 2 44 0 0) s m args below meth c (MQ below (ix_Post K none (ix_w z d1)) args s 0 0 (ix_A K)) K 4 0 0 20 [(0, .ref (K.2.2.1 + a0)), (1, .int x1), (2, .ref (K.2.2.1 + a2)), (3, .int x3)] [] (ix_w z d) := by
    intro f
    induction f with
    | zero =>
      intro x3 d h
      have h : (none : Option (ix_D2)) = some d1 := h
      cases h
    | succ f ih =>
      intro x3 d h
      exact tb_X9_markReason_20 hKp X hr hlk (rec20 := ix_fix (b_X9_markReason_20 n z  a0 x1 a2) (fun _ _ => none) f)  ih h
  exact key n x3 d h
set_option maxRecDepth 20000 in
theorem c_X9_markReason {l : Launch} {K : ix_Cx} (hKp : ix_Kp K) {n : Nat} {z : ix_Z} {a0 : Nat} {x1 : Int32} {d : ix_D2} {d1 : ix_D2} (h : f_X9_markReason n z a0 x1 d = some d1) : ix_M l K yX9_markReason cX9_markReason 4 (none : Option Jvm.ClassFile.FieldType) 2 44 0 0 [.ref (K.2.2.1 + a0), .int x1] (ix_w z d) none (ix_w z d1) := by
  refine ix_met mf_X9_markReason hKp (Nat.le_of_ble_eq_true rfl) ?_
  intro p e s m args below meth c hr hlk hnm X
  have X : ix_X p s m args c K cX9_markReason RX9 4 := X
  show ix_G p l e (ix_rm 2 44 0 0) s m args below meth c (MQ below (ix_Post K none (ix_w z d1)) args s 0 0 (ix_A K)) K 4 0 0 0 [(0, .ref (K.2.2.1 + a0)), (1, .int x1)] [] (ix_w z d)
  unfold f_X9_markReason at h
  refine ix_aload_n (i := 0) (j := 0) X (ix_tb_at tb_X9_markReason 0 rfl) rfl rfl (pc1 := 1) rfl ?_
  refine ix_iload_n (i := 1) (j := 1) X (ix_tb_at tb_X9_markReason 1 rfl) rfl rfl (pc1 := 2) rfl ?_
  obtain ⟨k_3, h⟩ := ix_ck_some h
  obtain ⟨d_1, h_2, h⟩ := ix_bd1_ex h
  refine ix_callV (As := [.int x1]) (rest := []) (ci := 8) (T := TX9) (nf := 20) X mf_X9_gatherRow mi_X9_gatherRow ms_X9_gatherRow rfl (Nat.le_of_ble_eq_true rfl) ml_RX9_256 ⟨Nat.le_of_ble_eq_true rfl, Nat.le_of_ble_eq_true rfl⟩ ⟨Nat.le_of_ble_eq_true rfl, Nat.le_of_ble_eq_true rfl⟩ rfl (Nat.le_of_ble_eq_true rfl) (ix_tb_at tb_X9_markReason 2 rfl) ⟨k_3.1, List.mem_singleton.mp k_3.2⟩ (c_X9_gatherRow hKp h_2) rfl (pc1 := 5) rfl ?_
  refine ix_aload_n (i := 0) (j := 0) X (ix_tb_at tb_X9_markReason 3 rfl) rfl rfl (pc1 := 6) rfl ?_
  obtain ⟨b_4, q_5, h⟩ := ix_bd1_ex h
  refine iz_getR X fl_RX9_12 k_3 q_5 (ix_tb_at tb_X9_markReason 4 rfl) (pc1 := 9) rfl ?_
  obtain ⟨k_6, h⟩ := ix_ck_some h
  obtain ⟨b_7, q_8, h⟩ := ix_bd1_ex h
  refine iz_getR X fl_RX9_107 k_6 q_8 (ix_tb_at tb_X9_markReason 5 rfl) (pc1 := 12) rfl ?_
  refine ix_astore_n (i := 2) (L1 := [(2, .ref (K.2.2.1 + b_7)), (0, .ref (K.2.2.1 + a0)), (1, .int x1)]) X (ix_tb_at tb_X9_markReason 6 rfl) rfl (Nat.le_of_ble_eq_true rfl) rfl (pc1 := 13) rfl ?_
  refine ix_aload_n (i := 2) (j := 0) X (ix_tb_at tb_X9_markReason 7 rfl) rfl rfl (pc1 := 14) rfl ?_
  obtain ⟨k_9, h⟩ := ix_ck_some h
  obtain ⟨b_10, q_11, h⟩ := ix_bd1_ex h
  refine iz_getR X fl_RX9_259 k_9 q_11 (ix_tb_at tb_X9_markReason 8 rfl) (pc1 := 17) rfl ?_
  refine ix_iload_n (i := 1) (j := 2) X (ix_tb_at tb_X9_markReason 9 rfl) rfl rfl (pc1 := 18) rfl ?_
  obtain ⟨k_12, h⟩ := ix_ck_some h
  refine iz_iald X k_12 (ix_tb_at tb_X9_markReason 10 rfl) (pc1 := 19) rfl ?_
  obtain ⟨x3_13, e_14, h⟩ := ix_lt_ex h
  refine ix_nmi e_14 ?_
  refine ix_istore_n (i := 3) (L1 := [(3, .int x3_13), (2, .ref (K.2.2.1 + b_7)), (0, .ref (K.2.2.1 + a0)), (1, .int x1)]) X (ix_tb_at tb_X9_markReason 11 rfl) rfl (Nat.le_of_ble_eq_true rfl) rfl (pc1 := 20) rfl ?_
  refine ix_sub (L1 := [(0, .ref (K.2.2.1 + a0)), (1, .int x1), (2, .ref (K.2.2.1 + b_7)), (3, .int x3_13)]) [2, 3, 1, 0] rfl ?_
  exact t_X9_markReason_20 hKp X hr hlk  h
def tab_X9_refuteAssumed : List (Nat × Instr × Nat) := [(0, .aload_n 0, 1), (1, .getfield 53, 3), (4, .iconst 0, 1), (5, .invokestatic 62, 3), (8, .aload_n 0, 1), (9, .getfield 44, 3), (12, .lconst 0, 1), (13, .invokestatic 238, 3), (16, .aload_n 0, 1), (17, .getfield 53, 3), (20, .iload_n 1, 1), (21, .invokestatic 201, 3), (24, .iconst 1, 1), (25, .iastore, 1), (26, .aload_n 0, 1), (27, .getfield 12, 3), (30, .getfield 244, 3), (33, .iconst 1, 1), (34, .isub, 1), (35, .istore_n 2, 1), (36, .iload_n 2, 1), (37, .ifCond .lt 104, 3), (40, .aload_n 0, 1), (41, .getfield 12, 3), (44, .getfield 247, 3), (47, .iload_n 2, 1), (48, .iaload, 1), (49, .invokestatic 201, 3), (52, .istore_n 3, 1), (53, .aload_n 0, 1), (54, .getfield 53, 3), (57, .iload_n 3, 1), (58, .iaload, 1), (59, .ifCond .eq 23, 3), (62, .aload_n 0, 1), (63, .getfield 12, 3), (66, .getfield 250, 3), (69, .iload_n 3, 1), (70, .iaload, 1), (71, .ifCond .ne 11, 3), (74, .aload_n 0, 1), (75, .iload_n 3, 1), (76, .invokevirtual 265, 3), (79, .goto 56, 3), (82, .aload_n 0, 1), (83, .getfield 53, 3), (86, .iload_n 3, 1), (87, .iaload, 1), (88, .ifCond .eq 25, 3), (91, .aload_n 0, 1), (92, .getfield 12, 3), (95, .getfield 253, 3), (98, .iload_n 3, 1), (99, .iaload, 1), (100, .ifCond .ge 13, 3), (103, .aload_n 0, 1), (104, .getfield 53, 3), (107, .iload_n 3, 1), (108, .iconst 2, 1), (109, .iastore, 1), (110, .goto 25, 3), (113, .aload_n 0, 1), (114, .getfield 53, 3), (117, .iload_n 3, 1), (118, .iaload, 1), (119, .ifCond .eq 16, 3), (122, .aload_n 0, 1), (123, .aload_n 0, 1), (124, .getfield 12, 3), (127, .getfield 253, 3), (130, .iload_n 3, 1), (131, .iaload, 1), (132, .invokevirtual 309, 3), (135, .iinc 2 (-1), 3), (138, .goto (-102), 3), (141, .aload_n 0, 1), (142, .iconst 0, 1), (143, .putfield 128, 3), (146, .iconst 0, 1), (147, .istore_n 2, 1), (148, .iload_n 2, 1), (149, .aload_n 0, 1), (150, .getfield 86, 3), (153, .if_icmp .ge 51, 3), (156, .aload_n 0, 1), (157, .getfield 31, 3), (160, .iload_n 2, 1), (161, .iaload, 1), (162, .istore_n 3, 1), (163, .iload_n 3, 1), (164, .iload_n 1, 1), (165, .if_icmp .eq 27, 3), (168, .aload_n 0, 1), (169, .getfield 12, 3), (172, .iload_n 3, 1), (173, .invokevirtual 135, 3), (176, .ifCond .eq 22, 3), (179, .aload_n 0, 1), (180, .getfield 53, 3), (183, .iload_n 3, 1), (184, .invokestatic 201, 3), (187, .iaload, 1), (188, .iconst 2, 1), (189, .if_icmp .ne 9, 3), (192, .aload_n 0, 1), (193, .iload_n 3, 1), (194, .ineg, 1), (195, .invokevirtual 139, 3), (198, .iinc 2 1, 3), (201, .goto (-53), 3), (204, .aload_n 0, 1), (205, .invokevirtual 305, 3), (208, .ifCond .eq 7, 3), (211, .iconst 0, 1), (212, .goto 6, 3), (215, .sipush (-1003), 3), (218, .ireturn, 1)]
theorem tb_X9_refuteAssumed : ix_tab cX9_refuteAssumed tab_X9_refuteAssumed := by
  unfold ix_tab
  decide +kernel
noncomputable def f_X9_refuteAssumed_198 (n : Nat) (z : ix_Z) (rec148 : Int32 → ix_D2 → Option (Int32 × ix_D2)) (a0 : Nat) (x1 : Int32) (x2 : Int32) (d : ix_D2) : Option (Int32 × ix_D2) :=
  ix_lt (x2 + 1) (fun x2_37 => rec148 x2_37 d)
noncomputable def f_X9_refuteAssumed_192 (n : Nat) (z : ix_Z) (rec148 : Int32 → ix_D2 → Option (Int32 × ix_D2)) (a0 : Nat) (x1 : Int32) (x2 : Int32) (x3 : Int32) (d : ix_D2) : Option (Int32 × ix_D2) :=
  ix_ck (ix_ok z [8] a0) (ix_bd1 (f_X9_pushFresh n z a0 (-x3) d) (fun d_34 => f_X9_refuteAssumed_198 n z rec148 a0 x1 x2 d_34))
noncomputable def b_X9_refuteAssumed_148 (n : Nat) (z : ix_Z)  (a0 : Nat) (x1 : Int32) (rec148 : Int32 → ix_D2 → Option (Int32 × ix_D2)) (x2 : Int32) (d : ix_D2) : Option (Int32 × ix_D2) :=
  ix_ck (ix_ok z [8] a0) (ix_if (d.1 a0 5 ≤ x2) (ix_bd2 (f_X9_keepLast n z a0 d) (fun r_26 d_24 => ix_if (r_26 = 0) (some ((-1003), d_24)) (some (0, d_24)))) (ix_bd1 (z.1 a0 4) (fun b_28 => ix_ck (ix_ix z 20 b_28 x2) (ix_lt (d.1 b_28 (ix_n x2)) (fun x3_31 => ix_if (x3_31 = x1) (f_X9_refuteAssumed_192 n z rec148 a0 x1 x2 x3_31 d) (ix_bd1 (z.1 a0 0) (fun b_39 => ix_ck (ix_ok z [1] b_39) (ix_bd2 (f_X1_isTrue n z b_39 x3_31 d) (fun r_44 d_41 => ix_if (r_44 = 0) (f_X9_refuteAssumed_198 n z rec148 a0 x1 x2 d_41) (ix_bd1 (z.1 a0 12) (fun b_46 => ix_ck (ix_ix z 20 b_46 (ix_abs x3_31)) (ix_if (d_41.1 b_46 (ix_n (ix_abs x3_31)) = 2) (f_X9_refuteAssumed_192 n z rec148 a0 x1 x2 x3_31 d_41) (f_X9_refuteAssumed_198 n z rec148 a0 x1 x2 d_41)))))))))))))
noncomputable def f_X9_refuteAssumed_148 (n : Nat) (z : ix_Z)  (a0 : Nat) (x1 : Int32) (x2 : Int32) (d : ix_D2) : Option (Int32 × ix_D2) := ix_fix (b_X9_refuteAssumed_148 n z  a0 x1) (fun _ _ => none) n x2 d
noncomputable def f_X9_refuteAssumed_135 (n : Nat) (z : ix_Z) (rec36 : Int32 → ix_D2 → Option (Int32 × ix_D2)) (a0 : Nat) (x1 : Int32) (x2 : Int32) (d : ix_D2) : Option (Int32 × ix_D2) :=
  ix_lt (x2 + (-1)) (fun x2_73 => rec36 x2_73 d)
noncomputable def f_X9_refuteAssumed_113 (n : Nat) (z : ix_Z) (rec36 : Int32 → ix_D2 → Option (Int32 × ix_D2)) (a0 : Nat) (x1 : Int32) (x2 : Int32) (x3 : Int32) (d : ix_D2) : Option (Int32 × ix_D2) :=
  ix_ck (ix_ok z [8] a0) (ix_bd1 (z.1 a0 12) (fun b_69 => ix_ck (ix_ix z 20 b_69 x3) (ix_if (d.1 b_69 (ix_n x3) = 0) (f_X9_refuteAssumed_135 n z rec36 a0 x1 x2 d) (ix_bd1 (z.1 a0 0) (fun b_75 => ix_ck (ix_ok z [1] b_75) (ix_bd1 (z.1 b_75 10) (fun b_78 => ix_ck (ix_ix z 20 b_78 x3) (ix_bd1 (f_X9_markReason n z a0 (d.1 b_78 (ix_n x3)) d) (fun d_81 => f_X9_refuteAssumed_135 n z rec36 a0 x1 x2 d_81)))))))))
noncomputable def f_X9_refuteAssumed_82 (n : Nat) (z : ix_Z) (rec36 : Int32 → ix_D2 → Option (Int32 × ix_D2)) (a0 : Nat) (x1 : Int32) (x2 : Int32) (x3 : Int32) (d : ix_D2) : Option (Int32 × ix_D2) :=
  ix_ck (ix_ok z [8] a0) (ix_bd1 (z.1 a0 12) (fun b_64 => ix_ck (ix_ix z 20 b_64 x3) (ix_if (d.1 b_64 (ix_n x3) = 0) (f_X9_refuteAssumed_113 n z rec36 a0 x1 x2 x3 d) (ix_bd1 (z.1 a0 0) (fun b_83 => ix_ck (ix_ok z [1] b_83) (ix_bd1 (z.1 b_83 10) (fun b_86 => ix_ck (ix_ix z 20 b_86 x3) (ix_if (0 ≤ d.1 b_86 (ix_n x3)) (f_X9_refuteAssumed_113 n z rec36 a0 x1 x2 x3 d) (ix_lt (ix_di d b_64 (ix_n x3) 2) (fun d_90 => f_X9_refuteAssumed_135 n z rec36 a0 x1 x2 d_90))))))))))
noncomputable def b_X9_refuteAssumed_36 (n : Nat) (z : ix_Z)  (a0 : Nat) (x1 : Int32) (rec36 : Int32 → ix_D2 → Option (Int32 × ix_D2)) (x2 : Int32) (d : ix_D2) : Option (Int32 × ix_D2) :=
  ix_if (x2 < 0) (ix_ck (ix_ok z [8] a0) (ix_lt (ix_di d a0 14 0) (fun d_20 => f_X9_refuteAssumed_148 n z  a0 x1 0 d_20))) (ix_ck (ix_ok z [8] a0) (ix_bd1 (z.1 a0 0) (fun b_51 => ix_ck (ix_ok z [1] b_51) (ix_bd1 (z.1 b_51 11) (fun b_54 => ix_ck (ix_ix z 20 b_54 x2) (ix_lt (ix_abs (d.1 b_54 (ix_n x2))) (fun x3_57 => ix_bd1 (z.1 a0 12) (fun b_59 => ix_ck (ix_ix z 20 b_59 x3_57) (ix_if (d.1 b_59 (ix_n x3_57) = 0) (f_X9_refuteAssumed_82 n z rec36 a0 x1 x2 x3_57 d) (ix_bd1 (z.1 b_51 9) (fun b_92 => ix_ck (ix_ix z 20 b_92 x3_57) (ix_if (d.1 b_92 (ix_n x3_57) = 0) (ix_bd1 (f_X9_gatherName n z a0 x3_57 d) (fun d_96 => f_X9_refuteAssumed_135 n z rec36 a0 x1 x2 d_96)) (f_X9_refuteAssumed_82 n z rec36 a0 x1 x2 x3_57 d)))))))))))))
noncomputable def f_X9_refuteAssumed_36 (n : Nat) (z : ix_Z)  (a0 : Nat) (x1 : Int32) (x2 : Int32) (d : ix_D2) : Option (Int32 × ix_D2) := ix_fix (b_X9_refuteAssumed_36 n z  a0 x1) (fun _ _ => none) n x2 d
noncomputable def f_X9_refuteAssumed (n : Nat) (z : ix_Z) (a0 : Nat) (x1 : Int32) (d : ix_D2) : Option (Int32 × ix_D2) :=
  ix_ck (ix_ok z [8] a0) (ix_bd1 (z.1 a0 12) (fun b_2 => ix_bd1 (f_J7_fill_53178 n z b_2 0 d) (fun d_4 => ix_bd1 (z.1 a0 9) (fun b_6 => ix_bd1 (f_J7_fill_d0a16 n z b_6 0 d_4) (fun d_8 => ix_ck (ix_ix z 20 b_2 (ix_abs x1)) (ix_lt (ix_di d_8 b_2 (ix_n (ix_abs x1)) 1) (fun d_11 => ix_bd1 (z.1 a0 0) (fun b_13 => ix_ck (ix_ok z [1] b_13) (ix_lt ((d_11.1 b_13 12) - 1) (fun x2_16 => f_X9_refuteAssumed_36 n z  a0 x1 x2_16 d_11))))))))))
set_option maxRecDepth 20000 in
theorem t_X9_refuteAssumed_198 {l : Launch} {p : Program} {e : Env} {s : State} {m : MethodId} {args : Array Value} {below : List Frame} {meth : Method} {c : Code} {K : ix_Cx} (hKp : ix_Kp K) {n : Nat} {z : ix_Z} (X : ix_X p s m args c K cX9_refuteAssumed RX9 4) (hr : meth.sig.returnType = (some .int)) (hlk : meth.locks = false) {rec148 : Int32 → ix_D2 → Option (Int32 × ix_D2)} {a0 : Nat} {x1 : Int32} {x2 : Int32} {r : Int32} {d1 : ix_D2} (hrec148 : ∀ (x2 : Int32) (d : ix_D2), rec148 x2 d = some (r, d1) → ix_G p l e (ix_rm 3 70 0 0) s m args below meth c (MQ below (ix_Post K (some (.int r)) (ix_w z d1)) args s 0 0 (ix_A K)) K 4 0 0 148 [(0, .ref (K.2.2.1 + a0)), (1, .int x1), (2, .int x2)] [] (ix_w z d)) {d : ix_D2} (h : f_X9_refuteAssumed_198 n z rec148 a0 x1 x2 d = some (r, d1)) : ix_G p l e (ix_rm 3 70 0 0) s m args below meth c (MQ below (ix_Post K (some (.int r)) (ix_w z d1)) args s 0 0 (ix_A K)) K 4 0 0 198 [(0, .ref (K.2.2.1 + a0)), (1, .int x1), (2, .int x2)] [] (ix_w z d) := by
  unfold f_X9_refuteAssumed_198 at h
  obtain ⟨x2_37, e_38, h⟩ := ix_lt_ex h
  refine ix_iinc (i := 2) (j := 2) (v := x2_37) (L1 := [(2, .int x2_37), (0, .ref (K.2.2.1 + a0)), (1, .int x1)]) X (ix_tb_at tb_X9_refuteAssumed 108 rfl) rfl (by rw [oi_1]; exact e_38.symm) (Nat.le_of_ble_eq_true rfl) rfl (pc1 := 201) rfl ?_
  refine ix_goto (tgt := 148) X (ix_tb_at tb_X9_refuteAssumed 109 rfl) (by decide) ?_
  refine ix_sub (L1 := [(0, .ref (K.2.2.1 + a0)), (1, .int x1), (2, .int x2_37)]) [1, 2, 0] rfl ?_
  exact hrec148 x2_37 d h
set_option maxRecDepth 20000 in
theorem t_X9_refuteAssumed_192 {l : Launch} {p : Program} {e : Env} {s : State} {m : MethodId} {args : Array Value} {below : List Frame} {meth : Method} {c : Code} {K : ix_Cx} (hKp : ix_Kp K) {n : Nat} {z : ix_Z} (X : ix_X p s m args c K cX9_refuteAssumed RX9 4) (hr : meth.sig.returnType = (some .int)) (hlk : meth.locks = false) {rec148 : Int32 → ix_D2 → Option (Int32 × ix_D2)} {a0 : Nat} {x1 : Int32} {x2 : Int32} {x3 : Int32} {r : Int32} {d1 : ix_D2} (hrec148 : ∀ (x2 : Int32) (d : ix_D2), rec148 x2 d = some (r, d1) → ix_G p l e (ix_rm 3 70 0 0) s m args below meth c (MQ below (ix_Post K (some (.int r)) (ix_w z d1)) args s 0 0 (ix_A K)) K 4 0 0 148 [(0, .ref (K.2.2.1 + a0)), (1, .int x1), (2, .int x2)] [] (ix_w z d)) {d : ix_D2} (h : f_X9_refuteAssumed_192 n z rec148 a0 x1 x2 x3 d = some (r, d1)) : ix_G p l e (ix_rm 3 70 0 0) s m args below meth c (MQ below (ix_Post K (some (.int r)) (ix_w z d1)) args s 0 0 (ix_A K)) K 4 0 0 192 [(0, .ref (K.2.2.1 + a0)), (1, .int x1), (2, .int x2), (3, .int x3)] [] (ix_w z d) := by
  unfold f_X9_refuteAssumed_192 at h
  refine ix_aload_n (i := 0) (j := 0) X (ix_tb_at tb_X9_refuteAssumed 104 rfl) rfl rfl (pc1 := 193) rfl ?_
  refine ix_iload_n (i := 3) (j := 3) X (ix_tb_at tb_X9_refuteAssumed 105 rfl) rfl rfl (pc1 := 194) rfl ?_
  refine ix_ineg X (ix_tb_at tb_X9_refuteAssumed 106 rfl) (pc1 := 195) rfl ?_
  obtain ⟨k_36, h⟩ := ix_ck_some h
  obtain ⟨d_34, h_35, h⟩ := ix_bd1_ex h
  refine ix_callV (As := [.int (-x3)]) (rest := []) (ci := 8) (T := TX9) (nf := 20) X mf_X9_pushFresh mi_X9_pushFresh ms_X9_pushFresh rfl (Nat.le_of_ble_eq_true rfl) ml_RX9_139 ⟨Nat.le_of_ble_eq_true rfl, Nat.le_of_ble_eq_true rfl⟩ ⟨Nat.le_of_ble_eq_true rfl, Nat.le_of_ble_eq_true rfl⟩ rfl (Nat.le_of_ble_eq_true rfl) (ix_tb_at tb_X9_refuteAssumed 107 rfl) ⟨k_36.1, List.mem_singleton.mp k_36.2⟩ (c_X9_pushFresh hKp h_35) rfl (pc1 := 198) rfl ?_
  refine ix_sub (L1 := [(0, .ref (K.2.2.1 + a0)), (1, .int x1), (2, .int x2)]) [0, 1, 2] rfl ?_
  exact t_X9_refuteAssumed_198 hKp X hr hlk hrec148 h
set_option maxRecDepth 20000 in
theorem tb_X9_refuteAssumed_148 {l : Launch} {p : Program} {e : Env} {s : State} {m : MethodId} {args : Array Value} {below : List Frame} {meth : Method} {c : Code} {K : ix_Cx} (hKp : ix_Kp K) {n : Nat} {z : ix_Z} (X : ix_X p s m args c K cX9_refuteAssumed RX9 4) (hr : meth.sig.returnType = (some .int)) (hlk : meth.locks = false)  {a0 : Nat} {x1 : Int32} {rec148 : Int32 → ix_D2 → Option (Int32 × ix_D2)} {r : Int32} {d1 : ix_D2} (hrec148 : ∀ (x2 : Int32) (d : ix_D2), rec148 x2 d = some (r, d1) → ix_G p l e (ix_rm 3 70 0 0) s m args below meth c (MQ below (ix_Post K (some (.int r)) (ix_w z d1)) args s 0 0 (ix_A K)) K 4 0 0 148 [(0, .ref (K.2.2.1 + a0)), (1, .int x1), (2, .int x2)] [] (ix_w z d)) {x2 : Int32} {d : ix_D2} (h : b_X9_refuteAssumed_148 n z  a0 x1 rec148 x2 d = some (r, d1)) : ix_G p l e (ix_rm 3 70 0 0) s m args below meth c (MQ below (ix_Post K (some (.int r)) (ix_w z d1)) args s 0 0 (ix_A K)) K 4 0 0 148 [(0, .ref (K.2.2.1 + a0)), (1, .int x1), (2, .int x2)] [] (ix_w z d) := by
  unfold b_X9_refuteAssumed_148 at h
  refine ix_iload_n (i := 2) (j := 2) X (ix_tb_at tb_X9_refuteAssumed 80 rfl) rfl rfl (pc1 := 149) rfl ?_
  refine ix_aload_n (i := 0) (j := 0) X (ix_tb_at tb_X9_refuteAssumed 81 rfl) rfl rfl (pc1 := 150) rfl ?_
  obtain ⟨k_22, h⟩ := ix_ck_some h
  refine iz_getI X fl_RX9_86 k_22 (ix_tb_at tb_X9_refuteAssumed 82 rfl) (pc1 := 153) rfl ?_
  refine ix_icmp_ge (tgt := 204) X (ix_tb_at tb_X9_refuteAssumed 83 rfl) (by decide) (pc1 := 156) rfl (fun q_23 => ?_) (fun q_23 => ?_)
  · have h := ix_ift q_23 h
    refine ix_aload_n (i := 0) (j := 0) X (ix_tb_at tb_X9_refuteAssumed 110 rfl) rfl rfl (pc1 := 205) rfl ?_
    obtain ⟨r_26, d_24, h_25, h⟩ := ix_bd2_ex h
    refine ix_callV (As := []) (rest := []) (ci := 8) (T := TX9) (nf := 20) X mf_X9_keepLast mi_X9_keepLast ms_X9_keepLast rfl (Nat.le_of_ble_eq_true rfl) ml_RX9_305 ⟨Nat.le_of_ble_eq_true rfl, Nat.le_of_ble_eq_true rfl⟩ ⟨Nat.le_of_ble_eq_true rfl, Nat.le_of_ble_eq_true rfl⟩ rfl (Nat.le_of_ble_eq_true rfl) (ix_tb_at tb_X9_refuteAssumed 111 rfl) ⟨k_22.1, List.mem_singleton.mp k_22.2⟩ (c_X9_keepLast hKp h_25) rfl (pc1 := 208) rfl ?_
    refine ix_if_eq (tgt := 215) X (ix_tb_at tb_X9_refuteAssumed 112 rfl) (by decide) (pc1 := 211) rfl (fun q_27 => ?_) (fun q_27 => ?_)
    · have h := ix_ift q_27 h
      refine ix_sipush (v := (-1003)) X (ix_tb_at tb_X9_refuteAssumed 115 rfl) (by decide) (pc1 := 218) rfl ?_
      exact ix_iret X hr hlk (ix_r2 (f := fun r => some (.int r)) (g := ix_w z) h) (ix_tb_at tb_X9_refuteAssumed 116 rfl)
    · have h := ix_iff q_27 h
      refine ix_iconst (v := 0) X (ix_tb_at tb_X9_refuteAssumed 113 rfl) (by decide) (pc1 := 212) rfl ?_
      refine ix_goto (tgt := 218) X (ix_tb_at tb_X9_refuteAssumed 114 rfl) (by decide) ?_
      exact ix_iret X hr hlk (ix_r2 (f := fun r => some (.int r)) (g := ix_w z) h) (ix_tb_at tb_X9_refuteAssumed 116 rfl)
  · have h := ix_iff q_23 h
    refine ix_aload_n (i := 0) (j := 0) X (ix_tb_at tb_X9_refuteAssumed 84 rfl) rfl rfl (pc1 := 157) rfl ?_
    obtain ⟨b_28, q_29, h⟩ := ix_bd1_ex h
    refine iz_getR X fl_RX9_31 k_22 q_29 (ix_tb_at tb_X9_refuteAssumed 85 rfl) (pc1 := 160) rfl ?_
    refine ix_iload_n (i := 2) (j := 2) X (ix_tb_at tb_X9_refuteAssumed 86 rfl) rfl rfl (pc1 := 161) rfl ?_
    obtain ⟨k_30, h⟩ := ix_ck_some h
    refine iz_iald X k_30 (ix_tb_at tb_X9_refuteAssumed 87 rfl) (pc1 := 162) rfl ?_
    obtain ⟨x3_31, e_32, h⟩ := ix_lt_ex h
    refine ix_nmi e_32 ?_
    refine ix_istore_n (i := 3) (L1 := [(3, .int x3_31), (0, .ref (K.2.2.1 + a0)), (1, .int x1), (2, .int x2)]) X (ix_tb_at tb_X9_refuteAssumed 88 rfl) rfl (Nat.le_of_ble_eq_true rfl) rfl (pc1 := 163) rfl ?_
    refine ix_iload_n (i := 3) (j := 0) X (ix_tb_at tb_X9_refuteAssumed 89 rfl) rfl rfl (pc1 := 164) rfl ?_
    refine ix_iload_n (i := 1) (j := 2) X (ix_tb_at tb_X9_refuteAssumed 90 rfl) rfl rfl (pc1 := 165) rfl ?_
    refine ix_icmp_eq (tgt := 192) X (ix_tb_at tb_X9_refuteAssumed 91 rfl) (by decide) (pc1 := 168) rfl (fun q_33 => ?_) (fun q_33 => ?_)
    · have h := ix_ift q_33 h
      refine ix_sub (L1 := [(0, .ref (K.2.2.1 + a0)), (1, .int x1), (2, .int x2), (3, .int x3_31)]) [1, 2, 3, 0] rfl ?_
      exact t_X9_refuteAssumed_192 hKp X hr hlk hrec148 h
    · have h := ix_iff q_33 h
      refine ix_aload_n (i := 0) (j := 1) X (ix_tb_at tb_X9_refuteAssumed 92 rfl) rfl rfl (pc1 := 169) rfl ?_
      obtain ⟨b_39, q_40, h⟩ := ix_bd1_ex h
      refine iz_getR X fl_RX9_12 k_22 q_40 (ix_tb_at tb_X9_refuteAssumed 93 rfl) (pc1 := 172) rfl ?_
      refine ix_iload_n (i := 3) (j := 0) X (ix_tb_at tb_X9_refuteAssumed 94 rfl) rfl rfl (pc1 := 173) rfl ?_
      obtain ⟨k_43, h⟩ := ix_ck_some h
      obtain ⟨r_44, d_41, h_42, h⟩ := ix_bd2_ex h
      refine ix_callV (As := [.int x3_31]) (rest := []) (ci := 1) (T := TX1) (nf := 17) X mf_X1_isTrue mi_X1_isTrue ms_X1_isTrue rfl (Nat.le_of_ble_eq_true rfl) ml_RX9_135 ⟨Nat.le_of_ble_eq_true rfl, Nat.le_of_ble_eq_true rfl⟩ ⟨Nat.le_of_ble_eq_true rfl, Nat.le_of_ble_eq_true rfl⟩ rfl (Nat.le_of_ble_eq_true rfl) (ix_tb_at tb_X9_refuteAssumed 95 rfl) ⟨k_43.1, List.mem_singleton.mp k_43.2⟩ (c_X1_isTrue hKp h_42) rfl (pc1 := 176) rfl ?_
      refine ix_if_eq (tgt := 198) X (ix_tb_at tb_X9_refuteAssumed 96 rfl) (by decide) (pc1 := 179) rfl (fun q_45 => ?_) (fun q_45 => ?_)
      · have h := ix_ift q_45 h
        refine ix_sub (L1 := [(0, .ref (K.2.2.1 + a0)), (1, .int x1), (2, .int x2)]) [1, 2, 3] rfl ?_
        exact t_X9_refuteAssumed_198 hKp X hr hlk hrec148 h
      · have h := ix_iff q_45 h
        refine ix_aload_n (i := 0) (j := 1) X (ix_tb_at tb_X9_refuteAssumed 97 rfl) rfl rfl (pc1 := 180) rfl ?_
        obtain ⟨b_46, q_47, h⟩ := ix_bd1_ex h
        refine iz_getR X fl_RX9_53 k_22 q_47 (ix_tb_at tb_X9_refuteAssumed 98 rfl) (pc1 := 183) rfl ?_
        refine ix_iload_n (i := 3) (j := 0) X (ix_tb_at tb_X9_refuteAssumed 99 rfl) rfl rfl (pc1 := 184) rfl ?_
        refine ix_mabs X ml_RX9_201 (Nat.le_of_ble_eq_true rfl) (Nat.le_of_ble_eq_true rfl) ⟨Nat.le_of_ble_eq_true rfl, Nat.le_of_ble_eq_true rfl⟩ (ix_tb_at tb_X9_refuteAssumed 100 rfl) (pc1 := 187) rfl ?_
        obtain ⟨k_48, h⟩ := ix_ck_some h
        refine iz_iald X k_48 (ix_tb_at tb_X9_refuteAssumed 101 rfl) (pc1 := 188) rfl ?_
        refine ix_iconst (v := 2) X (ix_tb_at tb_X9_refuteAssumed 102 rfl) (by decide) (pc1 := 189) rfl ?_
        refine ix_icmp_ne (tgt := 198) X (ix_tb_at tb_X9_refuteAssumed 103 rfl) (by decide) (pc1 := 192) rfl (fun q_49 => ?_) (fun q_49 => ?_)
        · have h := ix_iff q_49 h
          refine ix_sub (L1 := [(0, .ref (K.2.2.1 + a0)), (1, .int x1), (2, .int x2)]) [1, 2, 3] rfl ?_
          exact t_X9_refuteAssumed_198 hKp X hr hlk hrec148 h
        · have h := ix_ift q_49 h
          refine ix_sub (L1 := [(0, .ref (K.2.2.1 + a0)), (1, .int x1), (2, .int x2), (3, .int x3_31)]) [1, 2, 3, 0] rfl ?_
          exact t_X9_refuteAssumed_192 hKp X hr hlk hrec148 h
theorem t_X9_refuteAssumed_148 {l : Launch} {p : Program} {e : Env} {s : State} {m : MethodId} {args : Array Value} {below : List Frame} {meth : Method} {c : Code} {K : ix_Cx} (hKp : ix_Kp K) {n : Nat} {z : ix_Z} (X : ix_X p s m args c K cX9_refuteAssumed RX9 4) (hr : meth.sig.returnType = (some .int)) (hlk : meth.locks = false)  {a0 : Nat} {x1 : Int32} {r : Int32} {d1 : ix_D2}  {x2 : Int32} {d : ix_D2} (h : f_X9_refuteAssumed_148 n z  a0 x1 x2 d = some (r, d1)) : ix_G p l e (ix_rm 3 70 0 0) s m args below meth c (MQ below (ix_Post K (some (.int r)) (ix_w z d1)) args s 0 0 (ix_A K)) K 4 0 0 148 [(0, .ref (K.2.2.1 + a0)), (1, .int x1), (2, .int x2)] [] (ix_w z d) := by
  have key : ∀ (f : Nat) (x2 : Int32) (d : ix_D2), ix_fix (b_X9_refuteAssumed_148 n z  a0 x1) (fun _ _ => none) f x2 d = some (r, d1) → ix_G p l e (ix_rm 3 70 0 0) s m args below meth c (MQ below (ix_Post K (some (.int r)) (ix_w z d1)) args s 0 0 (ix_A K)) K 4 0 0 148 [(0, .ref (K.2.2.1 + a0)), (1, .int x1), (2, .int x2)] [] (ix_w z d) := by
    intro f
    induction f with
    | zero =>
      intro x2 d h
      have h : (none : Option (Int32 × ix_D2)) = some (r, d1) := h
      cases h
    | succ f ih =>
      intro x2 d h
      exact tb_X9_refuteAssumed_148 hKp X hr hlk (rec148 := ix_fix (b_X9_refuteAssumed_148 n z  a0 x1) (fun _ _ => none) f)  ih h
  exact key n x2 d h
set_option maxRecDepth 20000 in
theorem t_X9_refuteAssumed_135 {l : Launch} {p : Program} {e : Env} {s : State} {m : MethodId} {args : Array Value} {below : List Frame} {meth : Method} {c : Code} {K : ix_Cx} (hKp : ix_Kp K) {n : Nat} {z : ix_Z} (X : ix_X p s m args c K cX9_refuteAssumed RX9 4) (hr : meth.sig.returnType = (some .int)) (hlk : meth.locks = false) {rec36 : Int32 → ix_D2 → Option (Int32 × ix_D2)} {a0 : Nat} {x1 : Int32} {x2 : Int32} {r : Int32} {d1 : ix_D2} (hrec36 : ∀ (x2 : Int32) (d : ix_D2), rec36 x2 d = some (r, d1) → ix_G p l e (ix_rm 3 70 0 0) s m args below meth c (MQ below (ix_Post K (some (.int r)) (ix_w z d1)) args s 0 0 (ix_A K)) K 4 0 0 36 [(0, .ref (K.2.2.1 + a0)), (1, .int x1), (2, .int x2)] [] (ix_w z d)) {d : ix_D2} (h : f_X9_refuteAssumed_135 n z rec36 a0 x1 x2 d = some (r, d1)) : ix_G p l e (ix_rm 3 70 0 0) s m args below meth c (MQ below (ix_Post K (some (.int r)) (ix_w z d1)) args s 0 0 (ix_A K)) K 4 0 0 135 [(0, .ref (K.2.2.1 + a0)), (1, .int x1), (2, .int x2)] [] (ix_w z d) := by
  unfold f_X9_refuteAssumed_135 at h
  obtain ⟨x2_73, e_74, h⟩ := ix_lt_ex h
  refine ix_iinc (i := 2) (j := 2) (v := x2_73) (L1 := [(2, .int x2_73), (0, .ref (K.2.2.1 + a0)), (1, .int x1)]) X (ix_tb_at tb_X9_refuteAssumed 73 rfl) rfl (by rw [oi_m1]; exact e_74.symm) (Nat.le_of_ble_eq_true rfl) rfl (pc1 := 138) rfl ?_
  refine ix_goto (tgt := 36) X (ix_tb_at tb_X9_refuteAssumed 74 rfl) (by decide) ?_
  refine ix_sub (L1 := [(0, .ref (K.2.2.1 + a0)), (1, .int x1), (2, .int x2_73)]) [1, 2, 0] rfl ?_
  exact hrec36 x2_73 d h
set_option maxRecDepth 20000 in
theorem t_X9_refuteAssumed_113 {l : Launch} {p : Program} {e : Env} {s : State} {m : MethodId} {args : Array Value} {below : List Frame} {meth : Method} {c : Code} {K : ix_Cx} (hKp : ix_Kp K) {n : Nat} {z : ix_Z} (X : ix_X p s m args c K cX9_refuteAssumed RX9 4) (hr : meth.sig.returnType = (some .int)) (hlk : meth.locks = false) {rec36 : Int32 → ix_D2 → Option (Int32 × ix_D2)} {a0 : Nat} {x1 : Int32} {x2 : Int32} {x3 : Int32} {r : Int32} {d1 : ix_D2} (hrec36 : ∀ (x2 : Int32) (d : ix_D2), rec36 x2 d = some (r, d1) → ix_G p l e (ix_rm 3 70 0 0) s m args below meth c (MQ below (ix_Post K (some (.int r)) (ix_w z d1)) args s 0 0 (ix_A K)) K 4 0 0 36 [(0, .ref (K.2.2.1 + a0)), (1, .int x1), (2, .int x2)] [] (ix_w z d)) {d : ix_D2} (h : f_X9_refuteAssumed_113 n z rec36 a0 x1 x2 x3 d = some (r, d1)) : ix_G p l e (ix_rm 3 70 0 0) s m args below meth c (MQ below (ix_Post K (some (.int r)) (ix_w z d1)) args s 0 0 (ix_A K)) K 4 0 0 113 [(0, .ref (K.2.2.1 + a0)), (1, .int x1), (2, .int x2), (3, .int x3)] [] (ix_w z d) := by
  unfold f_X9_refuteAssumed_113 at h
  refine ix_aload_n (i := 0) (j := 0) X (ix_tb_at tb_X9_refuteAssumed 61 rfl) rfl rfl (pc1 := 114) rfl ?_
  obtain ⟨k_68, h⟩ := ix_ck_some h
  obtain ⟨b_69, q_70, h⟩ := ix_bd1_ex h
  refine iz_getR X fl_RX9_53 k_68 q_70 (ix_tb_at tb_X9_refuteAssumed 62 rfl) (pc1 := 117) rfl ?_
  refine ix_iload_n (i := 3) (j := 3) X (ix_tb_at tb_X9_refuteAssumed 63 rfl) rfl rfl (pc1 := 118) rfl ?_
  obtain ⟨k_71, h⟩ := ix_ck_some h
  refine iz_iald X k_71 (ix_tb_at tb_X9_refuteAssumed 64 rfl) (pc1 := 119) rfl ?_
  refine ix_if_eq (tgt := 135) X (ix_tb_at tb_X9_refuteAssumed 65 rfl) (by decide) (pc1 := 122) rfl (fun q_72 => ?_) (fun q_72 => ?_)
  · have h := ix_ift q_72 h
    refine ix_sub (L1 := [(0, .ref (K.2.2.1 + a0)), (1, .int x1), (2, .int x2)]) [0, 1, 2] rfl ?_
    exact t_X9_refuteAssumed_135 hKp X hr hlk hrec36 h
  · have h := ix_iff q_72 h
    refine ix_aload_n (i := 0) (j := 0) X (ix_tb_at tb_X9_refuteAssumed 66 rfl) rfl rfl (pc1 := 123) rfl ?_
    refine ix_aload_n (i := 0) (j := 0) X (ix_tb_at tb_X9_refuteAssumed 67 rfl) rfl rfl (pc1 := 124) rfl ?_
    obtain ⟨b_75, q_76, h⟩ := ix_bd1_ex h
    refine iz_getR X fl_RX9_12 k_68 q_76 (ix_tb_at tb_X9_refuteAssumed 68 rfl) (pc1 := 127) rfl ?_
    obtain ⟨k_77, h⟩ := ix_ck_some h
    obtain ⟨b_78, q_79, h⟩ := ix_bd1_ex h
    refine iz_getR X fl_RX9_253 k_77 q_79 (ix_tb_at tb_X9_refuteAssumed 69 rfl) (pc1 := 130) rfl ?_
    refine ix_iload_n (i := 3) (j := 3) X (ix_tb_at tb_X9_refuteAssumed 70 rfl) rfl rfl (pc1 := 131) rfl ?_
    obtain ⟨k_80, h⟩ := ix_ck_some h
    refine iz_iald X k_80 (ix_tb_at tb_X9_refuteAssumed 71 rfl) (pc1 := 132) rfl ?_
    obtain ⟨d_81, h_82, h⟩ := ix_bd1_ex h
    refine ix_callV (As := [.int (d.1 b_78 (ix_n x3))]) (rest := []) (ci := 8) (T := TX9) (nf := 20) X mf_X9_markReason mi_X9_markReason ms_X9_markReason rfl (Nat.le_of_ble_eq_true rfl) ml_RX9_309 ⟨Nat.le_of_ble_eq_true rfl, Nat.le_of_ble_eq_true rfl⟩ ⟨Nat.le_of_ble_eq_true rfl, Nat.le_of_ble_eq_true rfl⟩ rfl (Nat.le_of_ble_eq_true rfl) (ix_tb_at tb_X9_refuteAssumed 72 rfl) ⟨k_68.1, List.mem_singleton.mp k_68.2⟩ (c_X9_markReason hKp h_82) rfl (pc1 := 135) rfl ?_
    refine ix_sub (L1 := [(0, .ref (K.2.2.1 + a0)), (1, .int x1), (2, .int x2)]) [0, 1, 2] rfl ?_
    exact t_X9_refuteAssumed_135 hKp X hr hlk hrec36 h
set_option maxRecDepth 20000 in
theorem t_X9_refuteAssumed_82 {l : Launch} {p : Program} {e : Env} {s : State} {m : MethodId} {args : Array Value} {below : List Frame} {meth : Method} {c : Code} {K : ix_Cx} (hKp : ix_Kp K) {n : Nat} {z : ix_Z} (X : ix_X p s m args c K cX9_refuteAssumed RX9 4) (hr : meth.sig.returnType = (some .int)) (hlk : meth.locks = false) {rec36 : Int32 → ix_D2 → Option (Int32 × ix_D2)} {a0 : Nat} {x1 : Int32} {x2 : Int32} {x3 : Int32} {r : Int32} {d1 : ix_D2} (hrec36 : ∀ (x2 : Int32) (d : ix_D2), rec36 x2 d = some (r, d1) → ix_G p l e (ix_rm 3 70 0 0) s m args below meth c (MQ below (ix_Post K (some (.int r)) (ix_w z d1)) args s 0 0 (ix_A K)) K 4 0 0 36 [(0, .ref (K.2.2.1 + a0)), (1, .int x1), (2, .int x2)] [] (ix_w z d)) {d : ix_D2} (h : f_X9_refuteAssumed_82 n z rec36 a0 x1 x2 x3 d = some (r, d1)) : ix_G p l e (ix_rm 3 70 0 0) s m args below meth c (MQ below (ix_Post K (some (.int r)) (ix_w z d1)) args s 0 0 (ix_A K)) K 4 0 0 82 [(0, .ref (K.2.2.1 + a0)), (1, .int x1), (2, .int x2), (3, .int x3)] [] (ix_w z d) := by
  unfold f_X9_refuteAssumed_82 at h
  refine ix_aload_n (i := 0) (j := 0) X (ix_tb_at tb_X9_refuteAssumed 44 rfl) rfl rfl (pc1 := 83) rfl ?_
  obtain ⟨k_63, h⟩ := ix_ck_some h
  obtain ⟨b_64, q_65, h⟩ := ix_bd1_ex h
  refine iz_getR X fl_RX9_53 k_63 q_65 (ix_tb_at tb_X9_refuteAssumed 45 rfl) (pc1 := 86) rfl ?_
  refine ix_iload_n (i := 3) (j := 3) X (ix_tb_at tb_X9_refuteAssumed 46 rfl) rfl rfl (pc1 := 87) rfl ?_
  obtain ⟨k_66, h⟩ := ix_ck_some h
  refine iz_iald X k_66 (ix_tb_at tb_X9_refuteAssumed 47 rfl) (pc1 := 88) rfl ?_
  refine ix_if_eq (tgt := 113) X (ix_tb_at tb_X9_refuteAssumed 48 rfl) (by decide) (pc1 := 91) rfl (fun q_67 => ?_) (fun q_67 => ?_)
  · have h := ix_ift q_67 h
    refine ix_sub (L1 := [(0, .ref (K.2.2.1 + a0)), (1, .int x1), (2, .int x2), (3, .int x3)]) [0, 1, 2, 3] rfl ?_
    exact t_X9_refuteAssumed_113 hKp X hr hlk hrec36 h
  · have h := ix_iff q_67 h
    refine ix_aload_n (i := 0) (j := 0) X (ix_tb_at tb_X9_refuteAssumed 49 rfl) rfl rfl (pc1 := 92) rfl ?_
    obtain ⟨b_83, q_84, h⟩ := ix_bd1_ex h
    refine iz_getR X fl_RX9_12 k_63 q_84 (ix_tb_at tb_X9_refuteAssumed 50 rfl) (pc1 := 95) rfl ?_
    obtain ⟨k_85, h⟩ := ix_ck_some h
    obtain ⟨b_86, q_87, h⟩ := ix_bd1_ex h
    refine iz_getR X fl_RX9_253 k_85 q_87 (ix_tb_at tb_X9_refuteAssumed 51 rfl) (pc1 := 98) rfl ?_
    refine ix_iload_n (i := 3) (j := 3) X (ix_tb_at tb_X9_refuteAssumed 52 rfl) rfl rfl (pc1 := 99) rfl ?_
    obtain ⟨k_88, h⟩ := ix_ck_some h
    refine iz_iald X k_88 (ix_tb_at tb_X9_refuteAssumed 53 rfl) (pc1 := 100) rfl ?_
    refine ix_if_ge (tgt := 113) X (ix_tb_at tb_X9_refuteAssumed 54 rfl) (by decide) (pc1 := 103) rfl (fun q_89 => ?_) (fun q_89 => ?_)
    · have h := ix_ift q_89 h
      refine ix_sub (L1 := [(0, .ref (K.2.2.1 + a0)), (1, .int x1), (2, .int x2), (3, .int x3)]) [0, 1, 2, 3] rfl ?_
      exact t_X9_refuteAssumed_113 hKp X hr hlk hrec36 h
    · have h := ix_iff q_89 h
      refine ix_aload_n (i := 0) (j := 0) X (ix_tb_at tb_X9_refuteAssumed 55 rfl) rfl rfl (pc1 := 104) rfl ?_
      refine iz_getR X fl_RX9_53 k_63 q_65 (ix_tb_at tb_X9_refuteAssumed 56 rfl) (pc1 := 107) rfl ?_
      refine ix_iload_n (i := 3) (j := 3) X (ix_tb_at tb_X9_refuteAssumed 57 rfl) rfl rfl (pc1 := 108) rfl ?_
      refine ix_iconst (v := 2) X (ix_tb_at tb_X9_refuteAssumed 58 rfl) (by decide) (pc1 := 109) rfl ?_
      obtain ⟨d_90, e_91, h⟩ := ix_lt_ex h
      refine iz_iast X k_66 (ix_tb_at tb_X9_refuteAssumed 59 rfl) e_91 (pc1 := 110) rfl ?_
      refine ix_goto (tgt := 135) X (ix_tb_at tb_X9_refuteAssumed 60 rfl) (by decide) ?_
      refine ix_sub (L1 := [(0, .ref (K.2.2.1 + a0)), (1, .int x1), (2, .int x2)]) [0, 1, 2] rfl ?_
      exact t_X9_refuteAssumed_135 hKp X hr hlk hrec36 h
set_option maxRecDepth 20000 in
theorem tb_X9_refuteAssumed_36 {l : Launch} {p : Program} {e : Env} {s : State} {m : MethodId} {args : Array Value} {below : List Frame} {meth : Method} {c : Code} {K : ix_Cx} (hKp : ix_Kp K) {n : Nat} {z : ix_Z} (X : ix_X p s m args c K cX9_refuteAssumed RX9 4) (hr : meth.sig.returnType = (some .int)) (hlk : meth.locks = false)  {a0 : Nat} {x1 : Int32} {rec36 : Int32 → ix_D2 → Option (Int32 × ix_D2)} {r : Int32} {d1 : ix_D2} (hrec36 : ∀ (x2 : Int32) (d : ix_D2), rec36 x2 d = some (r, d1) → ix_G p l e (ix_rm 3 70 0 0) s m args below meth c (MQ below (ix_Post K (some (.int r)) (ix_w z d1)) args s 0 0 (ix_A K)) K 4 0 0 36 [(0, .ref (K.2.2.1 + a0)), (1, .int x1), (2, .int x2)] [] (ix_w z d)) {x2 : Int32} {d : ix_D2} (h : b_X9_refuteAssumed_36 n z  a0 x1 rec36 x2 d = some (r, d1)) : ix_G p l e (ix_rm 3 70 0 0) s m args below meth c (MQ below (ix_Post K (some (.int r)) (ix_w z d1)) args s 0 0 (ix_A K)) K 4 0 0 36 [(0, .ref (K.2.2.1 + a0)), (1, .int x1), (2, .int x2)] [] (ix_w z d) := by
  unfold b_X9_refuteAssumed_36 at h
  refine ix_iload_n (i := 2) (j := 2) X (ix_tb_at tb_X9_refuteAssumed 20 rfl) rfl rfl (pc1 := 37) rfl ?_
  refine ix_if_lt (tgt := 141) X (ix_tb_at tb_X9_refuteAssumed 21 rfl) (by decide) (pc1 := 40) rfl (fun q_18 => ?_) (fun q_18 => ?_)
  · have h := ix_ift q_18 h
    refine ix_aload_n (i := 0) (j := 0) X (ix_tb_at tb_X9_refuteAssumed 75 rfl) rfl rfl (pc1 := 142) rfl ?_
    refine ix_iconst (v := 0) X (ix_tb_at tb_X9_refuteAssumed 76 rfl) (by decide) (pc1 := 143) rfl ?_
    obtain ⟨k_19, h⟩ := ix_ck_some h
    obtain ⟨d_20, e_21, h⟩ := ix_lt_ex h
    refine iz_putI X fp_RX9_128 k_19 (ix_tb_at tb_X9_refuteAssumed 77 rfl) e_21 (pc1 := 146) rfl ?_
    refine ix_iconst (v := 0) X (ix_tb_at tb_X9_refuteAssumed 78 rfl) (by decide) (pc1 := 147) rfl ?_
    refine ix_istore_n (i := 2) (L1 := [(2, .int 0), (0, .ref (K.2.2.1 + a0)), (1, .int x1)]) X (ix_tb_at tb_X9_refuteAssumed 79 rfl) rfl (Nat.le_of_ble_eq_true rfl) rfl (pc1 := 148) rfl ?_
    refine ix_sub (L1 := [(0, .ref (K.2.2.1 + a0)), (1, .int x1), (2, .int 0)]) [1, 2, 0] rfl ?_
    exact t_X9_refuteAssumed_148 hKp X hr hlk  h
  · have h := ix_iff q_18 h
    refine ix_aload_n (i := 0) (j := 0) X (ix_tb_at tb_X9_refuteAssumed 22 rfl) rfl rfl (pc1 := 41) rfl ?_
    obtain ⟨k_50, h⟩ := ix_ck_some h
    obtain ⟨b_51, q_52, h⟩ := ix_bd1_ex h
    refine iz_getR X fl_RX9_12 k_50 q_52 (ix_tb_at tb_X9_refuteAssumed 23 rfl) (pc1 := 44) rfl ?_
    obtain ⟨k_53, h⟩ := ix_ck_some h
    obtain ⟨b_54, q_55, h⟩ := ix_bd1_ex h
    refine iz_getR X fl_RX9_247 k_53 q_55 (ix_tb_at tb_X9_refuteAssumed 24 rfl) (pc1 := 47) rfl ?_
    refine ix_iload_n (i := 2) (j := 2) X (ix_tb_at tb_X9_refuteAssumed 25 rfl) rfl rfl (pc1 := 48) rfl ?_
    obtain ⟨k_56, h⟩ := ix_ck_some h
    refine iz_iald X k_56 (ix_tb_at tb_X9_refuteAssumed 26 rfl) (pc1 := 49) rfl ?_
    refine ix_mabs X ml_RX9_201 (Nat.le_of_ble_eq_true rfl) (Nat.le_of_ble_eq_true rfl) ⟨Nat.le_of_ble_eq_true rfl, Nat.le_of_ble_eq_true rfl⟩ (ix_tb_at tb_X9_refuteAssumed 27 rfl) (pc1 := 52) rfl ?_
    obtain ⟨x3_57, e_58, h⟩ := ix_lt_ex h
    refine ix_nmi e_58 ?_
    refine ix_istore_n (i := 3) (L1 := [(3, .int x3_57), (0, .ref (K.2.2.1 + a0)), (1, .int x1), (2, .int x2)]) X (ix_tb_at tb_X9_refuteAssumed 28 rfl) rfl (Nat.le_of_ble_eq_true rfl) rfl (pc1 := 53) rfl ?_
    refine ix_aload_n (i := 0) (j := 1) X (ix_tb_at tb_X9_refuteAssumed 29 rfl) rfl rfl (pc1 := 54) rfl ?_
    obtain ⟨b_59, q_60, h⟩ := ix_bd1_ex h
    refine iz_getR X fl_RX9_53 k_50 q_60 (ix_tb_at tb_X9_refuteAssumed 30 rfl) (pc1 := 57) rfl ?_
    refine ix_iload_n (i := 3) (j := 0) X (ix_tb_at tb_X9_refuteAssumed 31 rfl) rfl rfl (pc1 := 58) rfl ?_
    obtain ⟨k_61, h⟩ := ix_ck_some h
    refine iz_iald X k_61 (ix_tb_at tb_X9_refuteAssumed 32 rfl) (pc1 := 59) rfl ?_
    refine ix_if_eq (tgt := 82) X (ix_tb_at tb_X9_refuteAssumed 33 rfl) (by decide) (pc1 := 62) rfl (fun q_62 => ?_) (fun q_62 => ?_)
    · have h := ix_ift q_62 h
      refine ix_sub (L1 := [(0, .ref (K.2.2.1 + a0)), (1, .int x1), (2, .int x2), (3, .int x3_57)]) [1, 2, 3, 0] rfl ?_
      exact t_X9_refuteAssumed_82 hKp X hr hlk hrec36 h
    · have h := ix_iff q_62 h
      refine ix_aload_n (i := 0) (j := 1) X (ix_tb_at tb_X9_refuteAssumed 34 rfl) rfl rfl (pc1 := 63) rfl ?_
      refine iz_getR X fl_RX9_12 k_50 q_52 (ix_tb_at tb_X9_refuteAssumed 35 rfl) (pc1 := 66) rfl ?_
      obtain ⟨b_92, q_93, h⟩ := ix_bd1_ex h
      refine iz_getR X fl_RX9_250 k_53 q_93 (ix_tb_at tb_X9_refuteAssumed 36 rfl) (pc1 := 69) rfl ?_
      refine ix_iload_n (i := 3) (j := 0) X (ix_tb_at tb_X9_refuteAssumed 37 rfl) rfl rfl (pc1 := 70) rfl ?_
      obtain ⟨k_94, h⟩ := ix_ck_some h
      refine iz_iald X k_94 (ix_tb_at tb_X9_refuteAssumed 38 rfl) (pc1 := 71) rfl ?_
      refine ix_if_ne (tgt := 82) X (ix_tb_at tb_X9_refuteAssumed 39 rfl) (by decide) (pc1 := 74) rfl (fun q_95 => ?_) (fun q_95 => ?_)
      · have h := ix_iff q_95 h
        refine ix_sub (L1 := [(0, .ref (K.2.2.1 + a0)), (1, .int x1), (2, .int x2), (3, .int x3_57)]) [1, 2, 3, 0] rfl ?_
        exact t_X9_refuteAssumed_82 hKp X hr hlk hrec36 h
      · have h := ix_ift q_95 h
        refine ix_aload_n (i := 0) (j := 1) X (ix_tb_at tb_X9_refuteAssumed 40 rfl) rfl rfl (pc1 := 75) rfl ?_
        refine ix_iload_n (i := 3) (j := 0) X (ix_tb_at tb_X9_refuteAssumed 41 rfl) rfl rfl (pc1 := 76) rfl ?_
        obtain ⟨d_96, h_97, h⟩ := ix_bd1_ex h
        refine ix_callV (As := [.int x3_57]) (rest := []) (ci := 8) (T := TX9) (nf := 20) X mf_X9_gatherName mi_X9_gatherName ms_X9_gatherName rfl (Nat.le_of_ble_eq_true rfl) ml_RX9_265 ⟨Nat.le_of_ble_eq_true rfl, Nat.le_of_ble_eq_true rfl⟩ ⟨Nat.le_of_ble_eq_true rfl, Nat.le_of_ble_eq_true rfl⟩ rfl (Nat.le_of_ble_eq_true rfl) (ix_tb_at tb_X9_refuteAssumed 42 rfl) ⟨k_50.1, List.mem_singleton.mp k_50.2⟩ (c_X9_gatherName hKp h_97) rfl (pc1 := 79) rfl ?_
        refine ix_goto (tgt := 135) X (ix_tb_at tb_X9_refuteAssumed 43 rfl) (by decide) ?_
        refine ix_sub (L1 := [(0, .ref (K.2.2.1 + a0)), (1, .int x1), (2, .int x2)]) [1, 2, 3] rfl ?_
        exact t_X9_refuteAssumed_135 hKp X hr hlk hrec36 h
theorem t_X9_refuteAssumed_36 {l : Launch} {p : Program} {e : Env} {s : State} {m : MethodId} {args : Array Value} {below : List Frame} {meth : Method} {c : Code} {K : ix_Cx} (hKp : ix_Kp K) {n : Nat} {z : ix_Z} (X : ix_X p s m args c K cX9_refuteAssumed RX9 4) (hr : meth.sig.returnType = (some .int)) (hlk : meth.locks = false)  {a0 : Nat} {x1 : Int32} {r : Int32} {d1 : ix_D2}  {x2 : Int32} {d : ix_D2} (h : f_X9_refuteAssumed_36 n z  a0 x1 x2 d = some (r, d1)) : ix_G p l e (ix_rm 3 70 0 0) s m args below meth c (MQ below (ix_Post K (some (.int r)) (ix_w z d1)) args s 0 0 (ix_A K)) K 4 0 0 36 [(0, .ref (K.2.2.1 + a0)), (1, .int x1), (2, .int x2)] [] (ix_w z d) := by
  have key : ∀ (f : Nat) (x2 : Int32) (d : ix_D2), ix_fix (b_X9_refuteAssumed_36 n z  a0 x1) (fun _ _ => none) f x2 d = some (r, d1) → ix_G p l e (ix_rm 3 70 0 0) s m args below meth c (MQ below (ix_Post K (some (.int r)) (ix_w z d1)) args s 0 0 (ix_A K)) K 4 0 0 36 [(0, .ref (K.2.2.1 + a0)), (1, .int x1), (2, .int x2)] [] (ix_w z d) := by
    intro f
    induction f with
    | zero =>
      intro x2 d h
      have h : (none : Option (Int32 × ix_D2)) = some (r, d1) := h
      cases h
    | succ f ih =>
      intro x2 d h
      exact tb_X9_refuteAssumed_36 hKp X hr hlk (rec36 := ix_fix (b_X9_refuteAssumed_36 n z  a0 x1) (fun _ _ => none) f)  ih h
  exact key n x2 d h
set_option maxRecDepth 20000 in
theorem c_X9_refuteAssumed {l : Launch} {K : ix_Cx} (hKp : ix_Kp K) {n : Nat} {z : ix_Z} {a0 : Nat} {x1 : Int32} {d : ix_D2} {r : Int32} {d1 : ix_D2} (h : f_X9_refuteAssumed n z a0 x1 d = some (r, d1)) : ix_M l K yX9_refuteAssumed cX9_refuteAssumed 4 (some .int) 3 70 0 0 [.ref (K.2.2.1 + a0), .int x1] (ix_w z d) (some (.int r)) (ix_w z d1) := by
  refine ix_met mf_X9_refuteAssumed hKp (Nat.le_of_ble_eq_true rfl) ?_
  intro p e s m args below meth c hr hlk hnm X
  have X : ix_X p s m args c K cX9_refuteAssumed RX9 4 := X
  show ix_G p l e (ix_rm 3 70 0 0) s m args below meth c (MQ below (ix_Post K (some (.int r)) (ix_w z d1)) args s 0 0 (ix_A K)) K 4 0 0 0 [(0, .ref (K.2.2.1 + a0)), (1, .int x1)] [] (ix_w z d)
  unfold f_X9_refuteAssumed at h
  refine ix_aload_n (i := 0) (j := 0) X (ix_tb_at tb_X9_refuteAssumed 0 rfl) rfl rfl (pc1 := 1) rfl ?_
  obtain ⟨k_1, h⟩ := ix_ck_some h
  obtain ⟨b_2, q_3, h⟩ := ix_bd1_ex h
  refine iz_getR X fl_RX9_53 k_1 q_3 (ix_tb_at tb_X9_refuteAssumed 1 rfl) (pc1 := 4) rfl ?_
  refine ix_iconst (v := 0) X (ix_tb_at tb_X9_refuteAssumed 2 rfl) (by decide) (pc1 := 5) rfl ?_
  obtain ⟨d_4, h_5, h⟩ := ix_bd1_ex h
  refine ix_callS (As := [.ref (K.2.2.1 + b_2), .int 0]) (rest := []) X mf_J7_fill_53178 st_J7_fill_53178 ml_RX9_62 ⟨Nat.le_of_ble_eq_true rfl, Nat.le_of_ble_eq_true rfl⟩ ⟨Nat.le_of_ble_eq_true rfl, Nat.le_of_ble_eq_true rfl⟩ rfl (Nat.le_of_ble_eq_true rfl) (ix_tb_at tb_X9_refuteAssumed 3 rfl) (c_J7_fill_53178 hKp h_5) rfl (pc1 := 8) rfl ?_
  refine ix_aload_n (i := 0) (j := 0) X (ix_tb_at tb_X9_refuteAssumed 4 rfl) rfl rfl (pc1 := 9) rfl ?_
  obtain ⟨b_6, q_7, h⟩ := ix_bd1_ex h
  refine iz_getR X fl_RX9_44 k_1 q_7 (ix_tb_at tb_X9_refuteAssumed 5 rfl) (pc1 := 12) rfl ?_
  refine ix_lconst (v := 0) X (ix_tb_at tb_X9_refuteAssumed 6 rfl) (by decide) (pc1 := 13) rfl ?_
  obtain ⟨d_8, h_9, h⟩ := ix_bd1_ex h
  refine ix_callS (As := [.ref (K.2.2.1 + b_6), .long 0]) (rest := []) X mf_J7_fill_d0a16 st_J7_fill_d0a16 ml_RX9_238 ⟨Nat.le_of_ble_eq_true rfl, Nat.le_of_ble_eq_true rfl⟩ ⟨Nat.le_of_ble_eq_true rfl, Nat.le_of_ble_eq_true rfl⟩ rfl (Nat.le_of_ble_eq_true rfl) (ix_tb_at tb_X9_refuteAssumed 7 rfl) (c_J7_fill_d0a16 hKp h_9) rfl (pc1 := 16) rfl ?_
  refine ix_aload_n (i := 0) (j := 0) X (ix_tb_at tb_X9_refuteAssumed 8 rfl) rfl rfl (pc1 := 17) rfl ?_
  refine iz_getR X fl_RX9_53 k_1 q_3 (ix_tb_at tb_X9_refuteAssumed 9 rfl) (pc1 := 20) rfl ?_
  refine ix_iload_n (i := 1) (j := 1) X (ix_tb_at tb_X9_refuteAssumed 10 rfl) rfl rfl (pc1 := 21) rfl ?_
  refine ix_mabs X ml_RX9_201 (Nat.le_of_ble_eq_true rfl) (Nat.le_of_ble_eq_true rfl) ⟨Nat.le_of_ble_eq_true rfl, Nat.le_of_ble_eq_true rfl⟩ (ix_tb_at tb_X9_refuteAssumed 11 rfl) (pc1 := 24) rfl ?_
  refine ix_iconst (v := 1) X (ix_tb_at tb_X9_refuteAssumed 12 rfl) (by decide) (pc1 := 25) rfl ?_
  obtain ⟨k_10, h⟩ := ix_ck_some h
  obtain ⟨d_11, e_12, h⟩ := ix_lt_ex h
  refine iz_iast X k_10 (ix_tb_at tb_X9_refuteAssumed 13 rfl) e_12 (pc1 := 26) rfl ?_
  refine ix_aload_n (i := 0) (j := 0) X (ix_tb_at tb_X9_refuteAssumed 14 rfl) rfl rfl (pc1 := 27) rfl ?_
  obtain ⟨b_13, q_14, h⟩ := ix_bd1_ex h
  refine iz_getR X fl_RX9_12 k_1 q_14 (ix_tb_at tb_X9_refuteAssumed 15 rfl) (pc1 := 30) rfl ?_
  obtain ⟨k_15, h⟩ := ix_ck_some h
  refine iz_getI X fl_RX9_244 k_15 (ix_tb_at tb_X9_refuteAssumed 16 rfl) (pc1 := 33) rfl ?_
  refine ix_iconst (v := 1) X (ix_tb_at tb_X9_refuteAssumed 17 rfl) (by decide) (pc1 := 34) rfl ?_
  refine ix_isub X (ix_tb_at tb_X9_refuteAssumed 18 rfl) (pc1 := 35) rfl ?_
  obtain ⟨x2_16, e_17, h⟩ := ix_lt_ex h
  refine ix_nmi e_17 ?_
  refine ix_istore_n (i := 2) (L1 := [(2, .int x2_16), (0, .ref (K.2.2.1 + a0)), (1, .int x1)]) X (ix_tb_at tb_X9_refuteAssumed 19 rfl) rfl (Nat.le_of_ble_eq_true rfl) rfl (pc1 := 36) rfl ?_
  refine ix_sub (L1 := [(0, .ref (K.2.2.1 + a0)), (1, .int x1), (2, .int x2_16)]) [1, 2, 0] rfl ?_
  exact t_X9_refuteAssumed_36 hKp X hr hlk  h
def tab_X9_decide : List (Nat × Instr × Nat) := [(0, .aload_n 0, 1), (1, .getfield 12, 3), (4, .dup, 1), (5, .getfield 153, 3), (8, .iconst 1, 1), (9, .iadd, 1), (10, .putfield 153, 3), (13, .aload_n 0, 1), (14, .getfield 47, 3), (17, .bipush 9, 2), (19, .aload_n 0, 1), (20, .getfield 47, 3), (23, .bipush 9, 2), (25, .iaload, 1), (26, .aload_n 0, 1), (27, .getfield 12, 3), (30, .getfield 153, 3), (33, .invokestatic 189, 3), (36, .iastore, 1), (37, .aload_n 0, 1), (38, .getfield 12, 3), (41, .iload_n 1, 1), (42, .iconst (-1), 1), (43, .invokevirtual 195, 3), (46, .aload_n 0, 1), (47, .getfield 47, 3), (50, .iconst 1, 1), (51, .dup2, 1), (52, .iaload, 1), (53, .iconst 1, 1), (54, .iadd, 1), (55, .iastore, 1), (56, .aload_n 0, 1), (57, .getfield 47, 3), (60, .iconst 3, 1), (61, .dup2, 1), (62, .iaload, 1), (63, .iconst 1, 1), (64, .iadd, 1), (65, .iastore, 1), (66, .iconst 2, 1), (67, .ireturn, 1)]
theorem tb_X9_decide : ix_tab cX9_decide tab_X9_decide := by
  unfold ix_tab
  decide +kernel
noncomputable def f_X9_decide (n : Nat) (z : ix_Z) (a0 : Nat) (x1 : Int32) (d : ix_D2) : Option (Int32 × ix_D2) :=
  ix_ck (ix_ok z [8] a0) (ix_bd1 (z.1 a0 0) (fun b_2 => ix_ck (ix_ok z [1] b_2) (ix_lt (ix_di d b_2 13 ((d.1 b_2 13) + 1)) (fun d_5 => ix_bd1 (z.1 a0 10) (fun b_7 => ix_ck (ix_ix z 20 b_7 9) (ix_lt (ix_di d_5 b_7 (ix_n 9) (ix_max (d_5.1 b_7 (ix_n 9)) (d_5.1 b_2 13))) (fun d_10 => ix_bd1 (f_X1_assign n z b_2 x1 ((-1)) d_10) (fun d_12 => ix_ck (ix_ix z 20 b_7 1) (ix_lt (ix_di d_12 b_7 (ix_n 1) ((d_12.1 b_7 (ix_n 1)) + 1)) (fun d_15 => ix_ck (ix_ix z 20 b_7 3) (ix_lt (ix_di d_15 b_7 (ix_n 3) ((d_15.1 b_7 (ix_n 3)) + 1)) (fun d_18 => some (2, d_18)))))))))))))
set_option maxRecDepth 20000 in
theorem c_X9_decide {l : Launch} {K : ix_Cx} (hKp : ix_Kp K) {n : Nat} {z : ix_Z} {a0 : Nat} {x1 : Int32} {d : ix_D2} {r : Int32} {d1 : ix_D2} (h : f_X9_decide n z a0 x1 d = some (r, d1)) : ix_M l K yX9_decide cX9_decide 2 (some .int) 3 73 0 0 [.ref (K.2.2.1 + a0), .int x1] (ix_w z d) (some (.int r)) (ix_w z d1) := by
  refine ix_met mf_X9_decide hKp (Nat.le_of_ble_eq_true rfl) ?_
  intro p e s m args below meth c hr hlk hnm X
  have X : ix_X p s m args c K cX9_decide RX9 2 := X
  show ix_G p l e (ix_rm 3 73 0 0) s m args below meth c (MQ below (ix_Post K (some (.int r)) (ix_w z d1)) args s 0 0 (ix_A K)) K 2 0 0 0 [(0, .ref (K.2.2.1 + a0)), (1, .int x1)] [] (ix_w z d)
  unfold f_X9_decide at h
  refine ix_aload_n (i := 0) (j := 0) X (ix_tb_at tb_X9_decide 0 rfl) rfl rfl (pc1 := 1) rfl ?_
  obtain ⟨k_1, h⟩ := ix_ck_some h
  obtain ⟨b_2, q_3, h⟩ := ix_bd1_ex h
  refine iz_getR X fl_RX9_12 k_1 q_3 (ix_tb_at tb_X9_decide 1 rfl) (pc1 := 4) rfl ?_
  refine ix_dup X (ix_tb_at tb_X9_decide 2 rfl) rfl (pc1 := 5) rfl ?_
  obtain ⟨k_4, h⟩ := ix_ck_some h
  refine iz_getI X fl_RX9_153 k_4 (ix_tb_at tb_X9_decide 3 rfl) (pc1 := 8) rfl ?_
  refine ix_iconst (v := 1) X (ix_tb_at tb_X9_decide 4 rfl) (by decide) (pc1 := 9) rfl ?_
  refine ix_iadd X (ix_tb_at tb_X9_decide 5 rfl) (pc1 := 10) rfl ?_
  obtain ⟨d_5, e_6, h⟩ := ix_lt_ex h
  refine iz_putI X fp_RX9_153 k_4 (ix_tb_at tb_X9_decide 6 rfl) e_6 (pc1 := 13) rfl ?_
  refine ix_aload_n (i := 0) (j := 0) X (ix_tb_at tb_X9_decide 7 rfl) rfl rfl (pc1 := 14) rfl ?_
  obtain ⟨b_7, q_8, h⟩ := ix_bd1_ex h
  refine iz_getR X fl_RX9_47 k_1 q_8 (ix_tb_at tb_X9_decide 8 rfl) (pc1 := 17) rfl ?_
  refine ix_bipush (v := 9) X (ix_tb_at tb_X9_decide 9 rfl) (by decide) (pc1 := 19) rfl ?_
  refine ix_aload_n (i := 0) (j := 0) X (ix_tb_at tb_X9_decide 10 rfl) rfl rfl (pc1 := 20) rfl ?_
  refine iz_getR X fl_RX9_47 k_1 q_8 (ix_tb_at tb_X9_decide 11 rfl) (pc1 := 23) rfl ?_
  refine ix_bipush (v := 9) X (ix_tb_at tb_X9_decide 12 rfl) (by decide) (pc1 := 25) rfl ?_
  obtain ⟨k_9, h⟩ := ix_ck_some h
  refine iz_iald X k_9 (ix_tb_at tb_X9_decide 13 rfl) (pc1 := 26) rfl ?_
  refine ix_aload_n (i := 0) (j := 0) X (ix_tb_at tb_X9_decide 14 rfl) rfl rfl (pc1 := 27) rfl ?_
  refine iz_getR X fl_RX9_12 k_1 q_3 (ix_tb_at tb_X9_decide 15 rfl) (pc1 := 30) rfl ?_
  refine iz_getI X fl_RX9_153 k_4 (ix_tb_at tb_X9_decide 16 rfl) (pc1 := 33) rfl ?_
  refine ix_mmax X ml_RX9_189 (Nat.le_of_ble_eq_true rfl) (Nat.le_of_ble_eq_true rfl) ⟨Nat.le_of_ble_eq_true rfl, Nat.le_of_ble_eq_true rfl⟩ (ix_tb_at tb_X9_decide 17 rfl) (pc1 := 36) rfl ?_
  obtain ⟨d_10, e_11, h⟩ := ix_lt_ex h
  refine iz_iast X k_9 (ix_tb_at tb_X9_decide 18 rfl) e_11 (pc1 := 37) rfl ?_
  refine ix_aload_n (i := 0) (j := 0) X (ix_tb_at tb_X9_decide 19 rfl) rfl rfl (pc1 := 38) rfl ?_
  refine iz_getR X fl_RX9_12 k_1 q_3 (ix_tb_at tb_X9_decide 20 rfl) (pc1 := 41) rfl ?_
  refine ix_iload_n (i := 1) (j := 1) X (ix_tb_at tb_X9_decide 21 rfl) rfl rfl (pc1 := 42) rfl ?_
  refine ix_iconst (v := (-1)) X (ix_tb_at tb_X9_decide 22 rfl) (by decide) (pc1 := 43) rfl ?_
  obtain ⟨d_12, h_13, h⟩ := ix_bd1_ex h
  refine ix_callV (As := [.int x1, .int ((-1))]) (rest := []) (ci := 1) (T := TX1) (nf := 17) X mf_X1_assign mi_X1_assign ms_X1_assign rfl (Nat.le_of_ble_eq_true rfl) ml_RX9_195 ⟨Nat.le_of_ble_eq_true rfl, Nat.le_of_ble_eq_true rfl⟩ ⟨Nat.le_of_ble_eq_true rfl, Nat.le_of_ble_eq_true rfl⟩ rfl (Nat.le_of_ble_eq_true rfl) (ix_tb_at tb_X9_decide 23 rfl) ⟨k_4.1, List.mem_singleton.mp k_4.2⟩ (c_X1_assign hKp h_13) rfl (pc1 := 46) rfl ?_
  refine ix_aload_n (i := 0) (j := 0) X (ix_tb_at tb_X9_decide 24 rfl) rfl rfl (pc1 := 47) rfl ?_
  refine iz_getR X fl_RX9_47 k_1 q_8 (ix_tb_at tb_X9_decide 25 rfl) (pc1 := 50) rfl ?_
  refine ix_iconst (v := 1) X (ix_tb_at tb_X9_decide 26 rfl) (by decide) (pc1 := 51) rfl ?_
  refine ix_dup2 X (ix_tb_at tb_X9_decide 27 rfl) rfl rfl (pc1 := 52) rfl ?_
  obtain ⟨k_14, h⟩ := ix_ck_some h
  refine iz_iald X k_14 (ix_tb_at tb_X9_decide 28 rfl) (pc1 := 53) rfl ?_
  refine ix_iconst (v := 1) X (ix_tb_at tb_X9_decide 29 rfl) (by decide) (pc1 := 54) rfl ?_
  refine ix_iadd X (ix_tb_at tb_X9_decide 30 rfl) (pc1 := 55) rfl ?_
  obtain ⟨d_15, e_16, h⟩ := ix_lt_ex h
  refine iz_iast X k_14 (ix_tb_at tb_X9_decide 31 rfl) e_16 (pc1 := 56) rfl ?_
  refine ix_aload_n (i := 0) (j := 0) X (ix_tb_at tb_X9_decide 32 rfl) rfl rfl (pc1 := 57) rfl ?_
  refine iz_getR X fl_RX9_47 k_1 q_8 (ix_tb_at tb_X9_decide 33 rfl) (pc1 := 60) rfl ?_
  refine ix_iconst (v := 3) X (ix_tb_at tb_X9_decide 34 rfl) (by decide) (pc1 := 61) rfl ?_
  refine ix_dup2 X (ix_tb_at tb_X9_decide 35 rfl) rfl rfl (pc1 := 62) rfl ?_
  obtain ⟨k_17, h⟩ := ix_ck_some h
  refine iz_iald X k_17 (ix_tb_at tb_X9_decide 36 rfl) (pc1 := 63) rfl ?_
  refine ix_iconst (v := 1) X (ix_tb_at tb_X9_decide 37 rfl) (by decide) (pc1 := 64) rfl ?_
  refine ix_iadd X (ix_tb_at tb_X9_decide 38 rfl) (pc1 := 65) rfl ?_
  obtain ⟨d_18, e_19, h⟩ := ix_lt_ex h
  refine iz_iast X k_17 (ix_tb_at tb_X9_decide 39 rfl) e_19 (pc1 := 66) rfl ?_
  refine ix_iconst (v := 2) X (ix_tb_at tb_X9_decide 40 rfl) (by decide) (pc1 := 67) rfl ?_
  exact ix_iret X hr hlk (ix_r2 (f := fun r => some (.int r)) (g := ix_w z) h) (ix_tb_at tb_X9_decide 41 rfl)
def tab_X9_heaviestOpen : List (Nat × Instr × Nat) := [(0, .iconst 0, 1), (1, .istore_n 1, 1), (2, .aload_n 0, 1), (3, .getfield 12, 3), (6, .getfield 185, 3), (9, .istore_n 2, 1), (10, .iload_n 2, 1), (11, .iconst 1, 1), (12, .if_icmp .lt 43, 3), (15, .aload_n 0, 1), (16, .getfield 12, 3), (19, .getfield 186, 3), (22, .iload_n 2, 1), (23, .iaload, 1), (24, .ifCond .ne 25, 3), (27, .iload_n 1, 1), (28, .ifCond .eq 19, 3), (31, .aload_n 0, 1), (32, .getfield 27, 3), (35, .iload_n 2, 1), (36, .laload, 1), (37, .aload_n 0, 1), (38, .getfield 27, 3), (41, .iload_n 1, 1), (42, .laload, 1), (43, .lcmp, 1), (44, .ifCond .lt 5, 3), (47, .iload_n 2, 1), (48, .istore_n 1, 1), (49, .iinc 2 (-1), 3), (52, .goto (-42), 3), (55, .iload_n 1, 1), (56, .ireturn, 1)]
theorem tb_X9_heaviestOpen : ix_tab cX9_heaviestOpen tab_X9_heaviestOpen := by
  unfold ix_tab
  decide +kernel
noncomputable def f_X9_heaviestOpen_49 (n : Nat) (z : ix_Z) (rec10 : Int32 → Int32 → ix_D2 → Option (Int32 × ix_D2)) (a0 : Nat) (x1 : Int32) (x2 : Int32) (d : ix_D2) : Option (Int32 × ix_D2) :=
  ix_lt (x2 + (-1)) (fun x2_16 => rec10 x1 x2_16 d)
noncomputable def f_X9_heaviestOpen_47 (n : Nat) (z : ix_Z) (rec10 : Int32 → Int32 → ix_D2 → Option (Int32 × ix_D2)) (a0 : Nat) (x2 : Int32) (d : ix_D2) : Option (Int32 × ix_D2) :=
  f_X9_heaviestOpen_49 n z rec10 a0 x2 x2 d
noncomputable def b_X9_heaviestOpen_10 (n : Nat) (z : ix_Z)  (a0 : Nat) (rec10 : Int32 → Int32 → ix_D2 → Option (Int32 × ix_D2)) (x1 : Int32) (x2 : Int32) (d : ix_D2) : Option (Int32 × ix_D2) :=
  ix_if (x2 < 1) (some (x1, d)) (ix_ck (ix_ok z [8] a0) (ix_bd1 (z.1 a0 0) (fun b_9 => ix_ck (ix_ok z [1] b_9) (ix_bd1 (z.1 b_9 7) (fun b_12 => ix_ck (ix_ix z 20 b_12 x2) (ix_if (d.1 b_12 (ix_n x2) = 0) (ix_if (x1 = 0) (f_X9_heaviestOpen_47 n z rec10 a0 x2 d) (ix_bd1 (z.1 a0 2) (fun b_19 => ix_ck (ix_ix z 23 b_19 x2) (ix_ck (ix_ix z 23 b_19 x1) (ix_if (lg_cmp (d.2 b_19 (ix_n x2)) (d.2 b_19 (ix_n x1)) < 0) (f_X9_heaviestOpen_49 n z rec10 a0 x1 x2 d) (f_X9_heaviestOpen_47 n z rec10 a0 x2 d)))))) (f_X9_heaviestOpen_49 n z rec10 a0 x1 x2 d)))))))
noncomputable def f_X9_heaviestOpen_10 (n : Nat) (z : ix_Z)  (a0 : Nat) (x1 : Int32) (x2 : Int32) (d : ix_D2) : Option (Int32 × ix_D2) := ix_fix (b_X9_heaviestOpen_10 n z  a0) (fun _ _ _ => none) n x1 x2 d
noncomputable def f_X9_heaviestOpen (n : Nat) (z : ix_Z) (a0 : Nat) (d : ix_D2) : Option (Int32 × ix_D2) :=
  ix_ck (ix_ok z [8] a0) (ix_bd1 (z.1 a0 0) (fun b_2 => ix_ck (ix_ok z [1] b_2) (ix_lt (d.1 b_2 14) (fun x2_5 => f_X9_heaviestOpen_10 n z  a0 0 x2_5 d))))
set_option maxRecDepth 20000 in
theorem t_X9_heaviestOpen_49 {l : Launch} {p : Program} {e : Env} {s : State} {m : MethodId} {args : Array Value} {below : List Frame} {meth : Method} {c : Code} {K : ix_Cx} (hKp : ix_Kp K) {n : Nat} {z : ix_Z} (X : ix_X p s m args c K cX9_heaviestOpen RX9 3) (hr : meth.sig.returnType = (some .int)) (hlk : meth.locks = false) {rec10 : Int32 → Int32 → ix_D2 → Option (Int32 × ix_D2)} {a0 : Nat} {x1 : Int32} {x2 : Int32} {r : Int32} {d1 : ix_D2} (hrec10 : ∀ (x1 : Int32) (x2 : Int32) (d : ix_D2), rec10 x1 x2 d = some (r, d1) → ix_G p l e (ix_rm 0 0 0 0) s m args below meth c (MQ below (ix_Post K (some (.int r)) (ix_w z d1)) args s 0 0 (ix_A K)) K 3 0 0 10 [(0, .ref (K.2.2.1 + a0)), (1, .int x1), (2, .int x2)] [] (ix_w z d)) {d : ix_D2} (h : f_X9_heaviestOpen_49 n z rec10 a0 x1 x2 d = some (r, d1)) : ix_G p l e (ix_rm 0 0 0 0) s m args below meth c (MQ below (ix_Post K (some (.int r)) (ix_w z d1)) args s 0 0 (ix_A K)) K 3 0 0 49 [(0, .ref (K.2.2.1 + a0)), (1, .int x1), (2, .int x2)] [] (ix_w z d) := by
  unfold f_X9_heaviestOpen_49 at h
  obtain ⟨x2_16, e_17, h⟩ := ix_lt_ex h
  refine ix_iinc (i := 2) (j := 2) (v := x2_16) (L1 := [(2, .int x2_16), (0, .ref (K.2.2.1 + a0)), (1, .int x1)]) X (ix_tb_at tb_X9_heaviestOpen 29 rfl) rfl (by rw [oi_m1]; exact e_17.symm) (Nat.le_of_ble_eq_true rfl) rfl (pc1 := 52) rfl ?_
  refine ix_goto (tgt := 10) X (ix_tb_at tb_X9_heaviestOpen 30 rfl) (by decide) ?_
  refine ix_sub (L1 := [(0, .ref (K.2.2.1 + a0)), (1, .int x1), (2, .int x2_16)]) [1, 2, 0] rfl ?_
  exact hrec10 x1 x2_16 d h
set_option maxRecDepth 20000 in
theorem t_X9_heaviestOpen_47 {l : Launch} {p : Program} {e : Env} {s : State} {m : MethodId} {args : Array Value} {below : List Frame} {meth : Method} {c : Code} {K : ix_Cx} (hKp : ix_Kp K) {n : Nat} {z : ix_Z} (X : ix_X p s m args c K cX9_heaviestOpen RX9 3) (hr : meth.sig.returnType = (some .int)) (hlk : meth.locks = false) {rec10 : Int32 → Int32 → ix_D2 → Option (Int32 × ix_D2)} {a0 : Nat} {x2 : Int32} {r : Int32} {d1 : ix_D2} (hrec10 : ∀ (x1 : Int32) (x2 : Int32) (d : ix_D2), rec10 x1 x2 d = some (r, d1) → ix_G p l e (ix_rm 0 0 0 0) s m args below meth c (MQ below (ix_Post K (some (.int r)) (ix_w z d1)) args s 0 0 (ix_A K)) K 3 0 0 10 [(0, .ref (K.2.2.1 + a0)), (1, .int x1), (2, .int x2)] [] (ix_w z d)) {d : ix_D2} (h : f_X9_heaviestOpen_47 n z rec10 a0 x2 d = some (r, d1)) : ix_G p l e (ix_rm 0 0 0 0) s m args below meth c (MQ below (ix_Post K (some (.int r)) (ix_w z d1)) args s 0 0 (ix_A K)) K 3 0 0 47 [(0, .ref (K.2.2.1 + a0)), (2, .int x2)] [] (ix_w z d) := by
  unfold f_X9_heaviestOpen_47 at h
  refine ix_iload_n (i := 2) (j := 1) X (ix_tb_at tb_X9_heaviestOpen 27 rfl) rfl rfl (pc1 := 48) rfl ?_
  refine ix_istore_n (i := 1) (L1 := [(1, .int x2), (0, .ref (K.2.2.1 + a0)), (2, .int x2)]) X (ix_tb_at tb_X9_heaviestOpen 28 rfl) rfl (Nat.le_of_ble_eq_true rfl) rfl (pc1 := 49) rfl ?_
  refine ix_sub (L1 := [(0, .ref (K.2.2.1 + a0)), (1, .int x2), (2, .int x2)]) [1, 0, 2] rfl ?_
  exact t_X9_heaviestOpen_49 hKp X hr hlk hrec10 h
set_option maxRecDepth 20000 in
theorem tb_X9_heaviestOpen_10 {l : Launch} {p : Program} {e : Env} {s : State} {m : MethodId} {args : Array Value} {below : List Frame} {meth : Method} {c : Code} {K : ix_Cx} (hKp : ix_Kp K) {n : Nat} {z : ix_Z} (X : ix_X p s m args c K cX9_heaviestOpen RX9 3) (hr : meth.sig.returnType = (some .int)) (hlk : meth.locks = false)  {a0 : Nat} {rec10 : Int32 → Int32 → ix_D2 → Option (Int32 × ix_D2)} {r : Int32} {d1 : ix_D2} (hrec10 : ∀ (x1 : Int32) (x2 : Int32) (d : ix_D2), rec10 x1 x2 d = some (r, d1) → ix_G p l e (ix_rm 0 0 0 0) s m args below meth c (MQ below (ix_Post K (some (.int r)) (ix_w z d1)) args s 0 0 (ix_A K)) K 3 0 0 10 [(0, .ref (K.2.2.1 + a0)), (1, .int x1), (2, .int x2)] [] (ix_w z d)) {x1 : Int32} {x2 : Int32} {d : ix_D2} (h : b_X9_heaviestOpen_10 n z  a0 rec10 x1 x2 d = some (r, d1)) : ix_G p l e (ix_rm 0 0 0 0) s m args below meth c (MQ below (ix_Post K (some (.int r)) (ix_w z d1)) args s 0 0 (ix_A K)) K 3 0 0 10 [(0, .ref (K.2.2.1 + a0)), (1, .int x1), (2, .int x2)] [] (ix_w z d) := by
  unfold b_X9_heaviestOpen_10 at h
  refine ix_iload_n (i := 2) (j := 2) X (ix_tb_at tb_X9_heaviestOpen 6 rfl) rfl rfl (pc1 := 11) rfl ?_
  refine ix_iconst (v := 1) X (ix_tb_at tb_X9_heaviestOpen 7 rfl) (by decide) (pc1 := 12) rfl ?_
  refine ix_icmp_lt (tgt := 55) X (ix_tb_at tb_X9_heaviestOpen 8 rfl) (by decide) (pc1 := 15) rfl (fun q_7 => ?_) (fun q_7 => ?_)
  · have h := ix_ift q_7 h
    refine ix_iload_n (i := 1) (j := 1) X (ix_tb_at tb_X9_heaviestOpen 31 rfl) rfl rfl (pc1 := 56) rfl ?_
    exact ix_iret X hr hlk (ix_r2 (f := fun r => some (.int r)) (g := ix_w z) h) (ix_tb_at tb_X9_heaviestOpen 32 rfl)
  · have h := ix_iff q_7 h
    refine ix_aload_n (i := 0) (j := 0) X (ix_tb_at tb_X9_heaviestOpen 9 rfl) rfl rfl (pc1 := 16) rfl ?_
    obtain ⟨k_8, h⟩ := ix_ck_some h
    obtain ⟨b_9, q_10, h⟩ := ix_bd1_ex h
    refine iz_getR X fl_RX9_12 k_8 q_10 (ix_tb_at tb_X9_heaviestOpen 10 rfl) (pc1 := 19) rfl ?_
    obtain ⟨k_11, h⟩ := ix_ck_some h
    obtain ⟨b_12, q_13, h⟩ := ix_bd1_ex h
    refine iz_getR X fl_RX9_186 k_11 q_13 (ix_tb_at tb_X9_heaviestOpen 11 rfl) (pc1 := 22) rfl ?_
    refine ix_iload_n (i := 2) (j := 2) X (ix_tb_at tb_X9_heaviestOpen 12 rfl) rfl rfl (pc1 := 23) rfl ?_
    obtain ⟨k_14, h⟩ := ix_ck_some h
    refine iz_iald X k_14 (ix_tb_at tb_X9_heaviestOpen 13 rfl) (pc1 := 24) rfl ?_
    refine ix_if_ne (tgt := 49) X (ix_tb_at tb_X9_heaviestOpen 14 rfl) (by decide) (pc1 := 27) rfl (fun q_15 => ?_) (fun q_15 => ?_)
    · have h := ix_iff q_15 h
      refine ix_sub (L1 := [(0, .ref (K.2.2.1 + a0)), (1, .int x1), (2, .int x2)]) [0, 1, 2] rfl ?_
      exact t_X9_heaviestOpen_49 hKp X hr hlk hrec10 h
    · have h := ix_ift q_15 h
      refine ix_iload_n (i := 1) (j := 1) X (ix_tb_at tb_X9_heaviestOpen 15 rfl) rfl rfl (pc1 := 28) rfl ?_
      refine ix_if_eq (tgt := 47) X (ix_tb_at tb_X9_heaviestOpen 16 rfl) (by decide) (pc1 := 31) rfl (fun q_18 => ?_) (fun q_18 => ?_)
      · have h := ix_ift q_18 h
        refine ix_sub (L1 := [(0, .ref (K.2.2.1 + a0)), (2, .int x2)]) [0, 2] rfl ?_
        exact t_X9_heaviestOpen_47 hKp X hr hlk hrec10 h
      · have h := ix_iff q_18 h
        refine ix_aload_n (i := 0) (j := 0) X (ix_tb_at tb_X9_heaviestOpen 17 rfl) rfl rfl (pc1 := 32) rfl ?_
        obtain ⟨b_19, q_20, h⟩ := ix_bd1_ex h
        refine iz_getR X fl_RX9_27 k_8 q_20 (ix_tb_at tb_X9_heaviestOpen 18 rfl) (pc1 := 35) rfl ?_
        refine ix_iload_n (i := 2) (j := 2) X (ix_tb_at tb_X9_heaviestOpen 19 rfl) rfl rfl (pc1 := 36) rfl ?_
        obtain ⟨k_21, h⟩ := ix_ck_some h
        refine iz_lald X k_21 (ix_tb_at tb_X9_heaviestOpen 20 rfl) (pc1 := 37) rfl ?_
        refine ix_aload_n (i := 0) (j := 0) X (ix_tb_at tb_X9_heaviestOpen 21 rfl) rfl rfl (pc1 := 38) rfl ?_
        refine iz_getR X fl_RX9_27 k_8 q_20 (ix_tb_at tb_X9_heaviestOpen 22 rfl) (pc1 := 41) rfl ?_
        refine ix_iload_n (i := 1) (j := 1) X (ix_tb_at tb_X9_heaviestOpen 23 rfl) rfl rfl (pc1 := 42) rfl ?_
        obtain ⟨k_22, h⟩ := ix_ck_some h
        refine iz_lald X k_22 (ix_tb_at tb_X9_heaviestOpen 24 rfl) (pc1 := 43) rfl ?_
        refine ix_lcmp X (ix_tb_at tb_X9_heaviestOpen 25 rfl) (pc1 := 44) rfl ?_
        refine ix_if_lt (tgt := 49) X (ix_tb_at tb_X9_heaviestOpen 26 rfl) (by decide) (pc1 := 47) rfl (fun q_23 => ?_) (fun q_23 => ?_)
        · have h := ix_ift q_23 h
          refine ix_sub (L1 := [(0, .ref (K.2.2.1 + a0)), (1, .int x1), (2, .int x2)]) [0, 1, 2] rfl ?_
          exact t_X9_heaviestOpen_49 hKp X hr hlk hrec10 h
        · have h := ix_iff q_23 h
          refine ix_sub (L1 := [(0, .ref (K.2.2.1 + a0)), (2, .int x2)]) [0, 2] rfl ?_
          exact t_X9_heaviestOpen_47 hKp X hr hlk hrec10 h
theorem t_X9_heaviestOpen_10 {l : Launch} {p : Program} {e : Env} {s : State} {m : MethodId} {args : Array Value} {below : List Frame} {meth : Method} {c : Code} {K : ix_Cx} (hKp : ix_Kp K) {n : Nat} {z : ix_Z} (X : ix_X p s m args c K cX9_heaviestOpen RX9 3) (hr : meth.sig.returnType = (some .int)) (hlk : meth.locks = false)  {a0 : Nat} {r : Int32} {d1 : ix_D2}  {x1 : Int32} {x2 : Int32} {d : ix_D2} (h : f_X9_heaviestOpen_10 n z  a0 x1 x2 d = some (r, d1)) : ix_G p l e (ix_rm 0 0 0 0) s m args below meth c (MQ below (ix_Post K (some (.int r)) (ix_w z d1)) args s 0 0 (ix_A K)) K 3 0 0 10 [(0, .ref (K.2.2.1 + a0)), (1, .int x1), (2, .int x2)] [] (ix_w z d) := by
  have key : ∀ (f : Nat) (x1 : Int32) (x2 : Int32) (d : ix_D2), ix_fix (b_X9_heaviestOpen_10 n z  a0) (fun _ _ _ => none) f x1 x2 d = some (r, d1) → ix_G p l e (ix_rm 0 0 0 0) s m args below meth c (MQ below (ix_Post K (some (.int r)) (ix_w z d1)) args s 0 0 (ix_A K)) K 3 0 0 10 [(0, .ref (K.2.2.1 + a0)), (1, .int x1), (2, .int x2)] [] (ix_w z d) := by
    intro f
    induction f with
    | zero =>
      intro x1 x2 d h
      have h : (none : Option (Int32 × ix_D2)) = some (r, d1) := h
      cases h
    | succ f ih =>
      intro x1 x2 d h
      exact tb_X9_heaviestOpen_10 hKp X hr hlk (rec10 := ix_fix (b_X9_heaviestOpen_10 n z  a0) (fun _ _ _ => none) f)  ih h
  exact key n x1 x2 d h
set_option maxRecDepth 20000 in
theorem c_X9_heaviestOpen {l : Launch} {K : ix_Cx} (hKp : ix_Kp K) {n : Nat} {z : ix_Z} {a0 : Nat} {d : ix_D2} {r : Int32} {d1 : ix_D2} (h : f_X9_heaviestOpen n z a0 d = some (r, d1)) : ix_M l K yX9_heaviestOpen cX9_heaviestOpen 3 (some .int) 0 0 0 0 [.ref (K.2.2.1 + a0)] (ix_w z d) (some (.int r)) (ix_w z d1) := by
  refine ix_met mf_X9_heaviestOpen hKp (Nat.le_of_ble_eq_true rfl) ?_
  intro p e s m args below meth c hr hlk hnm X
  have X : ix_X p s m args c K cX9_heaviestOpen RX9 3 := X
  show ix_G p l e (ix_rm 0 0 0 0) s m args below meth c (MQ below (ix_Post K (some (.int r)) (ix_w z d1)) args s 0 0 (ix_A K)) K 3 0 0 0 [(0, .ref (K.2.2.1 + a0))] [] (ix_w z d)
  unfold f_X9_heaviestOpen at h
  refine ix_iconst (v := 0) X (ix_tb_at tb_X9_heaviestOpen 0 rfl) (by decide) (pc1 := 1) rfl ?_
  refine ix_istore_n (i := 1) (L1 := [(1, .int 0), (0, .ref (K.2.2.1 + a0))]) X (ix_tb_at tb_X9_heaviestOpen 1 rfl) rfl (Nat.le_of_ble_eq_true rfl) rfl (pc1 := 2) rfl ?_
  refine ix_aload_n (i := 0) (j := 1) X (ix_tb_at tb_X9_heaviestOpen 2 rfl) rfl rfl (pc1 := 3) rfl ?_
  obtain ⟨k_1, h⟩ := ix_ck_some h
  obtain ⟨b_2, q_3, h⟩ := ix_bd1_ex h
  refine iz_getR X fl_RX9_12 k_1 q_3 (ix_tb_at tb_X9_heaviestOpen 3 rfl) (pc1 := 6) rfl ?_
  obtain ⟨k_4, h⟩ := ix_ck_some h
  refine iz_getI X fl_RX9_185 k_4 (ix_tb_at tb_X9_heaviestOpen 4 rfl) (pc1 := 9) rfl ?_
  obtain ⟨x2_5, e_6, h⟩ := ix_lt_ex h
  refine ix_nmi e_6 ?_
  refine ix_istore_n (i := 2) (L1 := [(2, .int x2_5), (1, .int 0), (0, .ref (K.2.2.1 + a0))]) X (ix_tb_at tb_X9_heaviestOpen 5 rfl) rfl (Nat.le_of_ble_eq_true rfl) rfl (pc1 := 10) rfl ?_
  refine ix_sub (L1 := [(0, .ref (K.2.2.1 + a0)), (1, .int 0), (2, .int x2_5)]) [2, 1, 0] rfl ?_
  exact t_X9_heaviestOpen_10 hKp X hr hlk  h
def tab_X9_choose : List (Nat × Instr × Nat) := [(0, .iconst 0, 1), (1, .istore_n 2, 1), (2, .iload_n 2, 1), (3, .aload_n 0, 1), (4, .getfield 86, 3), (7, .if_icmp .ge 63, 3), (10, .aload_n 0, 1), (11, .getfield 12, 3), (14, .aload_n 0, 1), (15, .getfield 31, 3), (18, .iload_n 2, 1), (19, .iaload, 1), (20, .invokevirtual 170, 3), (23, .istore_n 3, 1), (24, .iload_n 3, 1), (25, .ifCond .ge 14, 3), (28, .aload_n 0, 1), (29, .aload_n 0, 1), (30, .getfield 31, 3), (33, .iload_n 2, 1), (34, .iaload, 1), (35, .invokevirtual 173, 3), (38, .ireturn, 1), (39, .iload_n 3, 1), (40, .ifCond .ne 24, 3), (43, .iload_n 1, 1), (44, .ifCond .eq 16, 3), (47, .aload_n 0, 1), (48, .aload_n 0, 1), (49, .getfield 31, 3), (52, .iload_n 2, 1), (53, .iaload, 1), (54, .invokevirtual 176, 3), (57, .goto 6, 3), (60, .sipush (-1004), 3), (63, .ireturn, 1), (64, .iinc 2 1, 3), (67, .goto (-65), 3), (70, .aload_n 0, 1), (71, .invokevirtual 179, 3), (74, .istore_n 2, 1), (75, .iload_n 2, 1), (76, .ifCond .ne 5, 3), (79, .iconst 1, 1), (80, .ireturn, 1), (81, .iload_n 1, 1), (82, .ifCond .eq 29, 3), (85, .aload_n 0, 1), (86, .aload_n 0, 1), (87, .getfield 12, 3), (90, .getfield 182, 3), (93, .iload_n 2, 1), (94, .iaload, 1), (95, .iconst 1, 1), (96, .if_icmp .ne 7, 3), (99, .iload_n 2, 1), (100, .goto 5, 3), (103, .iload_n 2, 1), (104, .ineg, 1), (105, .invokevirtual 176, 3), (108, .goto 6, 3), (111, .sipush (-1004), 3), (114, .ireturn, 1)]
theorem tb_X9_choose : ix_tab cX9_choose tab_X9_choose := by
  unfold ix_tab
  decide +kernel
noncomputable def f_X9_choose_105 (n : Nat) (z : ix_Z)  (s0 : Int32) (s1 : Nat) (d : ix_D2) : Option (Int32 × ix_D2) :=
  ix_ck (ix_ok z [8] s1) (ix_bd2 (f_X9_decide n z s1 s0 d) (fun r_18 d_15 => some (r_18, d_15)))
noncomputable def b_X9_choose_2 (n : Nat) (z : ix_Z)  (a0 : Nat) (x1 : Int32) (rec2 : Int32 → ix_D2 → Option (Int32 × ix_D2)) (x2 : Int32) (d : ix_D2) : Option (Int32 × ix_D2) :=
  ix_ck (ix_ok z [8] a0) (ix_if (d.1 a0 5 ≤ x2) (ix_bd2 (f_X9_heaviestOpen n z a0 d) (fun r_5 d_3 => ix_if (r_5 = 0) (some (1, d_3)) (ix_if (x1 = 0) (some ((-1004), d_3)) (ix_bd1 (z.1 a0 0) (fun b_8 => ix_ck (ix_ok z [1] b_8) (ix_bd1 (z.1 b_8 8) (fun b_11 => ix_ck (ix_ix z 20 b_11 r_5) (ix_if (d_3.1 b_11 (ix_n r_5) = 1) (f_X9_choose_105 n z  r_5 a0 d_3) (f_X9_choose_105 n z  (-r_5) a0 d_3))))))))) (ix_bd1 (z.1 a0 0) (fun b_19 => ix_bd1 (z.1 a0 4) (fun b_21 => ix_ck (ix_ix z 20 b_21 x2) (ix_ck (ix_ok z [1] b_19) (ix_bd2 (f_X1_valueOf n z b_19 (d.1 b_21 (ix_n x2)) d) (fun r_27 d_24 => ix_if (0 ≤ r_27) (ix_if (r_27 = 0) (ix_if (x1 = 0) (some ((-1004), d_24)) (ix_bd2 (f_X9_decide n z a0 (d_24.1 b_21 (ix_n x2)) d_24) (fun r_35 d_33 => some (r_35, d_33)))) (ix_lt (x2 + 1) (fun x2_30 => rec2 x2_30 d_24))) (ix_bd2 (f_X9_refuteAssumed n z a0 (d_24.1 b_21 (ix_n x2)) d_24) (fun r_38 d_36 => some (r_38, d_36))))))))))
noncomputable def f_X9_choose_2 (n : Nat) (z : ix_Z)  (a0 : Nat) (x1 : Int32) (x2 : Int32) (d : ix_D2) : Option (Int32 × ix_D2) := ix_fix (b_X9_choose_2 n z  a0 x1) (fun _ _ => none) n x2 d
noncomputable def f_X9_choose (n : Nat) (z : ix_Z) (a0 : Nat) (x1 : Int32) (d : ix_D2) : Option (Int32 × ix_D2) :=
  f_X9_choose_2 n z  a0 x1 0 d
set_option maxRecDepth 20000 in
theorem t_X9_choose_105 {l : Launch} {p : Program} {e : Env} {s : State} {m : MethodId} {args : Array Value} {below : List Frame} {meth : Method} {c : Code} {K : ix_Cx} (hKp : ix_Kp K) {n : Nat} {z : ix_Z} (X : ix_X p s m args c K cX9_choose RX9 4) (hr : meth.sig.returnType = (some .int)) (hlk : meth.locks = false)  {s0 : Int32} {s1 : Nat} {r : Int32} {d1 : ix_D2}  {d : ix_D2} (h : f_X9_choose_105 n z  s0 s1 d = some (r, d1)) : ix_G p l e (ix_rm 4 94 0 0) s m args below meth c (MQ below (ix_Post K (some (.int r)) (ix_w z d1)) args s 0 0 (ix_A K)) K 4 0 0 105 [] [.int s0, .ref (K.2.2.1 + s1)] (ix_w z d) := by
  unfold f_X9_choose_105 at h
  obtain ⟨k_17, h⟩ := ix_ck_some h
  obtain ⟨r_18, d_15, h_16, h⟩ := ix_bd2_ex h
  refine ix_callV (As := [.int s0]) (rest := []) (ci := 8) (T := TX9) (nf := 20) X mf_X9_decide mi_X9_decide ms_X9_decide rfl (Nat.le_of_ble_eq_true rfl) ml_RX9_176 ⟨Nat.le_of_ble_eq_true rfl, Nat.le_of_ble_eq_true rfl⟩ ⟨Nat.le_of_ble_eq_true rfl, Nat.le_of_ble_eq_true rfl⟩ rfl (Nat.le_of_ble_eq_true rfl) (ix_tb_at tb_X9_choose 59 rfl) ⟨k_17.1, List.mem_singleton.mp k_17.2⟩ (c_X9_decide hKp h_16) rfl (pc1 := 108) rfl ?_
  refine ix_goto (tgt := 114) X (ix_tb_at tb_X9_choose 60 rfl) (by decide) ?_
  exact ix_iret X hr hlk (ix_r2 (f := fun r => some (.int r)) (g := ix_w z) h) (ix_tb_at tb_X9_choose 62 rfl)
set_option maxRecDepth 20000 in
theorem tb_X9_choose_2 {l : Launch} {p : Program} {e : Env} {s : State} {m : MethodId} {args : Array Value} {below : List Frame} {meth : Method} {c : Code} {K : ix_Cx} (hKp : ix_Kp K) {n : Nat} {z : ix_Z} (X : ix_X p s m args c K cX9_choose RX9 4) (hr : meth.sig.returnType = (some .int)) (hlk : meth.locks = false)  {a0 : Nat} {x1 : Int32} {rec2 : Int32 → ix_D2 → Option (Int32 × ix_D2)} {r : Int32} {d1 : ix_D2} (hrec2 : ∀ (x2 : Int32) (d : ix_D2), rec2 x2 d = some (r, d1) → ix_G p l e (ix_rm 4 94 0 0) s m args below meth c (MQ below (ix_Post K (some (.int r)) (ix_w z d1)) args s 0 0 (ix_A K)) K 4 0 0 2 [(0, .ref (K.2.2.1 + a0)), (1, .int x1), (2, .int x2)] [] (ix_w z d)) {x2 : Int32} {d : ix_D2} (h : b_X9_choose_2 n z  a0 x1 rec2 x2 d = some (r, d1)) : ix_G p l e (ix_rm 4 94 0 0) s m args below meth c (MQ below (ix_Post K (some (.int r)) (ix_w z d1)) args s 0 0 (ix_A K)) K 4 0 0 2 [(0, .ref (K.2.2.1 + a0)), (1, .int x1), (2, .int x2)] [] (ix_w z d) := by
  unfold b_X9_choose_2 at h
  refine ix_iload_n (i := 2) (j := 2) X (ix_tb_at tb_X9_choose 2 rfl) rfl rfl (pc1 := 3) rfl ?_
  refine ix_aload_n (i := 0) (j := 0) X (ix_tb_at tb_X9_choose 3 rfl) rfl rfl (pc1 := 4) rfl ?_
  obtain ⟨k_1, h⟩ := ix_ck_some h
  refine iz_getI X fl_RX9_86 k_1 (ix_tb_at tb_X9_choose 4 rfl) (pc1 := 7) rfl ?_
  refine ix_icmp_ge (tgt := 70) X (ix_tb_at tb_X9_choose 5 rfl) (by decide) (pc1 := 10) rfl (fun q_2 => ?_) (fun q_2 => ?_)
  · have h := ix_ift q_2 h
    refine ix_aload_n (i := 0) (j := 0) X (ix_tb_at tb_X9_choose 38 rfl) rfl rfl (pc1 := 71) rfl ?_
    obtain ⟨r_5, d_3, h_4, h⟩ := ix_bd2_ex h
    refine ix_callV (As := []) (rest := []) (ci := 8) (T := TX9) (nf := 20) X mf_X9_heaviestOpen mi_X9_heaviestOpen ms_X9_heaviestOpen rfl (Nat.le_of_ble_eq_true rfl) ml_RX9_179 ⟨Nat.le_of_ble_eq_true rfl, Nat.le_of_ble_eq_true rfl⟩ ⟨Nat.le_of_ble_eq_true rfl, Nat.le_of_ble_eq_true rfl⟩ rfl (Nat.le_of_ble_eq_true rfl) (ix_tb_at tb_X9_choose 39 rfl) ⟨k_1.1, List.mem_singleton.mp k_1.2⟩ (c_X9_heaviestOpen hKp h_4) rfl (pc1 := 74) rfl ?_
    refine ix_istore_n (i := 2) (L1 := [(2, .int r_5), (0, .ref (K.2.2.1 + a0)), (1, .int x1)]) X (ix_tb_at tb_X9_choose 40 rfl) rfl (Nat.le_of_ble_eq_true rfl) rfl (pc1 := 75) rfl ?_
    refine ix_iload_n (i := 2) (j := 0) X (ix_tb_at tb_X9_choose 41 rfl) rfl rfl (pc1 := 76) rfl ?_
    refine ix_if_ne (tgt := 81) X (ix_tb_at tb_X9_choose 42 rfl) (by decide) (pc1 := 79) rfl (fun q_6 => ?_) (fun q_6 => ?_)
    · have h := ix_iff q_6 h
      refine ix_iload_n (i := 1) (j := 2) X (ix_tb_at tb_X9_choose 45 rfl) rfl rfl (pc1 := 82) rfl ?_
      refine ix_if_eq (tgt := 111) X (ix_tb_at tb_X9_choose 46 rfl) (by decide) (pc1 := 85) rfl (fun q_7 => ?_) (fun q_7 => ?_)
      · have h := ix_ift q_7 h
        refine ix_sipush (v := (-1004)) X (ix_tb_at tb_X9_choose 61 rfl) (by decide) (pc1 := 114) rfl ?_
        exact ix_iret X hr hlk (ix_r2 (f := fun r => some (.int r)) (g := ix_w z) h) (ix_tb_at tb_X9_choose 62 rfl)
      · have h := ix_iff q_7 h
        refine ix_aload_n (i := 0) (j := 1) X (ix_tb_at tb_X9_choose 47 rfl) rfl rfl (pc1 := 86) rfl ?_
        refine ix_aload_n (i := 0) (j := 1) X (ix_tb_at tb_X9_choose 48 rfl) rfl rfl (pc1 := 87) rfl ?_
        obtain ⟨b_8, q_9, h⟩ := ix_bd1_ex h
        refine iz_getR X fl_RX9_12 k_1 q_9 (ix_tb_at tb_X9_choose 49 rfl) (pc1 := 90) rfl ?_
        obtain ⟨k_10, h⟩ := ix_ck_some h
        obtain ⟨b_11, q_12, h⟩ := ix_bd1_ex h
        refine iz_getR X fl_RX9_182 k_10 q_12 (ix_tb_at tb_X9_choose 50 rfl) (pc1 := 93) rfl ?_
        refine ix_iload_n (i := 2) (j := 0) X (ix_tb_at tb_X9_choose 51 rfl) rfl rfl (pc1 := 94) rfl ?_
        obtain ⟨k_13, h⟩ := ix_ck_some h
        refine iz_iald X k_13 (ix_tb_at tb_X9_choose 52 rfl) (pc1 := 95) rfl ?_
        refine ix_iconst (v := 1) X (ix_tb_at tb_X9_choose 53 rfl) (by decide) (pc1 := 96) rfl ?_
        refine ix_icmp_ne (tgt := 103) X (ix_tb_at tb_X9_choose 54 rfl) (by decide) (pc1 := 99) rfl (fun q_14 => ?_) (fun q_14 => ?_)
        · have h := ix_iff q_14 h
          refine ix_iload_n (i := 2) (j := 0) X (ix_tb_at tb_X9_choose 57 rfl) rfl rfl (pc1 := 104) rfl ?_
          refine ix_ineg X (ix_tb_at tb_X9_choose 58 rfl) (pc1 := 105) rfl ?_
          refine ix_sub (L1 := []) [] rfl ?_
          exact t_X9_choose_105 hKp X hr hlk  h
        · have h := ix_ift q_14 h
          refine ix_iload_n (i := 2) (j := 0) X (ix_tb_at tb_X9_choose 55 rfl) rfl rfl (pc1 := 100) rfl ?_
          refine ix_goto (tgt := 105) X (ix_tb_at tb_X9_choose 56 rfl) (by decide) ?_
          refine ix_sub (L1 := []) [] rfl ?_
          exact t_X9_choose_105 hKp X hr hlk  h
    · have h := ix_ift q_6 h
      refine ix_iconst (v := 1) X (ix_tb_at tb_X9_choose 43 rfl) (by decide) (pc1 := 80) rfl ?_
      exact ix_iret X hr hlk (ix_r2 (f := fun r => some (.int r)) (g := ix_w z) h) (ix_tb_at tb_X9_choose 44 rfl)
  · have h := ix_iff q_2 h
    refine ix_aload_n (i := 0) (j := 0) X (ix_tb_at tb_X9_choose 6 rfl) rfl rfl (pc1 := 11) rfl ?_
    obtain ⟨b_19, q_20, h⟩ := ix_bd1_ex h
    refine iz_getR X fl_RX9_12 k_1 q_20 (ix_tb_at tb_X9_choose 7 rfl) (pc1 := 14) rfl ?_
    refine ix_aload_n (i := 0) (j := 0) X (ix_tb_at tb_X9_choose 8 rfl) rfl rfl (pc1 := 15) rfl ?_
    obtain ⟨b_21, q_22, h⟩ := ix_bd1_ex h
    refine iz_getR X fl_RX9_31 k_1 q_22 (ix_tb_at tb_X9_choose 9 rfl) (pc1 := 18) rfl ?_
    refine ix_iload_n (i := 2) (j := 2) X (ix_tb_at tb_X9_choose 10 rfl) rfl rfl (pc1 := 19) rfl ?_
    obtain ⟨k_23, h⟩ := ix_ck_some h
    refine iz_iald X k_23 (ix_tb_at tb_X9_choose 11 rfl) (pc1 := 20) rfl ?_
    obtain ⟨k_26, h⟩ := ix_ck_some h
    obtain ⟨r_27, d_24, h_25, h⟩ := ix_bd2_ex h
    refine ix_callV (As := [.int (d.1 b_21 (ix_n x2))]) (rest := []) (ci := 1) (T := TX1) (nf := 17) X mf_X1_valueOf mi_X1_valueOf ms_X1_valueOf rfl (Nat.le_of_ble_eq_true rfl) ml_RX9_170 ⟨Nat.le_of_ble_eq_true rfl, Nat.le_of_ble_eq_true rfl⟩ ⟨Nat.le_of_ble_eq_true rfl, Nat.le_of_ble_eq_true rfl⟩ rfl (Nat.le_of_ble_eq_true rfl) (ix_tb_at tb_X9_choose 12 rfl) ⟨k_26.1, List.mem_singleton.mp k_26.2⟩ (c_X1_valueOf hKp h_25) rfl (pc1 := 23) rfl ?_
    refine ix_istore_n (i := 3) (L1 := [(3, .int r_27), (0, .ref (K.2.2.1 + a0)), (1, .int x1), (2, .int x2)]) X (ix_tb_at tb_X9_choose 13 rfl) rfl (Nat.le_of_ble_eq_true rfl) rfl (pc1 := 24) rfl ?_
    refine ix_iload_n (i := 3) (j := 0) X (ix_tb_at tb_X9_choose 14 rfl) rfl rfl (pc1 := 25) rfl ?_
    refine ix_if_ge (tgt := 39) X (ix_tb_at tb_X9_choose 15 rfl) (by decide) (pc1 := 28) rfl (fun q_28 => ?_) (fun q_28 => ?_)
    · have h := ix_ift q_28 h
      refine ix_iload_n (i := 3) (j := 0) X (ix_tb_at tb_X9_choose 23 rfl) rfl rfl (pc1 := 40) rfl ?_
      refine ix_if_ne (tgt := 64) X (ix_tb_at tb_X9_choose 24 rfl) (by decide) (pc1 := 43) rfl (fun q_29 => ?_) (fun q_29 => ?_)
      · have h := ix_iff q_29 h
        obtain ⟨x2_30, e_31, h⟩ := ix_lt_ex h
        refine ix_iinc (i := 2) (j := 3) (v := x2_30) (L1 := [(2, .int x2_30), (3, .int r_27), (0, .ref (K.2.2.1 + a0)), (1, .int x1)]) X (ix_tb_at tb_X9_choose 36 rfl) rfl (by rw [oi_1]; exact e_31.symm) (Nat.le_of_ble_eq_true rfl) rfl (pc1 := 67) rfl ?_
        refine ix_goto (tgt := 2) X (ix_tb_at tb_X9_choose 37 rfl) (by decide) ?_
        refine ix_sub (L1 := [(0, .ref (K.2.2.1 + a0)), (1, .int x1), (2, .int x2_30)]) [2, 3, 0] rfl ?_
        exact hrec2 x2_30 d_24 h
      · have h := ix_ift q_29 h
        refine ix_iload_n (i := 1) (j := 2) X (ix_tb_at tb_X9_choose 25 rfl) rfl rfl (pc1 := 44) rfl ?_
        refine ix_if_eq (tgt := 60) X (ix_tb_at tb_X9_choose 26 rfl) (by decide) (pc1 := 47) rfl (fun q_32 => ?_) (fun q_32 => ?_)
        · have h := ix_ift q_32 h
          refine ix_sipush (v := (-1004)) X (ix_tb_at tb_X9_choose 34 rfl) (by decide) (pc1 := 63) rfl ?_
          exact ix_iret X hr hlk (ix_r2 (f := fun r => some (.int r)) (g := ix_w z) h) (ix_tb_at tb_X9_choose 35 rfl)
        · have h := ix_iff q_32 h
          refine ix_aload_n (i := 0) (j := 1) X (ix_tb_at tb_X9_choose 27 rfl) rfl rfl (pc1 := 48) rfl ?_
          refine ix_aload_n (i := 0) (j := 1) X (ix_tb_at tb_X9_choose 28 rfl) rfl rfl (pc1 := 49) rfl ?_
          refine iz_getR X fl_RX9_31 k_1 q_22 (ix_tb_at tb_X9_choose 29 rfl) (pc1 := 52) rfl ?_
          refine ix_iload_n (i := 2) (j := 3) X (ix_tb_at tb_X9_choose 30 rfl) rfl rfl (pc1 := 53) rfl ?_
          refine iz_iald X k_23 (ix_tb_at tb_X9_choose 31 rfl) (pc1 := 54) rfl ?_
          obtain ⟨r_35, d_33, h_34, h⟩ := ix_bd2_ex h
          refine ix_callV (As := [.int (d_24.1 b_21 (ix_n x2))]) (rest := []) (ci := 8) (T := TX9) (nf := 20) X mf_X9_decide mi_X9_decide ms_X9_decide rfl (Nat.le_of_ble_eq_true rfl) ml_RX9_176 ⟨Nat.le_of_ble_eq_true rfl, Nat.le_of_ble_eq_true rfl⟩ ⟨Nat.le_of_ble_eq_true rfl, Nat.le_of_ble_eq_true rfl⟩ rfl (Nat.le_of_ble_eq_true rfl) (ix_tb_at tb_X9_choose 32 rfl) ⟨k_1.1, List.mem_singleton.mp k_1.2⟩ (c_X9_decide hKp h_34) rfl (pc1 := 57) rfl ?_
          refine ix_goto (tgt := 63) X (ix_tb_at tb_X9_choose 33 rfl) (by decide) ?_
          exact ix_iret X hr hlk (ix_r2 (f := fun r => some (.int r)) (g := ix_w z) h) (ix_tb_at tb_X9_choose 35 rfl)
    · have h := ix_iff q_28 h
      refine ix_aload_n (i := 0) (j := 1) X (ix_tb_at tb_X9_choose 16 rfl) rfl rfl (pc1 := 29) rfl ?_
      refine ix_aload_n (i := 0) (j := 1) X (ix_tb_at tb_X9_choose 17 rfl) rfl rfl (pc1 := 30) rfl ?_
      refine iz_getR X fl_RX9_31 k_1 q_22 (ix_tb_at tb_X9_choose 18 rfl) (pc1 := 33) rfl ?_
      refine ix_iload_n (i := 2) (j := 3) X (ix_tb_at tb_X9_choose 19 rfl) rfl rfl (pc1 := 34) rfl ?_
      refine iz_iald X k_23 (ix_tb_at tb_X9_choose 20 rfl) (pc1 := 35) rfl ?_
      obtain ⟨r_38, d_36, h_37, h⟩ := ix_bd2_ex h
      refine ix_callV (As := [.int (d_24.1 b_21 (ix_n x2))]) (rest := []) (ci := 8) (T := TX9) (nf := 20) X mf_X9_refuteAssumed mi_X9_refuteAssumed ms_X9_refuteAssumed rfl (Nat.le_of_ble_eq_true rfl) ml_RX9_173 ⟨Nat.le_of_ble_eq_true rfl, Nat.le_of_ble_eq_true rfl⟩ ⟨Nat.le_of_ble_eq_true rfl, Nat.le_of_ble_eq_true rfl⟩ rfl (Nat.le_of_ble_eq_true rfl) (ix_tb_at tb_X9_choose 21 rfl) ⟨k_1.1, List.mem_singleton.mp k_1.2⟩ (c_X9_refuteAssumed hKp h_37) rfl (pc1 := 38) rfl ?_
      exact ix_iret X hr hlk (ix_r2 (f := fun r => some (.int r)) (g := ix_w z) h) (ix_tb_at tb_X9_choose 22 rfl)
theorem t_X9_choose_2 {l : Launch} {p : Program} {e : Env} {s : State} {m : MethodId} {args : Array Value} {below : List Frame} {meth : Method} {c : Code} {K : ix_Cx} (hKp : ix_Kp K) {n : Nat} {z : ix_Z} (X : ix_X p s m args c K cX9_choose RX9 4) (hr : meth.sig.returnType = (some .int)) (hlk : meth.locks = false)  {a0 : Nat} {x1 : Int32} {r : Int32} {d1 : ix_D2}  {x2 : Int32} {d : ix_D2} (h : f_X9_choose_2 n z  a0 x1 x2 d = some (r, d1)) : ix_G p l e (ix_rm 4 94 0 0) s m args below meth c (MQ below (ix_Post K (some (.int r)) (ix_w z d1)) args s 0 0 (ix_A K)) K 4 0 0 2 [(0, .ref (K.2.2.1 + a0)), (1, .int x1), (2, .int x2)] [] (ix_w z d) := by
  have key : ∀ (f : Nat) (x2 : Int32) (d : ix_D2), ix_fix (b_X9_choose_2 n z  a0 x1) (fun _ _ => none) f x2 d = some (r, d1) → ix_G p l e (ix_rm 4 94 0 0) s m args below meth c (MQ below (ix_Post K (some (.int r)) (ix_w z d1)) args s 0 0 (ix_A K)) K 4 0 0 2 [(0, .ref (K.2.2.1 + a0)), (1, .int x1), (2, .int x2)] [] (ix_w z d) := by
    intro f
    induction f with
    | zero =>
      intro x2 d h
      have h : (none : Option (Int32 × ix_D2)) = some (r, d1) := h
      cases h
    | succ f ih =>
      intro x2 d h
      exact tb_X9_choose_2 hKp X hr hlk (rec2 := ix_fix (b_X9_choose_2 n z  a0 x1) (fun _ _ => none) f)  ih h
  exact key n x2 d h
set_option maxRecDepth 20000 in
theorem c_X9_choose {l : Launch} {K : ix_Cx} (hKp : ix_Kp K) {n : Nat} {z : ix_Z} {a0 : Nat} {x1 : Int32} {d : ix_D2} {r : Int32} {d1 : ix_D2} (h : f_X9_choose n z a0 x1 d = some (r, d1)) : ix_M l K yX9_choose cX9_choose 4 (some .int) 4 94 0 0 [.ref (K.2.2.1 + a0), .int x1] (ix_w z d) (some (.int r)) (ix_w z d1) := by
  refine ix_met mf_X9_choose hKp (Nat.le_of_ble_eq_true rfl) ?_
  intro p e s m args below meth c hr hlk hnm X
  have X : ix_X p s m args c K cX9_choose RX9 4 := X
  show ix_G p l e (ix_rm 4 94 0 0) s m args below meth c (MQ below (ix_Post K (some (.int r)) (ix_w z d1)) args s 0 0 (ix_A K)) K 4 0 0 0 [(0, .ref (K.2.2.1 + a0)), (1, .int x1)] [] (ix_w z d)
  unfold f_X9_choose at h
  refine ix_iconst (v := 0) X (ix_tb_at tb_X9_choose 0 rfl) (by decide) (pc1 := 1) rfl ?_
  refine ix_istore_n (i := 2) (L1 := [(2, .int 0), (0, .ref (K.2.2.1 + a0)), (1, .int x1)]) X (ix_tb_at tb_X9_choose 1 rfl) rfl (Nat.le_of_ble_eq_true rfl) rfl (pc1 := 2) rfl ?_
  refine ix_sub (L1 := [(0, .ref (K.2.2.1 + a0)), (1, .int x1), (2, .int 0)]) [1, 2, 0] rfl ?_
  exact t_X9_choose_2 hKp X hr hlk  h
def tab_X9_go : List (Nat × Instr × Nat) := [(0, .iconst 2, 1), (1, .istore_n 2, 1), (2, .iload_n 1, 1), (3, .istore_n 3, 1), (4, .iload_n 3, 1), (5, .ifCond .lt 121, 3), (8, .iload_n 2, 1), (9, .iconst 2, 1), (10, .if_icmp .ne 116, 3), (13, .aload_n 0, 1), (14, .getfield 12, 3), (17, .invokevirtual 146, 3), (20, .istore 4, 2), (22, .aload_n 0, 1), (23, .getfield 12, 3), (26, .invokevirtual 150, 3), (29, .istore 5, 2), (31, .iload 4, 2), (33, .ifCond .lt 23, 3), (36, .aload_n 0, 1), (37, .getfield 12, 3), (40, .getfield 153, 3), (43, .ifCond .ne 13, 3), (46, .aload_n 0, 1), (47, .iload 4, 2), (49, .invokevirtual 156, 3), (52, .istore_n 2, 1), (53, .goto 67, 3), (56, .iload 4, 2), (58, .ifCond .lt 23, 3), (61, .iload_n 3, 1), (62, .ifCond .le 12, 3), (65, .aload_n 0, 1), (66, .iload 4, 2), (68, .invokevirtual 160, 3), (71, .goto 6, 3), (74, .sipush (-1004), 3), (77, .istore_n 2, 1), (78, .goto 42, 3), (81, .iload 5, 2), (83, .ifCond .lt 23, 3), (86, .iload_n 3, 1), (87, .ifCond .le 12, 3), (90, .aload_n 0, 1), (91, .iload 5, 2), (93, .invokevirtual 163, 3), (96, .goto 6, 3), (99, .sipush (-1004), 3), (102, .istore_n 2, 1), (103, .goto 17, 3), (106, .aload_n 0, 1), (107, .iload_n 3, 1), (108, .ifCond .le 7, 3), (111, .iconst 1, 1), (112, .goto 4, 3), (115, .iconst 0, 1), (116, .invokevirtual 166, 3), (119, .istore_n 2, 1), (120, .iinc 3 (-1), 3), (123, .goto (-119), 3), (126, .aload_n 0, 1), (127, .getfield 47, 3), (130, .iconst 0, 1), (131, .iload_n 2, 1), (132, .iastore, 1), (133, .iload_n 2, 1), (134, .ireturn, 1)]
theorem tb_X9_go : ix_tab cX9_go tab_X9_go := by
  unfold ix_tab
  decide +kernel
noncomputable def f_X9_go_126 (n : Nat) (z : ix_Z)  (a0 : Nat) (x2 : Int32) (d : ix_D2) : Option (Int32 × ix_D2) :=
  ix_ck (ix_ok z [8] a0) (ix_bd1 (z.1 a0 10) (fun b_3 => ix_ck (ix_ix z 20 b_3 0) (ix_lt (ix_di d b_3 (ix_n 0) x2) (fun d_6 => some (x2, d_6)))))
noncomputable def f_X9_go_120 (n : Nat) (z : ix_Z) (rec4 : Int32 → Int32 → ix_D2 → Option (Int32 × ix_D2)) (a0 : Nat) (x2 : Int32) (x3 : Int32) (d : ix_D2) : Option (Int32 × ix_D2) :=
  ix_lt (x3 + (-1)) (fun x3_27 => rec4 x2 x3_27 d)
noncomputable def f_X9_go_116 (n : Nat) (z : ix_Z) (rec4 : Int32 → Int32 → ix_D2 → Option (Int32 × ix_D2)) (a0 : Nat) (x3 : Int32) (s0 : Int32) (s1 : Nat) (d : ix_D2) : Option (Int32 × ix_D2) :=
  ix_ck (ix_ok z [8] s1) (ix_bd2 (f_X9_choose n z s1 s0 d) (fun r_26 d_23 => f_X9_go_120 n z rec4 a0 r_26 x3 d_23))
noncomputable def f_X9_go_102 (n : Nat) (z : ix_Z) (rec4 : Int32 → Int32 → ix_D2 → Option (Int32 × ix_D2)) (a0 : Nat) (x3 : Int32) (s0 : Int32) (d : ix_D2) : Option (Int32 × ix_D2) :=
  f_X9_go_120 n z rec4 a0 s0 x3 d
noncomputable def f_X9_go_77 (n : Nat) (z : ix_Z) (rec4 : Int32 → Int32 → ix_D2 → Option (Int32 × ix_D2)) (a0 : Nat) (x3 : Int32) (s0 : Int32) (d : ix_D2) : Option (Int32 × ix_D2) :=
  f_X9_go_120 n z rec4 a0 s0 x3 d
noncomputable def f_X9_go_56 (n : Nat) (z : ix_Z) (rec4 : Int32 → Int32 → ix_D2 → Option (Int32 × ix_D2)) (a0 : Nat) (x3 : Int32) (x4 : Int32) (x5 : Int32) (d : ix_D2) : Option (Int32 × ix_D2) :=
  ix_if (x4 < 0) (ix_if (x5 < 0) (ix_if (x3 ≤ 0) (f_X9_go_116 n z rec4 a0 x3 0 a0 d) (f_X9_go_116 n z rec4 a0 x3 1 a0 d)) (ix_if (x3 ≤ 0) (f_X9_go_102 n z rec4 a0 x3 ((-1004)) d) (ix_ck (ix_ok z [8] a0) (ix_bd2 (f_X9_force n z a0 x5 d) (fun r_33 d_30 => f_X9_go_102 n z rec4 a0 x3 r_33 d_30))))) (ix_if (x3 ≤ 0) (f_X9_go_77 n z rec4 a0 x3 ((-1004)) d) (ix_ck (ix_ok z [8] a0) (ix_bd2 (f_X9_learn n z a0 x4 d) (fun r_38 d_35 => f_X9_go_77 n z rec4 a0 x3 r_38 d_35))))
noncomputable def b_X9_go_4 (n : Nat) (z : ix_Z)  (a0 : Nat) (rec4 : Int32 → Int32 → ix_D2 → Option (Int32 × ix_D2)) (x2 : Int32) (x3 : Int32) (d : ix_D2) : Option (Int32 × ix_D2) :=
  ix_if (x3 < 0) (f_X9_go_126 n z  a0 x2 d) (ix_if (x2 = 2) (ix_ck (ix_ok z [8] a0) (ix_bd1 (z.1 a0 0) (fun b_10 => ix_ck (ix_ok z [1] b_10) (ix_bd2 (f_X1_firstQuarrel n z b_10 d) (fun r_15 d_12 => ix_bd2 (f_X1_firstUnit n z b_10 d_12) (fun r_18 d_16 => ix_if (r_15 < 0) (f_X9_go_56 n z rec4 a0 x3 r_15 r_18 d_16) (ix_if (d_16.1 b_10 13 = 0) (ix_bd2 (f_X9_refute n z a0 r_15 d_16) (fun r_42 d_40 => f_X9_go_120 n z rec4 a0 r_42 x3 d_40)) (f_X9_go_56 n z rec4 a0 x3 r_15 r_18 d_16)))))))) (f_X9_go_126 n z  a0 x2 d))
noncomputable def f_X9_go_4 (n : Nat) (z : ix_Z)  (a0 : Nat) (x2 : Int32) (x3 : Int32) (d : ix_D2) : Option (Int32 × ix_D2) := ix_fix (b_X9_go_4 n z  a0) (fun _ _ _ => none) n x2 x3 d
noncomputable def f_X9_go (n : Nat) (z : ix_Z) (a0 : Nat) (x1 : Int32) (d : ix_D2) : Option (Int32 × ix_D2) :=
  f_X9_go_4 n z  a0 2 x1 d
set_option maxRecDepth 20000 in
theorem t_X9_go_126 {l : Launch} {p : Program} {e : Env} {s : State} {m : MethodId} {args : Array Value} {below : List Frame} {meth : Method} {c : Code} {K : ix_Cx} (hKp : ix_Kp K) {n : Nat} {z : ix_Z} (X : ix_X p s m args c K cX9_go RX9 6) (hr : meth.sig.returnType = (some .int)) (hlk : meth.locks = false)  {a0 : Nat} {x2 : Int32} {r : Int32} {d1 : ix_D2}  {d : ix_D2} (h : f_X9_go_126 n z  a0 x2 d = some (r, d1)) : ix_G p l e (ix_rm 5 120 0 0) s m args below meth c (MQ below (ix_Post K (some (.int r)) (ix_w z d1)) args s 0 0 (ix_A K)) K 6 0 0 126 [(0, .ref (K.2.2.1 + a0)), (2, .int x2)] [] (ix_w z d) := by
  unfold f_X9_go_126 at h
  refine ix_aload_n (i := 0) (j := 0) X (ix_tb_at tb_X9_go 60 rfl) rfl rfl (pc1 := 127) rfl ?_
  obtain ⟨k_2, h⟩ := ix_ck_some h
  obtain ⟨b_3, q_4, h⟩ := ix_bd1_ex h
  refine iz_getR X fl_RX9_47 k_2 q_4 (ix_tb_at tb_X9_go 61 rfl) (pc1 := 130) rfl ?_
  refine ix_iconst (v := 0) X (ix_tb_at tb_X9_go 62 rfl) (by decide) (pc1 := 131) rfl ?_
  refine ix_iload_n (i := 2) (j := 1) X (ix_tb_at tb_X9_go 63 rfl) rfl rfl (pc1 := 132) rfl ?_
  obtain ⟨k_5, h⟩ := ix_ck_some h
  obtain ⟨d_6, e_7, h⟩ := ix_lt_ex h
  refine iz_iast X k_5 (ix_tb_at tb_X9_go 64 rfl) e_7 (pc1 := 133) rfl ?_
  refine ix_iload_n (i := 2) (j := 1) X (ix_tb_at tb_X9_go 65 rfl) rfl rfl (pc1 := 134) rfl ?_
  exact ix_iret X hr hlk (ix_r2 (f := fun r => some (.int r)) (g := ix_w z) h) (ix_tb_at tb_X9_go 66 rfl)
set_option maxRecDepth 20000 in
theorem t_X9_go_120 {l : Launch} {p : Program} {e : Env} {s : State} {m : MethodId} {args : Array Value} {below : List Frame} {meth : Method} {c : Code} {K : ix_Cx} (hKp : ix_Kp K) {n : Nat} {z : ix_Z} (X : ix_X p s m args c K cX9_go RX9 6) (hr : meth.sig.returnType = (some .int)) (hlk : meth.locks = false) {rec4 : Int32 → Int32 → ix_D2 → Option (Int32 × ix_D2)} {a0 : Nat} {x2 : Int32} {x3 : Int32} {r : Int32} {d1 : ix_D2} (hrec4 : ∀ (x2 : Int32) (x3 : Int32) (d : ix_D2), rec4 x2 x3 d = some (r, d1) → ix_G p l e (ix_rm 5 120 0 0) s m args below meth c (MQ below (ix_Post K (some (.int r)) (ix_w z d1)) args s 0 0 (ix_A K)) K 6 0 0 4 [(0, .ref (K.2.2.1 + a0)), (2, .int x2), (3, .int x3)] [] (ix_w z d)) {d : ix_D2} (h : f_X9_go_120 n z rec4 a0 x2 x3 d = some (r, d1)) : ix_G p l e (ix_rm 5 120 0 0) s m args below meth c (MQ below (ix_Post K (some (.int r)) (ix_w z d1)) args s 0 0 (ix_A K)) K 6 0 0 120 [(0, .ref (K.2.2.1 + a0)), (2, .int x2), (3, .int x3)] [] (ix_w z d) := by
  unfold f_X9_go_120 at h
  obtain ⟨x3_27, e_28, h⟩ := ix_lt_ex h
  refine ix_iinc (i := 3) (j := 2) (v := x3_27) (L1 := [(3, .int x3_27), (0, .ref (K.2.2.1 + a0)), (2, .int x2)]) X (ix_tb_at tb_X9_go 58 rfl) rfl (by rw [oi_m1]; exact e_28.symm) (Nat.le_of_ble_eq_true rfl) rfl (pc1 := 123) rfl ?_
  refine ix_goto (tgt := 4) X (ix_tb_at tb_X9_go 59 rfl) (by decide) ?_
  refine ix_sub (L1 := [(0, .ref (K.2.2.1 + a0)), (2, .int x2), (3, .int x3_27)]) [1, 2, 0] rfl ?_
  exact hrec4 x2 x3_27 d h
set_option maxRecDepth 20000 in
theorem t_X9_go_116 {l : Launch} {p : Program} {e : Env} {s : State} {m : MethodId} {args : Array Value} {below : List Frame} {meth : Method} {c : Code} {K : ix_Cx} (hKp : ix_Kp K) {n : Nat} {z : ix_Z} (X : ix_X p s m args c K cX9_go RX9 6) (hr : meth.sig.returnType = (some .int)) (hlk : meth.locks = false) {rec4 : Int32 → Int32 → ix_D2 → Option (Int32 × ix_D2)} {a0 : Nat} {x3 : Int32} {s0 : Int32} {s1 : Nat} {r : Int32} {d1 : ix_D2} (hrec4 : ∀ (x2 : Int32) (x3 : Int32) (d : ix_D2), rec4 x2 x3 d = some (r, d1) → ix_G p l e (ix_rm 5 120 0 0) s m args below meth c (MQ below (ix_Post K (some (.int r)) (ix_w z d1)) args s 0 0 (ix_A K)) K 6 0 0 4 [(0, .ref (K.2.2.1 + a0)), (2, .int x2), (3, .int x3)] [] (ix_w z d)) {d : ix_D2} (h : f_X9_go_116 n z rec4 a0 x3 s0 s1 d = some (r, d1)) : ix_G p l e (ix_rm 5 120 0 0) s m args below meth c (MQ below (ix_Post K (some (.int r)) (ix_w z d1)) args s 0 0 (ix_A K)) K 6 0 0 116 [(0, .ref (K.2.2.1 + a0)), (3, .int x3)] [.int s0, .ref (K.2.2.1 + s1)] (ix_w z d) := by
  unfold f_X9_go_116 at h
  obtain ⟨k_25, h⟩ := ix_ck_some h
  obtain ⟨r_26, d_23, h_24, h⟩ := ix_bd2_ex h
  refine ix_callV (As := [.int s0]) (rest := []) (ci := 8) (T := TX9) (nf := 20) X mf_X9_choose mi_X9_choose ms_X9_choose rfl (Nat.le_of_ble_eq_true rfl) ml_RX9_166 ⟨Nat.le_of_ble_eq_true rfl, Nat.le_of_ble_eq_true rfl⟩ ⟨Nat.le_of_ble_eq_true rfl, Nat.le_of_ble_eq_true rfl⟩ rfl (Nat.le_of_ble_eq_true rfl) (ix_tb_at tb_X9_go 56 rfl) ⟨k_25.1, List.mem_singleton.mp k_25.2⟩ (c_X9_choose hKp h_24) rfl (pc1 := 119) rfl ?_
  refine ix_istore_n (i := 2) (L1 := [(2, .int r_26), (0, .ref (K.2.2.1 + a0)), (3, .int x3)]) X (ix_tb_at tb_X9_go 57 rfl) rfl (Nat.le_of_ble_eq_true rfl) rfl (pc1 := 120) rfl ?_
  refine ix_sub (L1 := [(0, .ref (K.2.2.1 + a0)), (2, .int r_26), (3, .int x3)]) [1, 0, 2] rfl ?_
  exact t_X9_go_120 hKp X hr hlk hrec4 h
set_option maxRecDepth 20000 in
theorem t_X9_go_102 {l : Launch} {p : Program} {e : Env} {s : State} {m : MethodId} {args : Array Value} {below : List Frame} {meth : Method} {c : Code} {K : ix_Cx} (hKp : ix_Kp K) {n : Nat} {z : ix_Z} (X : ix_X p s m args c K cX9_go RX9 6) (hr : meth.sig.returnType = (some .int)) (hlk : meth.locks = false) {rec4 : Int32 → Int32 → ix_D2 → Option (Int32 × ix_D2)} {a0 : Nat} {x3 : Int32} {s0 : Int32} {r : Int32} {d1 : ix_D2} (hrec4 : ∀ (x2 : Int32) (x3 : Int32) (d : ix_D2), rec4 x2 x3 d = some (r, d1) → ix_G p l e (ix_rm 5 120 0 0) s m args below meth c (MQ below (ix_Post K (some (.int r)) (ix_w z d1)) args s 0 0 (ix_A K)) K 6 0 0 4 [(0, .ref (K.2.2.1 + a0)), (2, .int x2), (3, .int x3)] [] (ix_w z d)) {d : ix_D2} (h : f_X9_go_102 n z rec4 a0 x3 s0 d = some (r, d1)) : ix_G p l e (ix_rm 5 120 0 0) s m args below meth c (MQ below (ix_Post K (some (.int r)) (ix_w z d1)) args s 0 0 (ix_A K)) K 6 0 0 102 [(0, .ref (K.2.2.1 + a0)), (3, .int x3)] [.int s0] (ix_w z d) := by
  unfold f_X9_go_102 at h
  refine ix_istore_n (i := 2) (L1 := [(2, .int s0), (0, .ref (K.2.2.1 + a0)), (3, .int x3)]) X (ix_tb_at tb_X9_go 48 rfl) rfl (Nat.le_of_ble_eq_true rfl) rfl (pc1 := 103) rfl ?_
  refine ix_goto (tgt := 120) X (ix_tb_at tb_X9_go 49 rfl) (by decide) ?_
  refine ix_sub (L1 := [(0, .ref (K.2.2.1 + a0)), (2, .int s0), (3, .int x3)]) [1, 0, 2] rfl ?_
  exact t_X9_go_120 hKp X hr hlk hrec4 h
set_option maxRecDepth 20000 in
theorem t_X9_go_77 {l : Launch} {p : Program} {e : Env} {s : State} {m : MethodId} {args : Array Value} {below : List Frame} {meth : Method} {c : Code} {K : ix_Cx} (hKp : ix_Kp K) {n : Nat} {z : ix_Z} (X : ix_X p s m args c K cX9_go RX9 6) (hr : meth.sig.returnType = (some .int)) (hlk : meth.locks = false) {rec4 : Int32 → Int32 → ix_D2 → Option (Int32 × ix_D2)} {a0 : Nat} {x3 : Int32} {s0 : Int32} {r : Int32} {d1 : ix_D2} (hrec4 : ∀ (x2 : Int32) (x3 : Int32) (d : ix_D2), rec4 x2 x3 d = some (r, d1) → ix_G p l e (ix_rm 5 120 0 0) s m args below meth c (MQ below (ix_Post K (some (.int r)) (ix_w z d1)) args s 0 0 (ix_A K)) K 6 0 0 4 [(0, .ref (K.2.2.1 + a0)), (2, .int x2), (3, .int x3)] [] (ix_w z d)) {d : ix_D2} (h : f_X9_go_77 n z rec4 a0 x3 s0 d = some (r, d1)) : ix_G p l e (ix_rm 5 120 0 0) s m args below meth c (MQ below (ix_Post K (some (.int r)) (ix_w z d1)) args s 0 0 (ix_A K)) K 6 0 0 77 [(0, .ref (K.2.2.1 + a0)), (3, .int x3)] [.int s0] (ix_w z d) := by
  unfold f_X9_go_77 at h
  refine ix_istore_n (i := 2) (L1 := [(2, .int s0), (0, .ref (K.2.2.1 + a0)), (3, .int x3)]) X (ix_tb_at tb_X9_go 37 rfl) rfl (Nat.le_of_ble_eq_true rfl) rfl (pc1 := 78) rfl ?_
  refine ix_goto (tgt := 120) X (ix_tb_at tb_X9_go 38 rfl) (by decide) ?_
  refine ix_sub (L1 := [(0, .ref (K.2.2.1 + a0)), (2, .int s0), (3, .int x3)]) [1, 0, 2] rfl ?_
  exact t_X9_go_120 hKp X hr hlk hrec4 h
set_option maxRecDepth 20000 in
theorem t_X9_go_56 {l : Launch} {p : Program} {e : Env} {s : State} {m : MethodId} {args : Array Value} {below : List Frame} {meth : Method} {c : Code} {K : ix_Cx} (hKp : ix_Kp K) {n : Nat} {z : ix_Z} (X : ix_X p s m args c K cX9_go RX9 6) (hr : meth.sig.returnType = (some .int)) (hlk : meth.locks = false) {rec4 : Int32 → Int32 → ix_D2 → Option (Int32 × ix_D2)} {a0 : Nat} {x3 : Int32} {x4 : Int32} {x5 : Int32} {r : Int32} {d1 : ix_D2} (hrec4 : ∀ (x2 : Int32) (x3 : Int32) (d : ix_D2), rec4 x2 x3 d = some (r, d1) → ix_G p l e (ix_rm 5 120 0 0) s m args below meth c (MQ below (ix_Post K (some (.int r)) (ix_w z d1)) args s 0 0 (ix_A K)) K 6 0 0 4 [(0, .ref (K.2.2.1 + a0)), (2, .int x2), (3, .int x3)] [] (ix_w z d)) {d : ix_D2} (h : f_X9_go_56 n z rec4 a0 x3 x4 x5 d = some (r, d1)) : ix_G p l e (ix_rm 5 120 0 0) s m args below meth c (MQ below (ix_Post K (some (.int r)) (ix_w z d1)) args s 0 0 (ix_A K)) K 6 0 0 56 [(0, .ref (K.2.2.1 + a0)), (3, .int x3), (4, .int x4), (5, .int x5)] [] (ix_w z d) := by
  unfold f_X9_go_56 at h
  refine ix_iload (i := 4) (j := 2) X (ix_tb_at tb_X9_go 28 rfl) rfl (pc1 := 58) rfl ?_
  refine ix_if_lt (tgt := 81) X (ix_tb_at tb_X9_go 29 rfl) (by decide) (pc1 := 61) rfl (fun q_20 => ?_) (fun q_20 => ?_)
  · have h := ix_ift q_20 h
    refine ix_iload (i := 5) (j := 3) X (ix_tb_at tb_X9_go 39 rfl) rfl (pc1 := 83) rfl ?_
    refine ix_if_lt (tgt := 106) X (ix_tb_at tb_X9_go 40 rfl) (by decide) (pc1 := 86) rfl (fun q_21 => ?_) (fun q_21 => ?_)
    · have h := ix_ift q_21 h
      refine ix_aload_n (i := 0) (j := 0) X (ix_tb_at tb_X9_go 50 rfl) rfl rfl (pc1 := 107) rfl ?_
      refine ix_iload_n (i := 3) (j := 1) X (ix_tb_at tb_X9_go 51 rfl) rfl rfl (pc1 := 108) rfl ?_
      refine ix_if_le (tgt := 115) X (ix_tb_at tb_X9_go 52 rfl) (by decide) (pc1 := 111) rfl (fun q_22 => ?_) (fun q_22 => ?_)
      · have h := ix_ift q_22 h
        refine ix_iconst (v := 0) X (ix_tb_at tb_X9_go 55 rfl) (by decide) (pc1 := 116) rfl ?_
        refine ix_sub (L1 := [(0, .ref (K.2.2.1 + a0)), (3, .int x3)]) [0, 1] rfl ?_
        exact t_X9_go_116 hKp X hr hlk hrec4 h
      · have h := ix_iff q_22 h
        refine ix_iconst (v := 1) X (ix_tb_at tb_X9_go 53 rfl) (by decide) (pc1 := 112) rfl ?_
        refine ix_goto (tgt := 116) X (ix_tb_at tb_X9_go 54 rfl) (by decide) ?_
        refine ix_sub (L1 := [(0, .ref (K.2.2.1 + a0)), (3, .int x3)]) [0, 1] rfl ?_
        exact t_X9_go_116 hKp X hr hlk hrec4 h
    · have h := ix_iff q_21 h
      refine ix_iload_n (i := 3) (j := 1) X (ix_tb_at tb_X9_go 41 rfl) rfl rfl (pc1 := 87) rfl ?_
      refine ix_if_le (tgt := 99) X (ix_tb_at tb_X9_go 42 rfl) (by decide) (pc1 := 90) rfl (fun q_29 => ?_) (fun q_29 => ?_)
      · have h := ix_ift q_29 h
        refine ix_sipush (v := (-1004)) X (ix_tb_at tb_X9_go 47 rfl) (by decide) (pc1 := 102) rfl ?_
        refine ix_sub (L1 := [(0, .ref (K.2.2.1 + a0)), (3, .int x3)]) [0, 1] rfl ?_
        exact t_X9_go_102 hKp X hr hlk hrec4 h
      · have h := ix_iff q_29 h
        refine ix_aload_n (i := 0) (j := 0) X (ix_tb_at tb_X9_go 43 rfl) rfl rfl (pc1 := 91) rfl ?_
        refine ix_iload (i := 5) (j := 3) X (ix_tb_at tb_X9_go 44 rfl) rfl (pc1 := 93) rfl ?_
        obtain ⟨k_32, h⟩ := ix_ck_some h
        obtain ⟨r_33, d_30, h_31, h⟩ := ix_bd2_ex h
        refine ix_callV (As := [.int x5]) (rest := []) (ci := 8) (T := TX9) (nf := 20) X mf_X9_force mi_X9_force ms_X9_force rfl (Nat.le_of_ble_eq_true rfl) ml_RX9_163 ⟨Nat.le_of_ble_eq_true rfl, Nat.le_of_ble_eq_true rfl⟩ ⟨Nat.le_of_ble_eq_true rfl, Nat.le_of_ble_eq_true rfl⟩ rfl (Nat.le_of_ble_eq_true rfl) (ix_tb_at tb_X9_go 45 rfl) ⟨k_32.1, List.mem_singleton.mp k_32.2⟩ (c_X9_force hKp h_31) rfl (pc1 := 96) rfl ?_
        refine ix_goto (tgt := 102) X (ix_tb_at tb_X9_go 46 rfl) (by decide) ?_
        refine ix_sub (L1 := [(0, .ref (K.2.2.1 + a0)), (3, .int x3)]) [0, 1] rfl ?_
        exact t_X9_go_102 hKp X hr hlk hrec4 h
  · have h := ix_iff q_20 h
    refine ix_iload_n (i := 3) (j := 1) X (ix_tb_at tb_X9_go 30 rfl) rfl rfl (pc1 := 62) rfl ?_
    refine ix_if_le (tgt := 74) X (ix_tb_at tb_X9_go 31 rfl) (by decide) (pc1 := 65) rfl (fun q_34 => ?_) (fun q_34 => ?_)
    · have h := ix_ift q_34 h
      refine ix_sipush (v := (-1004)) X (ix_tb_at tb_X9_go 36 rfl) (by decide) (pc1 := 77) rfl ?_
      refine ix_sub (L1 := [(0, .ref (K.2.2.1 + a0)), (3, .int x3)]) [0, 1] rfl ?_
      exact t_X9_go_77 hKp X hr hlk hrec4 h
    · have h := ix_iff q_34 h
      refine ix_aload_n (i := 0) (j := 0) X (ix_tb_at tb_X9_go 32 rfl) rfl rfl (pc1 := 66) rfl ?_
      refine ix_iload (i := 4) (j := 2) X (ix_tb_at tb_X9_go 33 rfl) rfl (pc1 := 68) rfl ?_
      obtain ⟨k_37, h⟩ := ix_ck_some h
      obtain ⟨r_38, d_35, h_36, h⟩ := ix_bd2_ex h
      refine ix_callV (As := [.int x4]) (rest := []) (ci := 8) (T := TX9) (nf := 20) X mf_X9_learn mi_X9_learn ms_X9_learn rfl (Nat.le_of_ble_eq_true rfl) ml_RX9_160 ⟨Nat.le_of_ble_eq_true rfl, Nat.le_of_ble_eq_true rfl⟩ ⟨Nat.le_of_ble_eq_true rfl, Nat.le_of_ble_eq_true rfl⟩ rfl (Nat.le_of_ble_eq_true rfl) (ix_tb_at tb_X9_go 34 rfl) ⟨k_37.1, List.mem_singleton.mp k_37.2⟩ (c_X9_learn hKp h_36) rfl (pc1 := 71) rfl ?_
      refine ix_goto (tgt := 77) X (ix_tb_at tb_X9_go 35 rfl) (by decide) ?_
      refine ix_sub (L1 := [(0, .ref (K.2.2.1 + a0)), (3, .int x3)]) [0, 1] rfl ?_
      exact t_X9_go_77 hKp X hr hlk hrec4 h
set_option maxRecDepth 20000 in
theorem tb_X9_go_4 {l : Launch} {p : Program} {e : Env} {s : State} {m : MethodId} {args : Array Value} {below : List Frame} {meth : Method} {c : Code} {K : ix_Cx} (hKp : ix_Kp K) {n : Nat} {z : ix_Z} (X : ix_X p s m args c K cX9_go RX9 6) (hr : meth.sig.returnType = (some .int)) (hlk : meth.locks = false)  {a0 : Nat} {rec4 : Int32 → Int32 → ix_D2 → Option (Int32 × ix_D2)} {r : Int32} {d1 : ix_D2} (hrec4 : ∀ (x2 : Int32) (x3 : Int32) (d : ix_D2), rec4 x2 x3 d = some (r, d1) → ix_G p l e (ix_rm 5 120 0 0) s m args below meth c (MQ below (ix_Post K (some (.int r)) (ix_w z d1)) args s 0 0 (ix_A K)) K 6 0 0 4 [(0, .ref (K.2.2.1 + a0)), (2, .int x2), (3, .int x3)] [] (ix_w z d)) {x2 : Int32} {x3 : Int32} {d : ix_D2} (h : b_X9_go_4 n z  a0 rec4 x2 x3 d = some (r, d1)) : ix_G p l e (ix_rm 5 120 0 0) s m args below meth c (MQ below (ix_Post K (some (.int r)) (ix_w z d1)) args s 0 0 (ix_A K)) K 6 0 0 4 [(0, .ref (K.2.2.1 + a0)), (2, .int x2), (3, .int x3)] [] (ix_w z d) := by
  unfold b_X9_go_4 at h
  refine ix_iload_n (i := 3) (j := 2) X (ix_tb_at tb_X9_go 4 rfl) rfl rfl (pc1 := 5) rfl ?_
  refine ix_if_lt (tgt := 126) X (ix_tb_at tb_X9_go 5 rfl) (by decide) (pc1 := 8) rfl (fun q_1 => ?_) (fun q_1 => ?_)
  · have h := ix_ift q_1 h
    refine ix_sub (L1 := [(0, .ref (K.2.2.1 + a0)), (2, .int x2)]) [0, 1] rfl ?_
    exact t_X9_go_126 hKp X hr hlk  h
  · have h := ix_iff q_1 h
    refine ix_iload_n (i := 2) (j := 1) X (ix_tb_at tb_X9_go 6 rfl) rfl rfl (pc1 := 9) rfl ?_
    refine ix_iconst (v := 2) X (ix_tb_at tb_X9_go 7 rfl) (by decide) (pc1 := 10) rfl ?_
    refine ix_icmp_ne (tgt := 126) X (ix_tb_at tb_X9_go 8 rfl) (by decide) (pc1 := 13) rfl (fun q_8 => ?_) (fun q_8 => ?_)
    · have h := ix_iff q_8 h
      refine ix_sub (L1 := [(0, .ref (K.2.2.1 + a0)), (2, .int x2)]) [0, 1] rfl ?_
      exact t_X9_go_126 hKp X hr hlk  h
    · have h := ix_ift q_8 h
      refine ix_aload_n (i := 0) (j := 0) X (ix_tb_at tb_X9_go 9 rfl) rfl rfl (pc1 := 14) rfl ?_
      obtain ⟨k_9, h⟩ := ix_ck_some h
      obtain ⟨b_10, q_11, h⟩ := ix_bd1_ex h
      refine iz_getR X fl_RX9_12 k_9 q_11 (ix_tb_at tb_X9_go 10 rfl) (pc1 := 17) rfl ?_
      obtain ⟨k_14, h⟩ := ix_ck_some h
      obtain ⟨r_15, d_12, h_13, h⟩ := ix_bd2_ex h
      refine ix_callV (As := []) (rest := []) (ci := 1) (T := TX1) (nf := 17) X mf_X1_firstQuarrel mi_X1_firstQuarrel ms_X1_firstQuarrel rfl (Nat.le_of_ble_eq_true rfl) ml_RX9_146 ⟨Nat.le_of_ble_eq_true rfl, Nat.le_of_ble_eq_true rfl⟩ ⟨Nat.le_of_ble_eq_true rfl, Nat.le_of_ble_eq_true rfl⟩ rfl (Nat.le_of_ble_eq_true rfl) (ix_tb_at tb_X9_go 11 rfl) ⟨k_14.1, List.mem_singleton.mp k_14.2⟩ (c_X1_firstQuarrel hKp h_13) rfl (pc1 := 20) rfl ?_
      refine ix_istore (i := 4) (L1 := [(4, .int r_15), (0, .ref (K.2.2.1 + a0)), (2, .int x2), (3, .int x3)]) X (ix_tb_at tb_X9_go 12 rfl) (Nat.le_of_ble_eq_true rfl) rfl (pc1 := 22) rfl ?_
      refine ix_aload_n (i := 0) (j := 1) X (ix_tb_at tb_X9_go 13 rfl) rfl rfl (pc1 := 23) rfl ?_
      refine iz_getR X fl_RX9_12 k_9 q_11 (ix_tb_at tb_X9_go 14 rfl) (pc1 := 26) rfl ?_
      obtain ⟨r_18, d_16, h_17, h⟩ := ix_bd2_ex h
      refine ix_callV (As := []) (rest := []) (ci := 1) (T := TX1) (nf := 17) X mf_X1_firstUnit mi_X1_firstUnit ms_X1_firstUnit rfl (Nat.le_of_ble_eq_true rfl) ml_RX9_150 ⟨Nat.le_of_ble_eq_true rfl, Nat.le_of_ble_eq_true rfl⟩ ⟨Nat.le_of_ble_eq_true rfl, Nat.le_of_ble_eq_true rfl⟩ rfl (Nat.le_of_ble_eq_true rfl) (ix_tb_at tb_X9_go 15 rfl) ⟨k_14.1, List.mem_singleton.mp k_14.2⟩ (c_X1_firstUnit hKp h_17) rfl (pc1 := 29) rfl ?_
      refine ix_istore (i := 5) (L1 := [(5, .int r_18), (4, .int r_15), (0, .ref (K.2.2.1 + a0)), (2, .int x2), (3, .int x3)]) X (ix_tb_at tb_X9_go 16 rfl) (Nat.le_of_ble_eq_true rfl) rfl (pc1 := 31) rfl ?_
      refine ix_iload (i := 4) (j := 1) X (ix_tb_at tb_X9_go 17 rfl) rfl (pc1 := 33) rfl ?_
      refine ix_if_lt (tgt := 56) X (ix_tb_at tb_X9_go 18 rfl) (by decide) (pc1 := 36) rfl (fun q_19 => ?_) (fun q_19 => ?_)
      · have h := ix_ift q_19 h
        refine ix_sub (L1 := [(0, .ref (K.2.2.1 + a0)), (3, .int x3), (4, .int r_15), (5, .int r_18)]) [2, 4, 1, 0] rfl ?_
        exact t_X9_go_56 hKp X hr hlk hrec4 h
      · have h := ix_iff q_19 h
        refine ix_aload_n (i := 0) (j := 2) X (ix_tb_at tb_X9_go 19 rfl) rfl rfl (pc1 := 37) rfl ?_
        refine iz_getR X fl_RX9_12 k_9 q_11 (ix_tb_at tb_X9_go 20 rfl) (pc1 := 40) rfl ?_
        refine iz_getI X fl_RX9_153 k_14 (ix_tb_at tb_X9_go 21 rfl) (pc1 := 43) rfl ?_
        refine ix_if_ne (tgt := 56) X (ix_tb_at tb_X9_go 22 rfl) (by decide) (pc1 := 46) rfl (fun q_39 => ?_) (fun q_39 => ?_)
        · have h := ix_iff q_39 h
          refine ix_sub (L1 := [(0, .ref (K.2.2.1 + a0)), (3, .int x3), (4, .int r_15), (5, .int r_18)]) [2, 4, 1, 0] rfl ?_
          exact t_X9_go_56 hKp X hr hlk hrec4 h
        · have h := ix_ift q_39 h
          refine ix_aload_n (i := 0) (j := 2) X (ix_tb_at tb_X9_go 23 rfl) rfl rfl (pc1 := 47) rfl ?_
          refine ix_iload (i := 4) (j := 1) X (ix_tb_at tb_X9_go 24 rfl) rfl (pc1 := 49) rfl ?_
          obtain ⟨r_42, d_40, h_41, h⟩ := ix_bd2_ex h
          refine ix_callV (As := [.int r_15]) (rest := []) (ci := 8) (T := TX9) (nf := 20) X mf_X9_refute mi_X9_refute ms_X9_refute rfl (Nat.le_of_ble_eq_true rfl) ml_RX9_156 ⟨Nat.le_of_ble_eq_true rfl, Nat.le_of_ble_eq_true rfl⟩ ⟨Nat.le_of_ble_eq_true rfl, Nat.le_of_ble_eq_true rfl⟩ rfl (Nat.le_of_ble_eq_true rfl) (ix_tb_at tb_X9_go 25 rfl) ⟨k_9.1, List.mem_singleton.mp k_9.2⟩ (c_X9_refute hKp h_41) rfl (pc1 := 52) rfl ?_
          refine ix_istore_n (i := 2) (L1 := [(2, .int r_42), (5, .int r_18), (4, .int r_15), (0, .ref (K.2.2.1 + a0)), (3, .int x3)]) X (ix_tb_at tb_X9_go 26 rfl) rfl (Nat.le_of_ble_eq_true rfl) rfl (pc1 := 53) rfl ?_
          refine ix_goto (tgt := 120) X (ix_tb_at tb_X9_go 27 rfl) (by decide) ?_
          refine ix_sub (L1 := [(0, .ref (K.2.2.1 + a0)), (2, .int r_42), (3, .int x3)]) [3, 0, 4] rfl ?_
          exact t_X9_go_120 hKp X hr hlk hrec4 h
theorem t_X9_go_4 {l : Launch} {p : Program} {e : Env} {s : State} {m : MethodId} {args : Array Value} {below : List Frame} {meth : Method} {c : Code} {K : ix_Cx} (hKp : ix_Kp K) {n : Nat} {z : ix_Z} (X : ix_X p s m args c K cX9_go RX9 6) (hr : meth.sig.returnType = (some .int)) (hlk : meth.locks = false)  {a0 : Nat} {r : Int32} {d1 : ix_D2}  {x2 : Int32} {x3 : Int32} {d : ix_D2} (h : f_X9_go_4 n z  a0 x2 x3 d = some (r, d1)) : ix_G p l e (ix_rm 5 120 0 0) s m args below meth c (MQ below (ix_Post K (some (.int r)) (ix_w z d1)) args s 0 0 (ix_A K)) K 6 0 0 4 [(0, .ref (K.2.2.1 + a0)), (2, .int x2), (3, .int x3)] [] (ix_w z d) := by
  have key : ∀ (f : Nat) (x2 : Int32) (x3 : Int32) (d : ix_D2), ix_fix (b_X9_go_4 n z  a0) (fun _ _ _ => none) f x2 x3 d = some (r, d1) → ix_G p l e (ix_rm 5 120 0 0) s m args below meth c (MQ below (ix_Post K (some (.int r)) (ix_w z d1)) args s 0 0 (ix_A K)) K 6 0 0 4 [(0, .ref (K.2.2.1 + a0)), (2, .int x2), (3, .int x3)] [] (ix_w z d) := by
    intro f
    induction f with
    | zero =>
      intro x2 x3 d h
      have h : (none : Option (Int32 × ix_D2)) = some (r, d1) := h
      cases h
    | succ f ih =>
      intro x2 x3 d h
      exact tb_X9_go_4 hKp X hr hlk (rec4 := ix_fix (b_X9_go_4 n z  a0) (fun _ _ _ => none) f)  ih h
  exact key n x2 x3 d h
set_option maxRecDepth 20000 in
theorem c_X9_go {l : Launch} {K : ix_Cx} (hKp : ix_Kp K) {n : Nat} {z : ix_Z} {a0 : Nat} {x1 : Int32} {d : ix_D2} {r : Int32} {d1 : ix_D2} (h : f_X9_go n z a0 x1 d = some (r, d1)) : ix_M l K yX9_go cX9_go 6 (some .int) 5 120 0 0 [.ref (K.2.2.1 + a0), .int x1] (ix_w z d) (some (.int r)) (ix_w z d1) := by
  refine ix_met mf_X9_go hKp (Nat.le_of_ble_eq_true rfl) ?_
  intro p e s m args below meth c hr hlk hnm X
  have X : ix_X p s m args c K cX9_go RX9 6 := X
  show ix_G p l e (ix_rm 5 120 0 0) s m args below meth c (MQ below (ix_Post K (some (.int r)) (ix_w z d1)) args s 0 0 (ix_A K)) K 6 0 0 0 [(0, .ref (K.2.2.1 + a0)), (1, .int x1)] [] (ix_w z d)
  unfold f_X9_go at h
  refine ix_iconst (v := 2) X (ix_tb_at tb_X9_go 0 rfl) (by decide) (pc1 := 1) rfl ?_
  refine ix_istore_n (i := 2) (L1 := [(2, .int 2), (0, .ref (K.2.2.1 + a0)), (1, .int x1)]) X (ix_tb_at tb_X9_go 1 rfl) rfl (Nat.le_of_ble_eq_true rfl) rfl (pc1 := 2) rfl ?_
  refine ix_iload_n (i := 1) (j := 2) X (ix_tb_at tb_X9_go 2 rfl) rfl rfl (pc1 := 3) rfl ?_
  refine ix_istore_n (i := 3) (L1 := [(3, .int x1), (2, .int 2), (0, .ref (K.2.2.1 + a0)), (1, .int x1)]) X (ix_tb_at tb_X9_go 3 rfl) rfl (Nat.le_of_ble_eq_true rfl) rfl (pc1 := 4) rfl ?_
  refine ix_sub (L1 := [(0, .ref (K.2.2.1 + a0)), (2, .int 2), (3, .int x1)]) [2, 1, 0] rfl ?_
  exact t_X9_go_4 hKp X hr hlk  h
def tab_X9_hasSource : List (Nat × Instr × Nat) := [(0, .iload_n 1, 1), (1, .bipush 8, 2), (3, .imul, 1), (4, .iload_n 2, 1), (5, .bipush 64, 2), (7, .idiv, 1), (8, .iadd, 1), (9, .istore_n 3, 1), (10, .iload_n 1, 1), (11, .ifCond .lt 32, 3), (14, .iload_n 1, 1), (15, .sipush 800, 3), (18, .if_icmp .ge 25, 3), (21, .aload_n 0, 1), (22, .getfield 38, 3), (25, .iload_n 3, 1), (26, .laload, 1), (27, .iload_n 2, 1), (28, .bipush 64, 2), (30, .irem, 1), (31, .lshr, 1), (32, .lconst 1, 1), (33, .land, 1), (34, .lconst 1, 1), (35, .lcmp, 1), (36, .ifCond .ne 7, 3), (39, .iconst 1, 1), (40, .goto 4, 3), (43, .iconst 0, 1), (44, .ireturn, 1)]
theorem tb_X9_hasSource : ix_tab cX9_hasSource tab_X9_hasSource := by
  unfold ix_tab
  decide +kernel
noncomputable def f_X9_hasSource (n : Nat) (z : ix_Z) (a0 : Nat) (x1 : Int32) (x2 : Int32) (d : ix_D2) : Option (Int32 × ix_D2) :=
  ix_lt ((x1 * 8) + (x2 / 64)) (fun x3_1 => ix_if (x1 < 0) (some (0, d)) (ix_if (800 ≤ x1) (some (0, d)) (ix_ck (ix_ok z [8] a0) (ix_bd1 (z.1 a0 7) (fun b_6 => ix_ck (ix_ix z 23 b_6 x3_1) (ix_if (lg_cmp (((d.2 b_6 (ix_n x3_1)) >>> ((x2 - x2 / 64 * 64).toInt64 &&& 63)) &&& 1) 1 = 0) (some (1, d)) (some (0, d))))))))
set_option maxRecDepth 20000 in
theorem c_X9_hasSource {l : Launch} {K : ix_Cx} (hKp : ix_Kp K) {n : Nat} {z : ix_Z} {a0 : Nat} {x1 : Int32} {x2 : Int32} {d : ix_D2} {r : Int32} {d1 : ix_D2} (h : f_X9_hasSource n z a0 x1 x2 d = some (r, d1)) : ix_M l K yX9_hasSource cX9_hasSource 4 (some .boolean) 0 0 0 0 [.ref (K.2.2.1 + a0), .int x1, .int x2] (ix_w z d) (some (.int r)) (ix_w z d1) := by
  refine ix_met mf_X9_hasSource hKp (Nat.le_of_ble_eq_true rfl) ?_
  intro p e s m args below meth c hr hlk hnm X
  have X : ix_X p s m args c K cX9_hasSource RX9 4 := X
  show ix_G p l e (ix_rm 0 0 0 0) s m args below meth c (MQ below (ix_Post K (some (.int r)) (ix_w z d1)) args s 0 0 (ix_A K)) K 4 0 0 0 [(0, .ref (K.2.2.1 + a0)), (1, .int x1), (2, .int x2)] [] (ix_w z d)
  unfold f_X9_hasSource at h
  refine ix_iload_n (i := 1) (j := 1) X (ix_tb_at tb_X9_hasSource 0 rfl) rfl rfl (pc1 := 1) rfl ?_
  refine ix_bipush (v := 8) X (ix_tb_at tb_X9_hasSource 1 rfl) (by decide) (pc1 := 3) rfl ?_
  refine ix_imul X (ix_tb_at tb_X9_hasSource 2 rfl) (pc1 := 4) rfl ?_
  refine ix_iload_n (i := 2) (j := 2) X (ix_tb_at tb_X9_hasSource 3 rfl) rfl rfl (pc1 := 5) rfl ?_
  refine ix_bipush (v := 64) X (ix_tb_at tb_X9_hasSource 4 rfl) (by decide) (pc1 := 7) rfl ?_
  refine ix_idiv X (ix_tb_at tb_X9_hasSource 5 rfl) (by decide) (pc1 := 8) rfl ?_
  refine ix_iadd X (ix_tb_at tb_X9_hasSource 6 rfl) (pc1 := 9) rfl ?_
  obtain ⟨x3_1, e_2, h⟩ := ix_lt_ex h
  refine ix_nmi e_2 ?_
  refine ix_istore_n (i := 3) (L1 := [(3, .int x3_1), (0, .ref (K.2.2.1 + a0)), (1, .int x1), (2, .int x2)]) X (ix_tb_at tb_X9_hasSource 7 rfl) rfl (Nat.le_of_ble_eq_true rfl) rfl (pc1 := 10) rfl ?_
  refine ix_iload_n (i := 1) (j := 2) X (ix_tb_at tb_X9_hasSource 8 rfl) rfl rfl (pc1 := 11) rfl ?_
  refine ix_if_lt (tgt := 43) X (ix_tb_at tb_X9_hasSource 9 rfl) (by decide) (pc1 := 14) rfl (fun q_3 => ?_) (fun q_3 => ?_)
  · have h := ix_ift q_3 h
    refine ix_iconst (v := 0) X (ix_tb_at tb_X9_hasSource 28 rfl) (by decide) (pc1 := 44) rfl ?_
    exact ix_zret X hr hlk (by decide) (ix_r2 (f := fun r => some (.int r)) (g := ix_w z) h) (ix_tb_at tb_X9_hasSource 29 rfl)
  · have h := ix_iff q_3 h
    refine ix_iload_n (i := 1) (j := 2) X (ix_tb_at tb_X9_hasSource 10 rfl) rfl rfl (pc1 := 15) rfl ?_
    refine ix_sipush (v := 800) X (ix_tb_at tb_X9_hasSource 11 rfl) (by decide) (pc1 := 18) rfl ?_
    refine ix_icmp_ge (tgt := 43) X (ix_tb_at tb_X9_hasSource 12 rfl) (by decide) (pc1 := 21) rfl (fun q_4 => ?_) (fun q_4 => ?_)
    · have h := ix_ift q_4 h
      refine ix_iconst (v := 0) X (ix_tb_at tb_X9_hasSource 28 rfl) (by decide) (pc1 := 44) rfl ?_
      exact ix_zret X hr hlk (by decide) (ix_r2 (f := fun r => some (.int r)) (g := ix_w z) h) (ix_tb_at tb_X9_hasSource 29 rfl)
    · have h := ix_iff q_4 h
      refine ix_aload_n (i := 0) (j := 1) X (ix_tb_at tb_X9_hasSource 13 rfl) rfl rfl (pc1 := 22) rfl ?_
      obtain ⟨k_5, h⟩ := ix_ck_some h
      obtain ⟨b_6, q_7, h⟩ := ix_bd1_ex h
      refine iz_getR X fl_RX9_38 k_5 q_7 (ix_tb_at tb_X9_hasSource 14 rfl) (pc1 := 25) rfl ?_
      refine ix_iload_n (i := 3) (j := 0) X (ix_tb_at tb_X9_hasSource 15 rfl) rfl rfl (pc1 := 26) rfl ?_
      obtain ⟨k_8, h⟩ := ix_ck_some h
      refine iz_lald X k_8 (ix_tb_at tb_X9_hasSource 16 rfl) (pc1 := 27) rfl ?_
      refine ix_iload_n (i := 2) (j := 3) X (ix_tb_at tb_X9_hasSource 17 rfl) rfl rfl (pc1 := 28) rfl ?_
      refine ix_bipush (v := 64) X (ix_tb_at tb_X9_hasSource 18 rfl) (by decide) (pc1 := 30) rfl ?_
      refine ix_irem X (ix_tb_at tb_X9_hasSource 19 rfl) (by decide) (pc1 := 31) rfl ?_
      refine ix_lshr X (ix_tb_at tb_X9_hasSource 20 rfl) (pc1 := 32) rfl ?_
      refine ix_lconst (v := 1) X (ix_tb_at tb_X9_hasSource 21 rfl) (by decide) (pc1 := 33) rfl ?_
      refine ix_land X (ix_tb_at tb_X9_hasSource 22 rfl) (pc1 := 34) rfl ?_
      refine ix_lconst (v := 1) X (ix_tb_at tb_X9_hasSource 23 rfl) (by decide) (pc1 := 35) rfl ?_
      refine ix_lcmp X (ix_tb_at tb_X9_hasSource 24 rfl) (pc1 := 36) rfl ?_
      refine ix_if_ne (tgt := 43) X (ix_tb_at tb_X9_hasSource 25 rfl) (by decide) (pc1 := 39) rfl (fun q_9 => ?_) (fun q_9 => ?_)
      · have h := ix_iff q_9 h
        refine ix_iconst (v := 0) X (ix_tb_at tb_X9_hasSource 28 rfl) (by decide) (pc1 := 44) rfl ?_
        exact ix_zret X hr hlk (by decide) (ix_r2 (f := fun r => some (.int r)) (g := ix_w z) h) (ix_tb_at tb_X9_hasSource 29 rfl)
      · have h := ix_ift q_9 h
        refine ix_iconst (v := 1) X (ix_tb_at tb_X9_hasSource 26 rfl) (by decide) (pc1 := 40) rfl ?_
        refine ix_goto (tgt := 44) X (ix_tb_at tb_X9_hasSource 27 rfl) (by decide) ?_
        exact ix_zret X hr hlk (by decide) (ix_r2 (f := fun r => some (.int r)) (g := ix_w z) h) (ix_tb_at tb_X9_hasSource 29 rfl)
def tab_X10_kindNumber : List (Nat × Instr × Nat) := [(0, .iconst 4, 1), (1, .ireturn, 1)]
theorem tb_X10_kindNumber : ix_tab cX10_kindNumber tab_X10_kindNumber := by
  unfold ix_tab
  decide +kernel
noncomputable def f_X10_kindNumber (n : Nat) (z : ix_Z) (a0 : Nat) (d : ix_D2) : Option (Int32 × ix_D2) :=
  some (4, d)
set_option maxRecDepth 20000 in
theorem c_X10_kindNumber {l : Launch} {K : ix_Cx} (hKp : ix_Kp K) {n : Nat} {z : ix_Z} {a0 : Nat} {d : ix_D2} {r : Int32} {d1 : ix_D2} (h : f_X10_kindNumber n z a0 d = some (r, d1)) : ix_M l K yX10_kindNumber cX10_kindNumber 1 (some .int) 0 0 0 0 [.ref (K.2.2.1 + a0)] (ix_w z d) (some (.int r)) (ix_w z d1) := by
  refine ix_met mf_X10_kindNumber hKp (Nat.le_of_ble_eq_true rfl) ?_
  intro p e s m args below meth c hr hlk hnm X
  have X : ix_X p s m args c K cX10_kindNumber RX10 1 := X
  show ix_G p l e (ix_rm 0 0 0 0) s m args below meth c (MQ below (ix_Post K (some (.int r)) (ix_w z d1)) args s 0 0 (ix_A K)) K 1 0 0 0 [(0, .ref (K.2.2.1 + a0))] [] (ix_w z d)
  unfold f_X10_kindNumber at h
  refine ix_iconst (v := 4) X (ix_tb_at tb_X10_kindNumber 0 rfl) (by decide) (pc1 := 1) rfl ?_
  exact ix_iret X hr hlk (ix_r2 (f := fun r => some (.int r)) (g := ix_w z) h) (ix_tb_at tb_X10_kindNumber 1 rfl)
def tab_X10_partsOf : List (Nat × Instr × Nat) := [(0, .iload_n 0, 1), (1, .bipush 10, 2), (3, .idiv, 1), (4, .bipush 100, 2), (6, .irem, 1), (7, .ireturn, 1)]
theorem tb_X10_partsOf : ix_tab cX10_partsOf tab_X10_partsOf := by
  unfold ix_tab
  decide +kernel
noncomputable def f_X10_partsOf (n : Nat) (z : ix_Z) (x0 : Int32) (d : ix_D2) : Option (Int32 × ix_D2) :=
  some ((x0 / 10) - (x0 / 10) / 100 * 100, d)
set_option maxRecDepth 20000 in
theorem c_X10_partsOf {l : Launch} {K : ix_Cx} (hKp : ix_Kp K) {n : Nat} {z : ix_Z} {x0 : Int32} {d : ix_D2} {r : Int32} {d1 : ix_D2} (h : f_X10_partsOf n z x0 d = some (r, d1)) : ix_M l K yX10_partsOf cX10_partsOf 1 (some .int) 0 0 0 0 [.int x0] (ix_w z d) (some (.int r)) (ix_w z d1) := by
  refine ix_met mf_X10_partsOf hKp (Nat.le_of_ble_eq_true rfl) ?_
  intro p e s m args below meth c hr hlk hnm X
  have X : ix_X p s m args c K cX10_partsOf RX10 1 := X
  show ix_G p l e (ix_rm 0 0 0 0) s m args below meth c (MQ below (ix_Post K (some (.int r)) (ix_w z d1)) args s 0 0 (ix_A K)) K 1 0 0 0 [(0, .int x0)] [] (ix_w z d)
  unfold f_X10_partsOf at h
  refine ix_iload_n (i := 0) (j := 0) X (ix_tb_at tb_X10_partsOf 0 rfl) rfl rfl (pc1 := 1) rfl ?_
  refine ix_bipush (v := 10) X (ix_tb_at tb_X10_partsOf 1 rfl) (by decide) (pc1 := 3) rfl ?_
  refine ix_idiv X (ix_tb_at tb_X10_partsOf 2 rfl) (by decide) (pc1 := 4) rfl ?_
  refine ix_bipush (v := 100) X (ix_tb_at tb_X10_partsOf 3 rfl) (by decide) (pc1 := 6) rfl ?_
  refine ix_irem X (ix_tb_at tb_X10_partsOf 4 rfl) (by decide) (pc1 := 7) rfl ?_
  exact ix_iret X hr hlk (ix_r2 (f := fun r => some (.int r)) (g := ix_w z) h) (ix_tb_at tb_X10_partsOf 5 rfl)
def tab_X10_signOf : List (Nat × Instr × Nat) := [(0, .iload_n 0, 1), (1, .sipush 1000, 3), (4, .idiv, 1), (5, .bipush 10, 2), (7, .isub, 1), (8, .ireturn, 1)]
theorem tb_X10_signOf : ix_tab cX10_signOf tab_X10_signOf := by
  unfold ix_tab
  decide +kernel
noncomputable def f_X10_signOf (n : Nat) (z : ix_Z) (x0 : Int32) (d : ix_D2) : Option (Int32 × ix_D2) :=
  some ((x0 / 1000) - 10, d)
set_option maxRecDepth 20000 in
theorem c_X10_signOf {l : Launch} {K : ix_Cx} (hKp : ix_Kp K) {n : Nat} {z : ix_Z} {x0 : Int32} {d : ix_D2} {r : Int32} {d1 : ix_D2} (h : f_X10_signOf n z x0 d = some (r, d1)) : ix_M l K yX10_signOf cX10_signOf 1 (some .int) 0 0 0 0 [.int x0] (ix_w z d) (some (.int r)) (ix_w z d1) := by
  refine ix_met mf_X10_signOf hKp (Nat.le_of_ble_eq_true rfl) ?_
  intro p e s m args below meth c hr hlk hnm X
  have X : ix_X p s m args c K cX10_signOf RX10 1 := X
  show ix_G p l e (ix_rm 0 0 0 0) s m args below meth c (MQ below (ix_Post K (some (.int r)) (ix_w z d1)) args s 0 0 (ix_A K)) K 1 0 0 0 [(0, .int x0)] [] (ix_w z d)
  unfold f_X10_signOf at h
  refine ix_iload_n (i := 0) (j := 0) X (ix_tb_at tb_X10_signOf 0 rfl) rfl rfl (pc1 := 1) rfl ?_
  refine ix_sipush (v := 1000) X (ix_tb_at tb_X10_signOf 1 rfl) (by decide) (pc1 := 4) rfl ?_
  refine ix_idiv X (ix_tb_at tb_X10_signOf 2 rfl) (by decide) (pc1 := 5) rfl ?_
  refine ix_bipush (v := 10) X (ix_tb_at tb_X10_signOf 3 rfl) (by decide) (pc1 := 7) rfl ?_
  refine ix_isub X (ix_tb_at tb_X10_signOf 4 rfl) (pc1 := 8) rfl ?_
  exact ix_iret X hr hlk (ix_r2 (f := fun r => some (.int r)) (g := ix_w z) h) (ix_tb_at tb_X10_signOf 5 rfl)
def tab_X10_layAll : List (Nat × Instr × Nat) := [(0, .iload_n 2, 1), (1, .istore 5, 2), (3, .iload 5, 2), (5, .iload_n 2, 1), (6, .iload_n 3, 1), (7, .iadd, 1), (8, .if_icmp .ge 24, 3), (11, .aload_n 1, 1), (12, .aload_n 0, 1), (13, .getfield 40, 3), (16, .iload 5, 2), (18, .iaload, 1), (19, .iload 4, 2), (21, .ineg, 1), (22, .iconst 0, 1), (23, .invokevirtual 75, 3), (26, .iinc 5 1, 3), (29, .goto (-26), 3), (32, .aload_n 1, 1), (33, .iload 4, 2), (35, .invokevirtual 79, 3), (38, .iload_n 2, 1), (39, .istore 5, 2), (41, .iload 5, 2), (43, .iload_n 2, 1), (44, .iload_n 3, 1), (45, .iadd, 1), (46, .if_icmp .ge 21, 3), (49, .aload_n 1, 1), (50, .aload_n 0, 1), (51, .getfield 40, 3), (54, .iload 5, 2), (56, .iaload, 1), (57, .ineg, 1), (58, .invokevirtual 79, 3), (61, .iinc 5 1, 3), (64, .goto (-23), 3), (67, .aload_n 1, 1), (68, .invokevirtual 83, 3), (71, .return_, 1)]
theorem tb_X10_layAll : ix_tab cX10_layAll tab_X10_layAll := by
  unfold ix_tab
  decide +kernel
noncomputable def b_X10_layAll_41 (n : Nat) (z : ix_Z)  (a0 : Nat) (a1 : Nat) (x2 : Int32) (x3 : Int32) (rec41 : Int32 → ix_D2 → Option (ix_D2)) (x5 : Int32) (d : ix_D2) : Option (ix_D2) :=
  ix_if (x2 + x3 ≤ x5) (ix_ck (ix_ok z [2] a1) (ix_bd1 (f_X2_layDraft n z a1 d) (fun d_6 => some d_6))) (ix_ck (ix_ok z [9] a0) (ix_bd1 (z.1 a0 5) (fun b_10 => ix_ck (ix_ix z 20 b_10 x5) (ix_ck (ix_ok z [2] a1) (ix_bd1 (f_X2_add n z a1 (-(d.1 b_10 (ix_n x5))) d) (fun d_13 => ix_lt (x5 + 1) (fun x5_16 => rec41 x5_16 d_13)))))))
noncomputable def f_X10_layAll_41 (n : Nat) (z : ix_Z)  (a0 : Nat) (a1 : Nat) (x2 : Int32) (x3 : Int32) (x5 : Int32) (d : ix_D2) : Option (ix_D2) := ix_fix (b_X10_layAll_41 n z  a0 a1 x2 x3) (fun _ _ => none) n x5 d
noncomputable def b_X10_layAll_3 (n : Nat) (z : ix_Z)  (a0 : Nat) (a1 : Nat) (x2 : Int32) (x3 : Int32) (x4 : Int32) (rec3 : Int32 → ix_D2 → Option (ix_D2)) (x5 : Int32) (d : ix_D2) : Option (ix_D2) :=
  ix_if (x2 + x3 ≤ x5) (ix_ck (ix_ok z [2] a1) (ix_bd1 (f_X2_add n z a1 x4 d) (fun d_2 => f_X10_layAll_41 n z  a0 a1 x2 x3 x2 d_2))) (ix_ck (ix_ok z [9] a0) (ix_bd1 (z.1 a0 5) (fun b_19 => ix_ck (ix_ix z 20 b_19 x5) (ix_ck (ix_ok z [2] a1) (ix_bd1 (f_X2_lay n z a1 (d.1 b_19 (ix_n x5)) (-x4) 0 d) (fun d_22 => ix_lt (x5 + 1) (fun x5_25 => rec3 x5_25 d_22)))))))
noncomputable def f_X10_layAll_3 (n : Nat) (z : ix_Z)  (a0 : Nat) (a1 : Nat) (x2 : Int32) (x3 : Int32) (x4 : Int32) (x5 : Int32) (d : ix_D2) : Option (ix_D2) := ix_fix (b_X10_layAll_3 n z  a0 a1 x2 x3 x4) (fun _ _ => none) n x5 d
noncomputable def f_X10_layAll (n : Nat) (z : ix_Z) (a0 : Nat) (a1 : Nat) (x2 : Int32) (x3 : Int32) (x4 : Int32) (d : ix_D2) : Option (ix_D2) :=
  f_X10_layAll_3 n z  a0 a1 x2 x3 x4 x2 d
set_option maxRecDepth 20000 in
theorem tb_X10_layAll_41 {l : Launch} {p : Program} {e : Env} {s : State} {m : MethodId} {args : Array Value} {below : List Frame} {meth : Method} {c : Code} {K : ix_Cx} (hKp : ix_Kp K) {n : Nat} {z : ix_Z} (X : ix_X p s m args c K cX10_layAll RX10 6) (hr : meth.sig.returnType = (none : Option Jvm.ClassFile.FieldType)) (hlk : meth.locks = false)  {a0 : Nat} {a1 : Nat} {x2 : Int32} {x3 : Int32} {rec41 : Int32 → ix_D2 → Option (ix_D2)} {d1 : ix_D2} (hrec41 : ∀ (x5 : Int32) (d : ix_D2), rec41 x5 d = some d1 → ix_G p l e (ix_rm 4 94 0 0) s m args below meth c (MQ below (ix_Post K none (ix_w z d1)) args s 0 0 (ix_A K)) K 6 0 0 41 [(0, .ref (K.2.2.1 + a0)), (1, .ref (K.2.2.1 + a1)), (2, .int x2), (3, .int x3), (5, .int x5)] [] (ix_w z d)) {x5 : Int32} {d : ix_D2} (h : b_X10_layAll_41 n z  a0 a1 x2 x3 rec41 x5 d = some d1) : ix_G p l e (ix_rm 4 94 0 0) s m args below meth c (MQ below (ix_Post K none (ix_w z d1)) args s 0 0 (ix_A K)) K 6 0 0 41 [(0, .ref (K.2.2.1 + a0)), (1, .ref (K.2.2.1 + a1)), (2, .int x2), (3, .int x3), (5, .int x5)] [] (ix_w z d) := by
  unfold b_X10_layAll_41 at h
  refine ix_iload (i := 5) (j := 4) X (ix_tb_at tb_X10_layAll 23 rfl) rfl (pc1 := 43) rfl ?_
  refine ix_iload_n (i := 2) (j := 2) X (ix_tb_at tb_X10_layAll 24 rfl) rfl rfl (pc1 := 44) rfl ?_
  refine ix_iload_n (i := 3) (j := 3) X (ix_tb_at tb_X10_layAll 25 rfl) rfl rfl (pc1 := 45) rfl ?_
  refine ix_iadd X (ix_tb_at tb_X10_layAll 26 rfl) (pc1 := 46) rfl ?_
  refine ix_icmp_ge (tgt := 67) X (ix_tb_at tb_X10_layAll 27 rfl) (by decide) (pc1 := 49) rfl (fun q_5 => ?_) (fun q_5 => ?_)
  · have h := ix_ift q_5 h
    refine ix_aload_n (i := 1) (j := 1) X (ix_tb_at tb_X10_layAll 37 rfl) rfl rfl (pc1 := 68) rfl ?_
    obtain ⟨k_8, h⟩ := ix_ck_some h
    obtain ⟨d_6, h_7, h⟩ := ix_bd1_ex h
    refine ix_callV (As := []) (rest := []) (ci := 2) (T := TX2) (nf := 12) X mf_X2_layDraft mi_X2_layDraft ms_X2_layDraft rfl (Nat.le_of_ble_eq_true rfl) ml_RX10_83 ⟨Nat.le_of_ble_eq_true rfl, Nat.le_of_ble_eq_true rfl⟩ ⟨Nat.le_of_ble_eq_true rfl, Nat.le_of_ble_eq_true rfl⟩ rfl (Nat.le_of_ble_eq_true rfl) (ix_tb_at tb_X10_layAll 38 rfl) ⟨k_8.1, List.mem_singleton.mp k_8.2⟩ (c_X2_layDraft hKp h_7) rfl (pc1 := 71) rfl ?_
    exact ix_vret X hr hlk (ix_r1 (g := ix_w z) h) (ix_tb_at tb_X10_layAll 39 rfl)
  · have h := ix_iff q_5 h
    refine ix_aload_n (i := 1) (j := 1) X (ix_tb_at tb_X10_layAll 28 rfl) rfl rfl (pc1 := 50) rfl ?_
    refine ix_aload_n (i := 0) (j := 0) X (ix_tb_at tb_X10_layAll 29 rfl) rfl rfl (pc1 := 51) rfl ?_
    obtain ⟨k_9, h⟩ := ix_ck_some h
    obtain ⟨b_10, q_11, h⟩ := ix_bd1_ex h
    refine iz_getR X fl_RX10_40 k_9 q_11 (ix_tb_at tb_X10_layAll 30 rfl) (pc1 := 54) rfl ?_
    refine ix_iload (i := 5) (j := 4) X (ix_tb_at tb_X10_layAll 31 rfl) rfl (pc1 := 56) rfl ?_
    obtain ⟨k_12, h⟩ := ix_ck_some h
    refine iz_iald X k_12 (ix_tb_at tb_X10_layAll 32 rfl) (pc1 := 57) rfl ?_
    refine ix_ineg X (ix_tb_at tb_X10_layAll 33 rfl) (pc1 := 58) rfl ?_
    obtain ⟨k_15, h⟩ := ix_ck_some h
    obtain ⟨d_13, h_14, h⟩ := ix_bd1_ex h
    refine ix_callV (As := [.int (-(d.1 b_10 (ix_n x5)))]) (rest := []) (ci := 2) (T := TX2) (nf := 12) X mf_X2_add mi_X2_add ms_X2_add rfl (Nat.le_of_ble_eq_true rfl) ml_RX10_79 ⟨Nat.le_of_ble_eq_true rfl, Nat.le_of_ble_eq_true rfl⟩ ⟨Nat.le_of_ble_eq_true rfl, Nat.le_of_ble_eq_true rfl⟩ rfl (Nat.le_of_ble_eq_true rfl) (ix_tb_at tb_X10_layAll 34 rfl) ⟨k_15.1, List.mem_singleton.mp k_15.2⟩ (c_X2_add hKp h_14) rfl (pc1 := 61) rfl ?_
    obtain ⟨x5_16, e_17, h⟩ := ix_lt_ex h
    refine ix_iinc (i := 5) (j := 4) (v := x5_16) (L1 := [(5, .int x5_16), (0, .ref (K.2.2.1 + a0)), (1, .ref (K.2.2.1 + a1)), (2, .int x2), (3, .int x3)]) X (ix_tb_at tb_X10_layAll 35 rfl) rfl (by rw [oi_1]; exact e_17.symm) (Nat.le_of_ble_eq_true rfl) rfl (pc1 := 64) rfl ?_
    refine ix_goto (tgt := 41) X (ix_tb_at tb_X10_layAll 36 rfl) (by decide) ?_
    refine ix_sub (L1 := [(0, .ref (K.2.2.1 + a0)), (1, .ref (K.2.2.1 + a1)), (2, .int x2), (3, .int x3), (5, .int x5_16)]) [1, 2, 3, 4, 0] rfl ?_
    exact hrec41 x5_16 d_13 h
theorem t_X10_layAll_41 {l : Launch} {p : Program} {e : Env} {s : State} {m : MethodId} {args : Array Value} {below : List Frame} {meth : Method} {c : Code} {K : ix_Cx} (hKp : ix_Kp K) {n : Nat} {z : ix_Z} (X : ix_X p s m args c K cX10_layAll RX10 6) (hr : meth.sig.returnType = (none : Option Jvm.ClassFile.FieldType)) (hlk : meth.locks = false)  {a0 : Nat} {a1 : Nat} {x2 : Int32} {x3 : Int32} {d1 : ix_D2}  {x5 : Int32} {d : ix_D2} (h : f_X10_layAll_41 n z  a0 a1 x2 x3 x5 d = some d1) : ix_G p l e (ix_rm 4 94 0 0) s m args below meth c (MQ below (ix_Post K none (ix_w z d1)) args s 0 0 (ix_A K)) K 6 0 0 41 [(0, .ref (K.2.2.1 + a0)), (1, .ref (K.2.2.1 + a1)), (2, .int x2), (3, .int x3), (5, .int x5)] [] (ix_w z d) := by
  have key : ∀ (f : Nat) (x5 : Int32) (d : ix_D2), ix_fix (b_X10_layAll_41 n z  a0 a1 x2 x3) (fun _ _ => none) f x5 d = some d1 → ix_G p l e (ix_rm 4 94 0 0) s m args below meth c (MQ below (ix_Post K none (ix_w z d1)) args s 0 0 (ix_A K)) K 6 0 0 41 [(0, .ref (K.2.2.1 + a0)), (1, .ref (K.2.2.1 + a1)), (2, .int x2), (3, .int x3), (5, .int x5)] [] (ix_w z d) := by
    intro f
    induction f with
    | zero =>
      intro x5 d h
      have h : (none : Option (ix_D2)) = some d1 := h
      cases h
    | succ f ih =>
      intro x5 d h
      exact tb_X10_layAll_41 hKp X hr hlk (rec41 := ix_fix (b_X10_layAll_41 n z  a0 a1 x2 x3) (fun _ _ => none) f)  ih h
  exact key n x5 d h
set_option maxRecDepth 20000 in
theorem tb_X10_layAll_3 {l : Launch} {p : Program} {e : Env} {s : State} {m : MethodId} {args : Array Value} {below : List Frame} {meth : Method} {c : Code} {K : ix_Cx} (hKp : ix_Kp K) {n : Nat} {z : ix_Z} (X : ix_X p s m args c K cX10_layAll RX10 6) (hr : meth.sig.returnType = (none : Option Jvm.ClassFile.FieldType)) (hlk : meth.locks = false)  {a0 : Nat} {a1 : Nat} {x2 : Int32} {x3 : Int32} {x4 : Int32} {rec3 : Int32 → ix_D2 → Option (ix_D2)} {d1 : ix_D2} (hrec3 : ∀ (x5 : Int32) (d : ix_D2), rec3 x5 d = some d1 → ix_G p l e (ix_rm 4 94 0 0) s m args below meth c (MQ below (ix_Post K none (ix_w z d1)) args s 0 0 (ix_A K)) K 6 0 0 3 [(0, .ref (K.2.2.1 + a0)), (1, .ref (K.2.2.1 + a1)), (2, .int x2), (3, .int x3), (4, .int x4), (5, .int x5)] [] (ix_w z d)) {x5 : Int32} {d : ix_D2} (h : b_X10_layAll_3 n z  a0 a1 x2 x3 x4 rec3 x5 d = some d1) : ix_G p l e (ix_rm 4 94 0 0) s m args below meth c (MQ below (ix_Post K none (ix_w z d1)) args s 0 0 (ix_A K)) K 6 0 0 3 [(0, .ref (K.2.2.1 + a0)), (1, .ref (K.2.2.1 + a1)), (2, .int x2), (3, .int x3), (4, .int x4), (5, .int x5)] [] (ix_w z d) := by
  unfold b_X10_layAll_3 at h
  refine ix_iload (i := 5) (j := 5) X (ix_tb_at tb_X10_layAll 2 rfl) rfl (pc1 := 5) rfl ?_
  refine ix_iload_n (i := 2) (j := 2) X (ix_tb_at tb_X10_layAll 3 rfl) rfl rfl (pc1 := 6) rfl ?_
  refine ix_iload_n (i := 3) (j := 3) X (ix_tb_at tb_X10_layAll 4 rfl) rfl rfl (pc1 := 7) rfl ?_
  refine ix_iadd X (ix_tb_at tb_X10_layAll 5 rfl) (pc1 := 8) rfl ?_
  refine ix_icmp_ge (tgt := 32) X (ix_tb_at tb_X10_layAll 6 rfl) (by decide) (pc1 := 11) rfl (fun q_1 => ?_) (fun q_1 => ?_)
  · have h := ix_ift q_1 h
    refine ix_aload_n (i := 1) (j := 1) X (ix_tb_at tb_X10_layAll 18 rfl) rfl rfl (pc1 := 33) rfl ?_
    refine ix_iload (i := 4) (j := 4) X (ix_tb_at tb_X10_layAll 19 rfl) rfl (pc1 := 35) rfl ?_
    obtain ⟨k_4, h⟩ := ix_ck_some h
    obtain ⟨d_2, h_3, h⟩ := ix_bd1_ex h
    refine ix_callV (As := [.int x4]) (rest := []) (ci := 2) (T := TX2) (nf := 12) X mf_X2_add mi_X2_add ms_X2_add rfl (Nat.le_of_ble_eq_true rfl) ml_RX10_79 ⟨Nat.le_of_ble_eq_true rfl, Nat.le_of_ble_eq_true rfl⟩ ⟨Nat.le_of_ble_eq_true rfl, Nat.le_of_ble_eq_true rfl⟩ rfl (Nat.le_of_ble_eq_true rfl) (ix_tb_at tb_X10_layAll 20 rfl) ⟨k_4.1, List.mem_singleton.mp k_4.2⟩ (c_X2_add hKp h_3) rfl (pc1 := 38) rfl ?_
    refine ix_iload_n (i := 2) (j := 2) X (ix_tb_at tb_X10_layAll 21 rfl) rfl rfl (pc1 := 39) rfl ?_
    refine ix_istore (i := 5) (L1 := [(5, .int x2), (0, .ref (K.2.2.1 + a0)), (1, .ref (K.2.2.1 + a1)), (2, .int x2), (3, .int x3), (4, .int x4)]) X (ix_tb_at tb_X10_layAll 22 rfl) (Nat.le_of_ble_eq_true rfl) rfl (pc1 := 41) rfl ?_
    refine ix_sub (L1 := [(0, .ref (K.2.2.1 + a0)), (1, .ref (K.2.2.1 + a1)), (2, .int x2), (3, .int x3), (5, .int x2)]) [1, 2, 3, 4, 0] rfl ?_
    exact t_X10_layAll_41 hKp X hr hlk  h
  · have h := ix_iff q_1 h
    refine ix_aload_n (i := 1) (j := 1) X (ix_tb_at tb_X10_layAll 7 rfl) rfl rfl (pc1 := 12) rfl ?_
    refine ix_aload_n (i := 0) (j := 0) X (ix_tb_at tb_X10_layAll 8 rfl) rfl rfl (pc1 := 13) rfl ?_
    obtain ⟨k_18, h⟩ := ix_ck_some h
    obtain ⟨b_19, q_20, h⟩ := ix_bd1_ex h
    refine iz_getR X fl_RX10_40 k_18 q_20 (ix_tb_at tb_X10_layAll 9 rfl) (pc1 := 16) rfl ?_
    refine ix_iload (i := 5) (j := 5) X (ix_tb_at tb_X10_layAll 10 rfl) rfl (pc1 := 18) rfl ?_
    obtain ⟨k_21, h⟩ := ix_ck_some h
    refine iz_iald X k_21 (ix_tb_at tb_X10_layAll 11 rfl) (pc1 := 19) rfl ?_
    refine ix_iload (i := 4) (j := 4) X (ix_tb_at tb_X10_layAll 12 rfl) rfl (pc1 := 21) rfl ?_
    refine ix_ineg X (ix_tb_at tb_X10_layAll 13 rfl) (pc1 := 22) rfl ?_
    refine ix_iconst (v := 0) X (ix_tb_at tb_X10_layAll 14 rfl) (by decide) (pc1 := 23) rfl ?_
    obtain ⟨k_24, h⟩ := ix_ck_some h
    obtain ⟨d_22, h_23, h⟩ := ix_bd1_ex h
    refine ix_callV (As := [.int (d.1 b_19 (ix_n x5)), .int (-x4), .int 0]) (rest := []) (ci := 2) (T := TX2) (nf := 12) X mf_X2_lay mi_X2_lay ms_X2_lay rfl (Nat.le_of_ble_eq_true rfl) ml_RX10_75 ⟨Nat.le_of_ble_eq_true rfl, Nat.le_of_ble_eq_true rfl⟩ ⟨Nat.le_of_ble_eq_true rfl, Nat.le_of_ble_eq_true rfl⟩ rfl (Nat.le_of_ble_eq_true rfl) (ix_tb_at tb_X10_layAll 15 rfl) ⟨k_24.1, List.mem_singleton.mp k_24.2⟩ (c_X2_lay hKp h_23) rfl (pc1 := 26) rfl ?_
    obtain ⟨x5_25, e_26, h⟩ := ix_lt_ex h
    refine ix_iinc (i := 5) (j := 5) (v := x5_25) (L1 := [(5, .int x5_25), (0, .ref (K.2.2.1 + a0)), (1, .ref (K.2.2.1 + a1)), (2, .int x2), (3, .int x3), (4, .int x4)]) X (ix_tb_at tb_X10_layAll 16 rfl) rfl (by rw [oi_1]; exact e_26.symm) (Nat.le_of_ble_eq_true rfl) rfl (pc1 := 29) rfl ?_
    refine ix_goto (tgt := 3) X (ix_tb_at tb_X10_layAll 17 rfl) (by decide) ?_
    refine ix_sub (L1 := [(0, .ref (K.2.2.1 + a0)), (1, .ref (K.2.2.1 + a1)), (2, .int x2), (3, .int x3), (4, .int x4), (5, .int x5_25)]) [1, 2, 3, 4, 5, 0] rfl ?_
    exact hrec3 x5_25 d_22 h
theorem t_X10_layAll_3 {l : Launch} {p : Program} {e : Env} {s : State} {m : MethodId} {args : Array Value} {below : List Frame} {meth : Method} {c : Code} {K : ix_Cx} (hKp : ix_Kp K) {n : Nat} {z : ix_Z} (X : ix_X p s m args c K cX10_layAll RX10 6) (hr : meth.sig.returnType = (none : Option Jvm.ClassFile.FieldType)) (hlk : meth.locks = false)  {a0 : Nat} {a1 : Nat} {x2 : Int32} {x3 : Int32} {x4 : Int32} {d1 : ix_D2}  {x5 : Int32} {d : ix_D2} (h : f_X10_layAll_3 n z  a0 a1 x2 x3 x4 x5 d = some d1) : ix_G p l e (ix_rm 4 94 0 0) s m args below meth c (MQ below (ix_Post K none (ix_w z d1)) args s 0 0 (ix_A K)) K 6 0 0 3 [(0, .ref (K.2.2.1 + a0)), (1, .ref (K.2.2.1 + a1)), (2, .int x2), (3, .int x3), (4, .int x4), (5, .int x5)] [] (ix_w z d) := by
  have key : ∀ (f : Nat) (x5 : Int32) (d : ix_D2), ix_fix (b_X10_layAll_3 n z  a0 a1 x2 x3 x4) (fun _ _ => none) f x5 d = some d1 → ix_G p l e (ix_rm 4 94 0 0) s m args below meth c (MQ below (ix_Post K none (ix_w z d1)) args s 0 0 (ix_A K)) K 6 0 0 3 [(0, .ref (K.2.2.1 + a0)), (1, .ref (K.2.2.1 + a1)), (2, .int x2), (3, .int x3), (4, .int x4), (5, .int x5)] [] (ix_w z d) := by
    intro f
    induction f with
    | zero =>
      intro x5 d h
      have h : (none : Option (ix_D2)) = some d1 := h
      cases h
    | succ f ih =>
      intro x5 d h
      exact tb_X10_layAll_3 hKp X hr hlk (rec3 := ix_fix (b_X10_layAll_3 n z  a0 a1 x2 x3 x4) (fun _ _ => none) f)  ih h
  exact key n x5 d h
set_option maxRecDepth 20000 in
theorem c_X10_layAll {l : Launch} {K : ix_Cx} (hKp : ix_Kp K) {n : Nat} {z : ix_Z} {a0 : Nat} {a1 : Nat} {x2 : Int32} {x3 : Int32} {x4 : Int32} {d : ix_D2} {d1 : ix_D2} (h : f_X10_layAll n z a0 a1 x2 x3 x4 d = some d1) : ix_M l K yX10_layAll cX10_layAll 6 (none : Option Jvm.ClassFile.FieldType) 4 94 0 0 [.ref (K.2.2.1 + a0), .ref (K.2.2.1 + a1), .int x2, .int x3, .int x4] (ix_w z d) none (ix_w z d1) := by
  refine ix_met mf_X10_layAll hKp (Nat.le_of_ble_eq_true rfl) ?_
  intro p e s m args below meth c hr hlk hnm X
  have X : ix_X p s m args c K cX10_layAll RX10 6 := X
  show ix_G p l e (ix_rm 4 94 0 0) s m args below meth c (MQ below (ix_Post K none (ix_w z d1)) args s 0 0 (ix_A K)) K 6 0 0 0 [(0, .ref (K.2.2.1 + a0)), (1, .ref (K.2.2.1 + a1)), (2, .int x2), (3, .int x3), (4, .int x4)] [] (ix_w z d)
  unfold f_X10_layAll at h
  refine ix_iload_n (i := 2) (j := 2) X (ix_tb_at tb_X10_layAll 0 rfl) rfl rfl (pc1 := 1) rfl ?_
  refine ix_istore (i := 5) (L1 := [(5, .int x2), (0, .ref (K.2.2.1 + a0)), (1, .ref (K.2.2.1 + a1)), (2, .int x2), (3, .int x3), (4, .int x4)]) X (ix_tb_at tb_X10_layAll 1 rfl) (Nat.le_of_ble_eq_true rfl) rfl (pc1 := 3) rfl ?_
  refine ix_sub (L1 := [(0, .ref (K.2.2.1 + a0)), (1, .ref (K.2.2.1 + a1)), (2, .int x2), (3, .int x3), (4, .int x4), (5, .int x2)]) [1, 2, 3, 4, 5, 0] rfl ?_
  exact t_X10_layAll_3 hKp X hr hlk  h
def tab_X10_addParts : List (Nat × Instr × Nat) := [(0, .iload_n 2, 1), (1, .istore 4, 2), (3, .iload 4, 2), (5, .iload_n 2, 1), (6, .iload_n 3, 1), (7, .iadd, 1), (8, .if_icmp .ge 20, 3), (11, .aload_n 1, 1), (12, .aload_n 0, 1), (13, .getfield 40, 3), (16, .iload 4, 2), (18, .iaload, 1), (19, .invokevirtual 79, 3), (22, .iinc 4 1, 3), (25, .goto (-22), 3), (28, .return_, 1)]
theorem tb_X10_addParts : ix_tab cX10_addParts tab_X10_addParts := by
  unfold ix_tab
  decide +kernel
noncomputable def b_X10_addParts_3 (n : Nat) (z : ix_Z)  (a0 : Nat) (a1 : Nat) (x2 : Int32) (x3 : Int32) (rec3 : Int32 → ix_D2 → Option (ix_D2)) (x4 : Int32) (d : ix_D2) : Option (ix_D2) :=
  ix_if (x2 + x3 ≤ x4) (some d) (ix_ck (ix_ok z [9] a0) (ix_bd1 (z.1 a0 5) (fun b_3 => ix_ck (ix_ix z 20 b_3 x4) (ix_ck (ix_ok z [2] a1) (ix_bd1 (f_X2_add n z a1 (d.1 b_3 (ix_n x4)) d) (fun d_6 => ix_lt (x4 + 1) (fun x4_9 => rec3 x4_9 d_6)))))))
noncomputable def f_X10_addParts_3 (n : Nat) (z : ix_Z)  (a0 : Nat) (a1 : Nat) (x2 : Int32) (x3 : Int32) (x4 : Int32) (d : ix_D2) : Option (ix_D2) := ix_fix (b_X10_addParts_3 n z  a0 a1 x2 x3) (fun _ _ => none) n x4 d
noncomputable def f_X10_addParts (n : Nat) (z : ix_Z) (a0 : Nat) (a1 : Nat) (x2 : Int32) (x3 : Int32) (d : ix_D2) : Option (ix_D2) :=
  f_X10_addParts_3 n z  a0 a1 x2 x3 x2 d
set_option maxRecDepth 20000 in
theorem tb_X10_addParts_3 {l : Launch} {p : Program} {e : Env} {s : State} {m : MethodId} {args : Array Value} {below : List Frame} {meth : Method} {c : Code} {K : ix_Cx} (hKp : ix_Kp K) {n : Nat} {z : ix_Z} (X : ix_X p s m args c K cX10_addParts RX10 5) (hr : meth.sig.returnType = (none : Option Jvm.ClassFile.FieldType)) (hlk : meth.locks = false)  {a0 : Nat} {a1 : Nat} {x2 : Int32} {x3 : Int32} {rec3 : Int32 → ix_D2 → Option (ix_D2)} {d1 : ix_D2} (hrec3 : ∀ (x4 : Int32) (d : ix_D2), rec3 x4 d = some d1 → ix_G p l e (ix_rm 1 22 0 0) s m args below meth c (MQ below (ix_Post K none (ix_w z d1)) args s 0 0 (ix_A K)) K 5 0 0 3 [(0, .ref (K.2.2.1 + a0)), (1, .ref (K.2.2.1 + a1)), (2, .int x2), (3, .int x3), (4, .int x4)] [] (ix_w z d)) {x4 : Int32} {d : ix_D2} (h : b_X10_addParts_3 n z  a0 a1 x2 x3 rec3 x4 d = some d1) : ix_G p l e (ix_rm 1 22 0 0) s m args below meth c (MQ below (ix_Post K none (ix_w z d1)) args s 0 0 (ix_A K)) K 5 0 0 3 [(0, .ref (K.2.2.1 + a0)), (1, .ref (K.2.2.1 + a1)), (2, .int x2), (3, .int x3), (4, .int x4)] [] (ix_w z d) := by
  unfold b_X10_addParts_3 at h
  refine ix_iload (i := 4) (j := 4) X (ix_tb_at tb_X10_addParts 2 rfl) rfl (pc1 := 5) rfl ?_
  refine ix_iload_n (i := 2) (j := 2) X (ix_tb_at tb_X10_addParts 3 rfl) rfl rfl (pc1 := 6) rfl ?_
  refine ix_iload_n (i := 3) (j := 3) X (ix_tb_at tb_X10_addParts 4 rfl) rfl rfl (pc1 := 7) rfl ?_
  refine ix_iadd X (ix_tb_at tb_X10_addParts 5 rfl) (pc1 := 8) rfl ?_
  refine ix_icmp_ge (tgt := 28) X (ix_tb_at tb_X10_addParts 6 rfl) (by decide) (pc1 := 11) rfl (fun q_1 => ?_) (fun q_1 => ?_)
  · have h := ix_ift q_1 h
    exact ix_vret X hr hlk (ix_r1 (g := ix_w z) h) (ix_tb_at tb_X10_addParts 15 rfl)
  · have h := ix_iff q_1 h
    refine ix_aload_n (i := 1) (j := 1) X (ix_tb_at tb_X10_addParts 7 rfl) rfl rfl (pc1 := 12) rfl ?_
    refine ix_aload_n (i := 0) (j := 0) X (ix_tb_at tb_X10_addParts 8 rfl) rfl rfl (pc1 := 13) rfl ?_
    obtain ⟨k_2, h⟩ := ix_ck_some h
    obtain ⟨b_3, q_4, h⟩ := ix_bd1_ex h
    refine iz_getR X fl_RX10_40 k_2 q_4 (ix_tb_at tb_X10_addParts 9 rfl) (pc1 := 16) rfl ?_
    refine ix_iload (i := 4) (j := 4) X (ix_tb_at tb_X10_addParts 10 rfl) rfl (pc1 := 18) rfl ?_
    obtain ⟨k_5, h⟩ := ix_ck_some h
    refine iz_iald X k_5 (ix_tb_at tb_X10_addParts 11 rfl) (pc1 := 19) rfl ?_
    obtain ⟨k_8, h⟩ := ix_ck_some h
    obtain ⟨d_6, h_7, h⟩ := ix_bd1_ex h
    refine ix_callV (As := [.int (d.1 b_3 (ix_n x4))]) (rest := []) (ci := 2) (T := TX2) (nf := 12) X mf_X2_add mi_X2_add ms_X2_add rfl (Nat.le_of_ble_eq_true rfl) ml_RX10_79 ⟨Nat.le_of_ble_eq_true rfl, Nat.le_of_ble_eq_true rfl⟩ ⟨Nat.le_of_ble_eq_true rfl, Nat.le_of_ble_eq_true rfl⟩ rfl (Nat.le_of_ble_eq_true rfl) (ix_tb_at tb_X10_addParts 12 rfl) ⟨k_8.1, List.mem_singleton.mp k_8.2⟩ (c_X2_add hKp h_7) rfl (pc1 := 22) rfl ?_
    obtain ⟨x4_9, e_10, h⟩ := ix_lt_ex h
    refine ix_iinc (i := 4) (j := 4) (v := x4_9) (L1 := [(4, .int x4_9), (0, .ref (K.2.2.1 + a0)), (1, .ref (K.2.2.1 + a1)), (2, .int x2), (3, .int x3)]) X (ix_tb_at tb_X10_addParts 13 rfl) rfl (by rw [oi_1]; exact e_10.symm) (Nat.le_of_ble_eq_true rfl) rfl (pc1 := 25) rfl ?_
    refine ix_goto (tgt := 3) X (ix_tb_at tb_X10_addParts 14 rfl) (by decide) ?_
    refine ix_sub (L1 := [(0, .ref (K.2.2.1 + a0)), (1, .ref (K.2.2.1 + a1)), (2, .int x2), (3, .int x3), (4, .int x4_9)]) [1, 2, 3, 4, 0] rfl ?_
    exact hrec3 x4_9 d_6 h
theorem t_X10_addParts_3 {l : Launch} {p : Program} {e : Env} {s : State} {m : MethodId} {args : Array Value} {below : List Frame} {meth : Method} {c : Code} {K : ix_Cx} (hKp : ix_Kp K) {n : Nat} {z : ix_Z} (X : ix_X p s m args c K cX10_addParts RX10 5) (hr : meth.sig.returnType = (none : Option Jvm.ClassFile.FieldType)) (hlk : meth.locks = false)  {a0 : Nat} {a1 : Nat} {x2 : Int32} {x3 : Int32} {d1 : ix_D2}  {x4 : Int32} {d : ix_D2} (h : f_X10_addParts_3 n z  a0 a1 x2 x3 x4 d = some d1) : ix_G p l e (ix_rm 1 22 0 0) s m args below meth c (MQ below (ix_Post K none (ix_w z d1)) args s 0 0 (ix_A K)) K 5 0 0 3 [(0, .ref (K.2.2.1 + a0)), (1, .ref (K.2.2.1 + a1)), (2, .int x2), (3, .int x3), (4, .int x4)] [] (ix_w z d) := by
  have key : ∀ (f : Nat) (x4 : Int32) (d : ix_D2), ix_fix (b_X10_addParts_3 n z  a0 a1 x2 x3) (fun _ _ => none) f x4 d = some d1 → ix_G p l e (ix_rm 1 22 0 0) s m args below meth c (MQ below (ix_Post K none (ix_w z d1)) args s 0 0 (ix_A K)) K 5 0 0 3 [(0, .ref (K.2.2.1 + a0)), (1, .ref (K.2.2.1 + a1)), (2, .int x2), (3, .int x3), (4, .int x4)] [] (ix_w z d) := by
    intro f
    induction f with
    | zero =>
      intro x4 d h
      have h : (none : Option (ix_D2)) = some d1 := h
      cases h
    | succ f ih =>
      intro x4 d h
      exact tb_X10_addParts_3 hKp X hr hlk (rec3 := ix_fix (b_X10_addParts_3 n z  a0 a1 x2 x3) (fun _ _ => none) f)  ih h
  exact key n x4 d h
set_option maxRecDepth 20000 in
theorem c_X10_addParts {l : Launch} {K : ix_Cx} (hKp : ix_Kp K) {n : Nat} {z : ix_Z} {a0 : Nat} {a1 : Nat} {x2 : Int32} {x3 : Int32} {d : ix_D2} {d1 : ix_D2} (h : f_X10_addParts n z a0 a1 x2 x3 d = some d1) : ix_M l K yX10_addParts cX10_addParts 5 (none : Option Jvm.ClassFile.FieldType) 1 22 0 0 [.ref (K.2.2.1 + a0), .ref (K.2.2.1 + a1), .int x2, .int x3] (ix_w z d) none (ix_w z d1) := by
  refine ix_met mf_X10_addParts hKp (Nat.le_of_ble_eq_true rfl) ?_
  intro p e s m args below meth c hr hlk hnm X
  have X : ix_X p s m args c K cX10_addParts RX10 5 := X
  show ix_G p l e (ix_rm 1 22 0 0) s m args below meth c (MQ below (ix_Post K none (ix_w z d1)) args s 0 0 (ix_A K)) K 5 0 0 0 [(0, .ref (K.2.2.1 + a0)), (1, .ref (K.2.2.1 + a1)), (2, .int x2), (3, .int x3)] [] (ix_w z d)
  unfold f_X10_addParts at h
  refine ix_iload_n (i := 2) (j := 2) X (ix_tb_at tb_X10_addParts 0 rfl) rfl rfl (pc1 := 1) rfl ?_
  refine ix_istore (i := 4) (L1 := [(4, .int x2), (0, .ref (K.2.2.1 + a0)), (1, .ref (K.2.2.1 + a1)), (2, .int x2), (3, .int x3)]) X (ix_tb_at tb_X10_addParts 1 rfl) (Nat.le_of_ble_eq_true rfl) rfl (pc1 := 3) rfl ?_
  refine ix_sub (L1 := [(0, .ref (K.2.2.1 + a0)), (1, .ref (K.2.2.1 + a1)), (2, .int x2), (3, .int x3), (4, .int x2)]) [1, 2, 3, 4, 0] rfl ?_
  exact t_X10_addParts_3 hKp X hr hlk  h
def tab_X10_laySome : List (Nat × Instr × Nat) := [(0, .iload_n 2, 1), (1, .istore 5, 2), (3, .iload 5, 2), (5, .iload_n 2, 1), (6, .iload_n 3, 1), (7, .iadd, 1), (8, .if_icmp .ge 24, 3), (11, .aload_n 1, 1), (12, .aload_n 0, 1), (13, .getfield 40, 3), (16, .iload 5, 2), (18, .iaload, 1), (19, .ineg, 1), (20, .iload 4, 2), (22, .iconst 0, 1), (23, .invokevirtual 75, 3), (26, .iinc 5 1, 3), (29, .goto (-26), 3), (32, .aload_n 0, 1), (33, .aload_n 1, 1), (34, .iload_n 2, 1), (35, .iload_n 3, 1), (36, .invokevirtual 87, 3), (39, .aload_n 1, 1), (40, .iload 4, 2), (42, .ineg, 1), (43, .iconst 0, 1), (44, .iconst 0, 1), (45, .invokevirtual 75, 3), (48, .return_, 1)]
theorem tb_X10_laySome : ix_tab cX10_laySome tab_X10_laySome := by
  unfold ix_tab
  decide +kernel
noncomputable def b_X10_laySome_3 (n : Nat) (z : ix_Z)  (a0 : Nat) (a1 : Nat) (x2 : Int32) (x3 : Int32) (x4 : Int32) (rec3 : Int32 → ix_D2 → Option (ix_D2)) (x5 : Int32) (d : ix_D2) : Option (ix_D2) :=
  ix_if (x2 + x3 ≤ x5) (ix_ck (ix_ok z [9] a0) (ix_bd1 (f_X10_addParts n z a0 a1 x2 x3 d) (fun d_2 => ix_ck (ix_ok z [2] a1) (ix_bd1 (f_X2_lay n z a1 (-x4) 0 0 d_2) (fun d_5 => some d_5))))) (ix_ck (ix_ok z [9] a0) (ix_bd1 (z.1 a0 5) (fun b_9 => ix_ck (ix_ix z 20 b_9 x5) (ix_ck (ix_ok z [2] a1) (ix_bd1 (f_X2_lay n z a1 (-(d.1 b_9 (ix_n x5))) x4 0 d) (fun d_12 => ix_lt (x5 + 1) (fun x5_15 => rec3 x5_15 d_12)))))))
noncomputable def f_X10_laySome_3 (n : Nat) (z : ix_Z)  (a0 : Nat) (a1 : Nat) (x2 : Int32) (x3 : Int32) (x4 : Int32) (x5 : Int32) (d : ix_D2) : Option (ix_D2) := ix_fix (b_X10_laySome_3 n z  a0 a1 x2 x3 x4) (fun _ _ => none) n x5 d
noncomputable def f_X10_laySome (n : Nat) (z : ix_Z) (a0 : Nat) (a1 : Nat) (x2 : Int32) (x3 : Int32) (x4 : Int32) (d : ix_D2) : Option (ix_D2) :=
  f_X10_laySome_3 n z  a0 a1 x2 x3 x4 x2 d
set_option maxRecDepth 20000 in
theorem tb_X10_laySome_3 {l : Launch} {p : Program} {e : Env} {s : State} {m : MethodId} {args : Array Value} {below : List Frame} {meth : Method} {c : Code} {K : ix_Cx} (hKp : ix_Kp K) {n : Nat} {z : ix_Z} (X : ix_X p s m args c K cX10_laySome RX10 6) (hr : meth.sig.returnType = (none : Option Jvm.ClassFile.FieldType)) (hlk : meth.locks = false)  {a0 : Nat} {a1 : Nat} {x2 : Int32} {x3 : Int32} {x4 : Int32} {rec3 : Int32 → ix_D2 → Option (ix_D2)} {d1 : ix_D2} (hrec3 : ∀ (x5 : Int32) (d : ix_D2), rec3 x5 d = some d1 → ix_G p l e (ix_rm 4 94 0 0) s m args below meth c (MQ below (ix_Post K none (ix_w z d1)) args s 0 0 (ix_A K)) K 6 0 0 3 [(0, .ref (K.2.2.1 + a0)), (1, .ref (K.2.2.1 + a1)), (2, .int x2), (3, .int x3), (4, .int x4), (5, .int x5)] [] (ix_w z d)) {x5 : Int32} {d : ix_D2} (h : b_X10_laySome_3 n z  a0 a1 x2 x3 x4 rec3 x5 d = some d1) : ix_G p l e (ix_rm 4 94 0 0) s m args below meth c (MQ below (ix_Post K none (ix_w z d1)) args s 0 0 (ix_A K)) K 6 0 0 3 [(0, .ref (K.2.2.1 + a0)), (1, .ref (K.2.2.1 + a1)), (2, .int x2), (3, .int x3), (4, .int x4), (5, .int x5)] [] (ix_w z d) := by
  unfold b_X10_laySome_3 at h
  refine ix_iload (i := 5) (j := 5) X (ix_tb_at tb_X10_laySome 2 rfl) rfl (pc1 := 5) rfl ?_
  refine ix_iload_n (i := 2) (j := 2) X (ix_tb_at tb_X10_laySome 3 rfl) rfl rfl (pc1 := 6) rfl ?_
  refine ix_iload_n (i := 3) (j := 3) X (ix_tb_at tb_X10_laySome 4 rfl) rfl rfl (pc1 := 7) rfl ?_
  refine ix_iadd X (ix_tb_at tb_X10_laySome 5 rfl) (pc1 := 8) rfl ?_
  refine ix_icmp_ge (tgt := 32) X (ix_tb_at tb_X10_laySome 6 rfl) (by decide) (pc1 := 11) rfl (fun q_1 => ?_) (fun q_1 => ?_)
  · have h := ix_ift q_1 h
    refine ix_aload_n (i := 0) (j := 0) X (ix_tb_at tb_X10_laySome 18 rfl) rfl rfl (pc1 := 33) rfl ?_
    refine ix_aload_n (i := 1) (j := 1) X (ix_tb_at tb_X10_laySome 19 rfl) rfl rfl (pc1 := 34) rfl ?_
    refine ix_iload_n (i := 2) (j := 2) X (ix_tb_at tb_X10_laySome 20 rfl) rfl rfl (pc1 := 35) rfl ?_
    refine ix_iload_n (i := 3) (j := 3) X (ix_tb_at tb_X10_laySome 21 rfl) rfl rfl (pc1 := 36) rfl ?_
    obtain ⟨k_4, h⟩ := ix_ck_some h
    obtain ⟨d_2, h_3, h⟩ := ix_bd1_ex h
    refine ix_callV (As := [.ref (K.2.2.1 + a1), .int x2, .int x3]) (rest := []) (ci := 9) (T := TX10) (nf := 6) X mf_X10_addParts mi_X10_addParts ms_X10_addParts rfl (Nat.le_of_ble_eq_true rfl) ml_RX10_87 ⟨Nat.le_of_ble_eq_true rfl, Nat.le_of_ble_eq_true rfl⟩ ⟨Nat.le_of_ble_eq_true rfl, Nat.le_of_ble_eq_true rfl⟩ rfl (Nat.le_of_ble_eq_true rfl) (ix_tb_at tb_X10_laySome 22 rfl) ⟨k_4.1, List.mem_singleton.mp k_4.2⟩ (c_X10_addParts hKp h_3) rfl (pc1 := 39) rfl ?_
    refine ix_aload_n (i := 1) (j := 1) X (ix_tb_at tb_X10_laySome 23 rfl) rfl rfl (pc1 := 40) rfl ?_
    refine ix_iload (i := 4) (j := 4) X (ix_tb_at tb_X10_laySome 24 rfl) rfl (pc1 := 42) rfl ?_
    refine ix_ineg X (ix_tb_at tb_X10_laySome 25 rfl) (pc1 := 43) rfl ?_
    refine ix_iconst (v := 0) X (ix_tb_at tb_X10_laySome 26 rfl) (by decide) (pc1 := 44) rfl ?_
    refine ix_iconst (v := 0) X (ix_tb_at tb_X10_laySome 27 rfl) (by decide) (pc1 := 45) rfl ?_
    obtain ⟨k_7, h⟩ := ix_ck_some h
    obtain ⟨d_5, h_6, h⟩ := ix_bd1_ex h
    refine ix_callV (As := [.int (-x4), .int 0, .int 0]) (rest := []) (ci := 2) (T := TX2) (nf := 12) X mf_X2_lay mi_X2_lay ms_X2_lay rfl (Nat.le_of_ble_eq_true rfl) ml_RX10_75 ⟨Nat.le_of_ble_eq_true rfl, Nat.le_of_ble_eq_true rfl⟩ ⟨Nat.le_of_ble_eq_true rfl, Nat.le_of_ble_eq_true rfl⟩ rfl (Nat.le_of_ble_eq_true rfl) (ix_tb_at tb_X10_laySome 28 rfl) ⟨k_7.1, List.mem_singleton.mp k_7.2⟩ (c_X2_lay hKp h_6) rfl (pc1 := 48) rfl ?_
    exact ix_vret X hr hlk (ix_r1 (g := ix_w z) h) (ix_tb_at tb_X10_laySome 29 rfl)
  · have h := ix_iff q_1 h
    refine ix_aload_n (i := 1) (j := 1) X (ix_tb_at tb_X10_laySome 7 rfl) rfl rfl (pc1 := 12) rfl ?_
    refine ix_aload_n (i := 0) (j := 0) X (ix_tb_at tb_X10_laySome 8 rfl) rfl rfl (pc1 := 13) rfl ?_
    obtain ⟨k_8, h⟩ := ix_ck_some h
    obtain ⟨b_9, q_10, h⟩ := ix_bd1_ex h
    refine iz_getR X fl_RX10_40 k_8 q_10 (ix_tb_at tb_X10_laySome 9 rfl) (pc1 := 16) rfl ?_
    refine ix_iload (i := 5) (j := 5) X (ix_tb_at tb_X10_laySome 10 rfl) rfl (pc1 := 18) rfl ?_
    obtain ⟨k_11, h⟩ := ix_ck_some h
    refine iz_iald X k_11 (ix_tb_at tb_X10_laySome 11 rfl) (pc1 := 19) rfl ?_
    refine ix_ineg X (ix_tb_at tb_X10_laySome 12 rfl) (pc1 := 20) rfl ?_
    refine ix_iload (i := 4) (j := 4) X (ix_tb_at tb_X10_laySome 13 rfl) rfl (pc1 := 22) rfl ?_
    refine ix_iconst (v := 0) X (ix_tb_at tb_X10_laySome 14 rfl) (by decide) (pc1 := 23) rfl ?_
    obtain ⟨k_14, h⟩ := ix_ck_some h
    obtain ⟨d_12, h_13, h⟩ := ix_bd1_ex h
    refine ix_callV (As := [.int (-(d.1 b_9 (ix_n x5))), .int x4, .int 0]) (rest := []) (ci := 2) (T := TX2) (nf := 12) X mf_X2_lay mi_X2_lay ms_X2_lay rfl (Nat.le_of_ble_eq_true rfl) ml_RX10_75 ⟨Nat.le_of_ble_eq_true rfl, Nat.le_of_ble_eq_true rfl⟩ ⟨Nat.le_of_ble_eq_true rfl, Nat.le_of_ble_eq_true rfl⟩ rfl (Nat.le_of_ble_eq_true rfl) (ix_tb_at tb_X10_laySome 15 rfl) ⟨k_14.1, List.mem_singleton.mp k_14.2⟩ (c_X2_lay hKp h_13) rfl (pc1 := 26) rfl ?_
    obtain ⟨x5_15, e_16, h⟩ := ix_lt_ex h
    refine ix_iinc (i := 5) (j := 5) (v := x5_15) (L1 := [(5, .int x5_15), (0, .ref (K.2.2.1 + a0)), (1, .ref (K.2.2.1 + a1)), (2, .int x2), (3, .int x3), (4, .int x4)]) X (ix_tb_at tb_X10_laySome 16 rfl) rfl (by rw [oi_1]; exact e_16.symm) (Nat.le_of_ble_eq_true rfl) rfl (pc1 := 29) rfl ?_
    refine ix_goto (tgt := 3) X (ix_tb_at tb_X10_laySome 17 rfl) (by decide) ?_
    refine ix_sub (L1 := [(0, .ref (K.2.2.1 + a0)), (1, .ref (K.2.2.1 + a1)), (2, .int x2), (3, .int x3), (4, .int x4), (5, .int x5_15)]) [1, 2, 3, 4, 5, 0] rfl ?_
    exact hrec3 x5_15 d_12 h
theorem t_X10_laySome_3 {l : Launch} {p : Program} {e : Env} {s : State} {m : MethodId} {args : Array Value} {below : List Frame} {meth : Method} {c : Code} {K : ix_Cx} (hKp : ix_Kp K) {n : Nat} {z : ix_Z} (X : ix_X p s m args c K cX10_laySome RX10 6) (hr : meth.sig.returnType = (none : Option Jvm.ClassFile.FieldType)) (hlk : meth.locks = false)  {a0 : Nat} {a1 : Nat} {x2 : Int32} {x3 : Int32} {x4 : Int32} {d1 : ix_D2}  {x5 : Int32} {d : ix_D2} (h : f_X10_laySome_3 n z  a0 a1 x2 x3 x4 x5 d = some d1) : ix_G p l e (ix_rm 4 94 0 0) s m args below meth c (MQ below (ix_Post K none (ix_w z d1)) args s 0 0 (ix_A K)) K 6 0 0 3 [(0, .ref (K.2.2.1 + a0)), (1, .ref (K.2.2.1 + a1)), (2, .int x2), (3, .int x3), (4, .int x4), (5, .int x5)] [] (ix_w z d) := by
  have key : ∀ (f : Nat) (x5 : Int32) (d : ix_D2), ix_fix (b_X10_laySome_3 n z  a0 a1 x2 x3 x4) (fun _ _ => none) f x5 d = some d1 → ix_G p l e (ix_rm 4 94 0 0) s m args below meth c (MQ below (ix_Post K none (ix_w z d1)) args s 0 0 (ix_A K)) K 6 0 0 3 [(0, .ref (K.2.2.1 + a0)), (1, .ref (K.2.2.1 + a1)), (2, .int x2), (3, .int x3), (4, .int x4), (5, .int x5)] [] (ix_w z d) := by
    intro f
    induction f with
    | zero =>
      intro x5 d h
      have h : (none : Option (ix_D2)) = some d1 := h
      cases h
    | succ f ih =>
      intro x5 d h
      exact tb_X10_laySome_3 hKp X hr hlk (rec3 := ix_fix (b_X10_laySome_3 n z  a0 a1 x2 x3 x4) (fun _ _ => none) f)  ih h
  exact key n x5 d h
set_option maxRecDepth 20000 in
theorem c_X10_laySome {l : Launch} {K : ix_Cx} (hKp : ix_Kp K) {n : Nat} {z : ix_Z} {a0 : Nat} {a1 : Nat} {x2 : Int32} {x3 : Int32} {x4 : Int32} {d : ix_D2} {d1 : ix_D2} (h : f_X10_laySome n z a0 a1 x2 x3 x4 d = some d1) : ix_M l K yX10_laySome cX10_laySome 6 (none : Option Jvm.ClassFile.FieldType) 4 94 0 0 [.ref (K.2.2.1 + a0), .ref (K.2.2.1 + a1), .int x2, .int x3, .int x4] (ix_w z d) none (ix_w z d1) := by
  refine ix_met mf_X10_laySome hKp (Nat.le_of_ble_eq_true rfl) ?_
  intro p e s m args below meth c hr hlk hnm X
  have X : ix_X p s m args c K cX10_laySome RX10 6 := X
  show ix_G p l e (ix_rm 4 94 0 0) s m args below meth c (MQ below (ix_Post K none (ix_w z d1)) args s 0 0 (ix_A K)) K 6 0 0 0 [(0, .ref (K.2.2.1 + a0)), (1, .ref (K.2.2.1 + a1)), (2, .int x2), (3, .int x3), (4, .int x4)] [] (ix_w z d)
  unfold f_X10_laySome at h
  refine ix_iload_n (i := 2) (j := 2) X (ix_tb_at tb_X10_laySome 0 rfl) rfl rfl (pc1 := 1) rfl ?_
  refine ix_istore (i := 5) (L1 := [(5, .int x2), (0, .ref (K.2.2.1 + a0)), (1, .ref (K.2.2.1 + a1)), (2, .int x2), (3, .int x3), (4, .int x4)]) X (ix_tb_at tb_X10_laySome 1 rfl) (Nat.le_of_ble_eq_true rfl) rfl (pc1 := 3) rfl ?_
  refine ix_sub (L1 := [(0, .ref (K.2.2.1 + a0)), (1, .ref (K.2.2.1 + a1)), (2, .int x2), (3, .int x3), (4, .int x4), (5, .int x2)]) [1, 2, 3, 4, 5, 0] rfl ?_
  exact t_X10_laySome_3 hKp X hr hlk  h
def tab_X10_layThen : List (Nat × Instr × Nat) := [(0, .aload_n 0, 1), (1, .iload_n 1, 1), (2, .iload_n 3, 1), (3, .iconst 0, 1), (4, .invokevirtual 75, 3), (7, .aload_n 0, 1), (8, .iload_n 2, 1), (9, .ineg, 1), (10, .iload_n 3, 1), (11, .iconst 0, 1), (12, .invokevirtual 75, 3), (15, .aload_n 0, 1), (16, .iload_n 1, 1), (17, .ineg, 1), (18, .iload_n 2, 1), (19, .iload_n 3, 1), (20, .ineg, 1), (21, .invokevirtual 75, 3), (24, .return_, 1)]
theorem tb_X10_layThen : ix_tab cX10_layThen tab_X10_layThen := by
  unfold ix_tab
  decide +kernel
noncomputable def f_X10_layThen (n : Nat) (z : ix_Z) (a0 : Nat) (x1 : Int32) (x2 : Int32) (x3 : Int32) (d : ix_D2) : Option (ix_D2) :=
  ix_ck (ix_ok z [2] a0) (ix_bd1 (f_X2_lay n z a0 x1 x3 0 d) (fun d_1 => ix_bd1 (f_X2_lay n z a0 (-x2) x3 0 d_1) (fun d_4 => ix_bd1 (f_X2_lay n z a0 (-x1) x2 (-x3) d_4) (fun d_6 => some d_6))))
set_option maxRecDepth 20000 in
theorem c_X10_layThen {l : Launch} {K : ix_Cx} (hKp : ix_Kp K) {n : Nat} {z : ix_Z} {a0 : Nat} {x1 : Int32} {x2 : Int32} {x3 : Int32} {d : ix_D2} {d1 : ix_D2} (h : f_X10_layThen n z a0 x1 x2 x3 d = some d1) : ix_M l K yX10_layThen cX10_layThen 4 (none : Option Jvm.ClassFile.FieldType) 4 94 0 0 [.ref (K.2.2.1 + a0), .int x1, .int x2, .int x3] (ix_w z d) none (ix_w z d1) := by
  refine ix_met mf_X10_layThen hKp (Nat.le_of_ble_eq_true rfl) ?_
  intro p e s m args below meth c hr hlk hnm X
  have X : ix_X p s m args c K cX10_layThen RX10 4 := X
  show ix_G p l e (ix_rm 4 94 0 0) s m args below meth c (MQ below (ix_Post K none (ix_w z d1)) args s 0 0 (ix_A K)) K 4 0 0 0 [(0, .ref (K.2.2.1 + a0)), (1, .int x1), (2, .int x2), (3, .int x3)] [] (ix_w z d)
  unfold f_X10_layThen at h
  refine ix_aload_n (i := 0) (j := 0) X (ix_tb_at tb_X10_layThen 0 rfl) rfl rfl (pc1 := 1) rfl ?_
  refine ix_iload_n (i := 1) (j := 1) X (ix_tb_at tb_X10_layThen 1 rfl) rfl rfl (pc1 := 2) rfl ?_
  refine ix_iload_n (i := 3) (j := 3) X (ix_tb_at tb_X10_layThen 2 rfl) rfl rfl (pc1 := 3) rfl ?_
  refine ix_iconst (v := 0) X (ix_tb_at tb_X10_layThen 3 rfl) (by decide) (pc1 := 4) rfl ?_
  obtain ⟨k_3, h⟩ := ix_ck_some h
  obtain ⟨d_1, h_2, h⟩ := ix_bd1_ex h
  refine ix_callV (As := [.int x1, .int x3, .int 0]) (rest := []) (ci := 2) (T := TX2) (nf := 12) X mf_X2_lay mi_X2_lay ms_X2_lay rfl (Nat.le_of_ble_eq_true rfl) ml_RX10_75 ⟨Nat.le_of_ble_eq_true rfl, Nat.le_of_ble_eq_true rfl⟩ ⟨Nat.le_of_ble_eq_true rfl, Nat.le_of_ble_eq_true rfl⟩ rfl (Nat.le_of_ble_eq_true rfl) (ix_tb_at tb_X10_layThen 4 rfl) ⟨k_3.1, List.mem_singleton.mp k_3.2⟩ (c_X2_lay hKp h_2) rfl (pc1 := 7) rfl ?_
  refine ix_aload_n (i := 0) (j := 0) X (ix_tb_at tb_X10_layThen 5 rfl) rfl rfl (pc1 := 8) rfl ?_
  refine ix_iload_n (i := 2) (j := 2) X (ix_tb_at tb_X10_layThen 6 rfl) rfl rfl (pc1 := 9) rfl ?_
  refine ix_ineg X (ix_tb_at tb_X10_layThen 7 rfl) (pc1 := 10) rfl ?_
  refine ix_iload_n (i := 3) (j := 3) X (ix_tb_at tb_X10_layThen 8 rfl) rfl rfl (pc1 := 11) rfl ?_
  refine ix_iconst (v := 0) X (ix_tb_at tb_X10_layThen 9 rfl) (by decide) (pc1 := 12) rfl ?_
  obtain ⟨d_4, h_5, h⟩ := ix_bd1_ex h
  refine ix_callV (As := [.int (-x2), .int x3, .int 0]) (rest := []) (ci := 2) (T := TX2) (nf := 12) X mf_X2_lay mi_X2_lay ms_X2_lay rfl (Nat.le_of_ble_eq_true rfl) ml_RX10_75 ⟨Nat.le_of_ble_eq_true rfl, Nat.le_of_ble_eq_true rfl⟩ ⟨Nat.le_of_ble_eq_true rfl, Nat.le_of_ble_eq_true rfl⟩ rfl (Nat.le_of_ble_eq_true rfl) (ix_tb_at tb_X10_layThen 10 rfl) ⟨k_3.1, List.mem_singleton.mp k_3.2⟩ (c_X2_lay hKp h_5) rfl (pc1 := 15) rfl ?_
  refine ix_aload_n (i := 0) (j := 0) X (ix_tb_at tb_X10_layThen 11 rfl) rfl rfl (pc1 := 16) rfl ?_
  refine ix_iload_n (i := 1) (j := 1) X (ix_tb_at tb_X10_layThen 12 rfl) rfl rfl (pc1 := 17) rfl ?_
  refine ix_ineg X (ix_tb_at tb_X10_layThen 13 rfl) (pc1 := 18) rfl ?_
  refine ix_iload_n (i := 2) (j := 2) X (ix_tb_at tb_X10_layThen 14 rfl) rfl rfl (pc1 := 19) rfl ?_
  refine ix_iload_n (i := 3) (j := 3) X (ix_tb_at tb_X10_layThen 15 rfl) rfl rfl (pc1 := 20) rfl ?_
  refine ix_ineg X (ix_tb_at tb_X10_layThen 16 rfl) (pc1 := 21) rfl ?_
  obtain ⟨d_6, h_7, h⟩ := ix_bd1_ex h
  refine ix_callV (As := [.int (-x1), .int x2, .int (-x3)]) (rest := []) (ci := 2) (T := TX2) (nf := 12) X mf_X2_lay mi_X2_lay ms_X2_lay rfl (Nat.le_of_ble_eq_true rfl) ml_RX10_75 ⟨Nat.le_of_ble_eq_true rfl, Nat.le_of_ble_eq_true rfl⟩ ⟨Nat.le_of_ble_eq_true rfl, Nat.le_of_ble_eq_true rfl⟩ rfl (Nat.le_of_ble_eq_true rfl) (ix_tb_at tb_X10_layThen 17 rfl) ⟨k_3.1, List.mem_singleton.mp k_3.2⟩ (c_X2_lay hKp h_7) rfl (pc1 := 24) rfl ?_
  exact ix_vret X hr hlk (ix_r1 (g := ix_w z) h) (ix_tb_at tb_X10_layThen 18 rfl)
def tab_X10_layJustOne : List (Nat × Instr × Nat) := [(0, .aload_n 0, 1), (1, .aload_n 1, 1), (2, .iload_n 2, 1), (3, .iload_n 3, 1), (4, .invokevirtual 87, 3), (7, .aload_n 1, 1), (8, .iload 4, 2), (10, .ineg, 1), (11, .iconst 0, 1), (12, .iconst 0, 1), (13, .invokevirtual 75, 3), (16, .iload_n 2, 1), (17, .istore 5, 2), (19, .iload 5, 2), (21, .iload_n 2, 1), (22, .iload_n 3, 1), (23, .iadd, 1), (24, .if_icmp .ge 52, 3), (27, .iload 5, 2), (29, .iconst 1, 1), (30, .iadd, 1), (31, .istore 6, 2), (33, .iload 6, 2), (35, .iload_n 2, 1), (36, .iload_n 3, 1), (37, .iadd, 1), (38, .if_icmp .ge 32, 3), (41, .aload_n 1, 1), (42, .aload_n 0, 1), (43, .getfield 40, 3), (46, .iload 5, 2), (48, .iaload, 1), (49, .ineg, 1), (50, .aload_n 0, 1), (51, .getfield 40, 3), (54, .iload 6, 2), (56, .iaload, 1), (57, .ineg, 1), (58, .iload 4, 2), (60, .ineg, 1), (61, .invokevirtual 75, 3), (64, .iinc 6 1, 3), (67, .goto (-34), 3), (70, .iinc 5 1, 3), (73, .goto (-54), 3), (76, .iload_n 2, 1), (77, .istore 5, 2), (79, .iload 5, 2), (81, .iload_n 2, 1), (82, .iload_n 3, 1), (83, .iadd, 1), (84, .if_icmp .ge 70, 3), (87, .aload_n 1, 1), (88, .iload 4, 2), (90, .invokevirtual 79, 3), (93, .aload_n 1, 1), (94, .aload_n 0, 1), (95, .getfield 40, 3), (98, .iload 5, 2), (100, .iaload, 1), (101, .ineg, 1), (102, .invokevirtual 79, 3), (105, .iload_n 2, 1), (106, .istore 6, 2), (108, .iload 6, 2), (110, .iload_n 2, 1), (111, .iload_n 3, 1), (112, .iadd, 1), (113, .if_icmp .ge 31, 3), (116, .aload_n 1, 1), (117, .iload 6, 2), (119, .iload 5, 2), (121, .if_icmp .ne 7, 3), (124, .iconst 0, 1), (125, .goto 10, 3), (128, .aload_n 0, 1), (129, .getfield 40, 3), (132, .iload 6, 2), (134, .iaload, 1), (135, .invokevirtual 79, 3), (138, .iinc 6 1, 3), (141, .goto (-33), 3), (144, .aload_n 1, 1), (145, .invokevirtual 83, 3), (148, .iinc 5 1, 3), (151, .goto (-72), 3), (154, .return_, 1)]
theorem tb_X10_layJustOne : ix_tab cX10_layJustOne tab_X10_layJustOne := by
  unfold ix_tab
  decide +kernel
noncomputable def f_X10_layJustOne_135 (n : Nat) (z : ix_Z) (rec79 : Int32 → ix_D2 → Option (ix_D2)) (rec108 : Int32 → ix_D2 → Option (ix_D2)) (a0 : Nat) (a1 : Nat) (x2 : Int32) (x3 : Int32) (x4 : Int32) (x5 : Int32) (x6 : Int32) (s0 : Int32) (s1 : Nat) (d : ix_D2) : Option (ix_D2) :=
  ix_ck (ix_ok z [2] s1) (ix_bd1 (f_X2_add n z s1 s0 d) (fun d_29 => ix_lt (x6 + 1) (fun x6_32 => rec108 x6_32 d_29)))
noncomputable def b_X10_layJustOne_108 (n : Nat) (z : ix_Z) (rec79 : Int32 → ix_D2 → Option (ix_D2)) (a0 : Nat) (a1 : Nat) (x2 : Int32) (x3 : Int32) (x4 : Int32) (x5 : Int32) (rec108 : Int32 → ix_D2 → Option (ix_D2)) (x6 : Int32) (d : ix_D2) : Option (ix_D2) :=
  ix_if (x2 + x3 ≤ x6) (ix_ck (ix_ok z [2] a1) (ix_bd1 (f_X2_layDraft n z a1 d) (fun d_19 => ix_lt (x5 + 1) (fun x5_22 => rec79 x5_22 d_19)))) (ix_if (x6 = x5) (f_X10_layJustOne_135 n z rec79 rec108 a0 a1 x2 x3 x4 x5 x6 0 a1 d) (ix_ck (ix_ok z [9] a0) (ix_bd1 (z.1 a0 5) (fun b_26 => ix_ck (ix_ix z 20 b_26 x6) (f_X10_layJustOne_135 n z rec79 rec108 a0 a1 x2 x3 x4 x5 x6 (d.1 b_26 (ix_n x6)) a1 d)))))
noncomputable def f_X10_layJustOne_108 (n : Nat) (z : ix_Z) (rec79 : Int32 → ix_D2 → Option (ix_D2)) (a0 : Nat) (a1 : Nat) (x2 : Int32) (x3 : Int32) (x4 : Int32) (x5 : Int32) (x6 : Int32) (d : ix_D2) : Option (ix_D2) := ix_fix (b_X10_layJustOne_108 n z rec79 a0 a1 x2 x3 x4 x5) (fun _ _ => none) n x6 d
noncomputable def b_X10_layJustOne_79 (n : Nat) (z : ix_Z)  (a0 : Nat) (a1 : Nat) (x2 : Int32) (x3 : Int32) (x4 : Int32) (rec79 : Int32 → ix_D2 → Option (ix_D2)) (x5 : Int32) (d : ix_D2) : Option (ix_D2) :=
  ix_if (x2 + x3 ≤ x5) (some d) (ix_ck (ix_ok z [2] a1) (ix_bd1 (f_X2_add n z a1 x4 d) (fun d_9 => ix_ck (ix_ok z [9] a0) (ix_bd1 (z.1 a0 5) (fun b_13 => ix_ck (ix_ix z 20 b_13 x5) (ix_bd1 (f_X2_add n z a1 (-(d_9.1 b_13 (ix_n x5))) d_9) (fun d_16 => f_X10_layJustOne_108 n z rec79 a0 a1 x2 x3 x4 x5 x2 d_16)))))))
noncomputable def f_X10_layJustOne_79 (n : Nat) (z : ix_Z)  (a0 : Nat) (a1 : Nat) (x2 : Int32) (x3 : Int32) (x4 : Int32) (x5 : Int32) (d : ix_D2) : Option (ix_D2) := ix_fix (b_X10_layJustOne_79 n z  a0 a1 x2 x3 x4) (fun _ _ => none) n x5 d
noncomputable def b_X10_layJustOne_33 (n : Nat) (z : ix_Z) (rec19 : Int32 → ix_D2 → Option (ix_D2)) (a0 : Nat) (a1 : Nat) (x2 : Int32) (x3 : Int32) (x4 : Int32) (x5 : Int32) (rec33 : Int32 → ix_D2 → Option (ix_D2)) (x6 : Int32) (d : ix_D2) : Option (ix_D2) :=
  ix_if (x2 + x3 ≤ x6) (ix_lt (x5 + 1) (fun x5_37 => rec19 x5_37 d)) (ix_ck (ix_ok z [9] a0) (ix_bd1 (z.1 a0 5) (fun b_40 => ix_ck (ix_ix z 20 b_40 x5) (ix_ck (ix_ix z 20 b_40 x6) (ix_ck (ix_ok z [2] a1) (ix_bd1 (f_X2_lay n z a1 (-(d.1 b_40 (ix_n x5))) (-(d.1 b_40 (ix_n x6))) (-x4) d) (fun d_44 => ix_lt (x6 + 1) (fun x6_47 => rec33 x6_47 d_44))))))))
noncomputable def f_X10_layJustOne_33 (n : Nat) (z : ix_Z) (rec19 : Int32 → ix_D2 → Option (ix_D2)) (a0 : Nat) (a1 : Nat) (x2 : Int32) (x3 : Int32) (x4 : Int32) (x5 : Int32) (x6 : Int32) (d : ix_D2) : Option (ix_D2) := ix_fix (b_X10_layJustOne_33 n z rec19 a0 a1 x2 x3 x4 x5) (fun _ _ => none) n x6 d
noncomputable def b_X10_layJustOne_19 (n : Nat) (z : ix_Z)  (a0 : Nat) (a1 : Nat) (x2 : Int32) (x3 : Int32) (x4 : Int32) (rec19 : Int32 → ix_D2 → Option (ix_D2)) (x5 : Int32) (d : ix_D2) : Option (ix_D2) :=
  ix_if (x2 + x3 ≤ x5) (f_X10_layJustOne_79 n z  a0 a1 x2 x3 x4 x2 d) (ix_lt (x5 + 1) (fun x6_34 => f_X10_layJustOne_33 n z rec19 a0 a1 x2 x3 x4 x5 x6_34 d))
noncomputable def f_X10_layJustOne_19 (n : Nat) (z : ix_Z)  (a0 : Nat) (a1 : Nat) (x2 : Int32) (x3 : Int32) (x4 : Int32) (x5 : Int32) (d : ix_D2) : Option (ix_D2) := ix_fix (b_X10_layJustOne_19 n z  a0 a1 x2 x3 x4) (fun _ _ => none) n x5 d
noncomputable def f_X10_layJustOne (n : Nat) (z : ix_Z) (a0 : Nat) (a1 : Nat) (x2 : Int32) (x3 : Int32) (x4 : Int32) (d : ix_D2) : Option (ix_D2) :=
  ix_ck (ix_ok z [9] a0) (ix_bd1 (f_X10_addParts n z a0 a1 x2 x3 d) (fun d_1 => ix_ck (ix_ok z [2] a1) (ix_bd1 (f_X2_lay n z a1 (-x4) 0 0 d_1) (fun d_4 => f_X10_layJustOne_19 n z  a0 a1 x2 x3 x4 x2 d_4))))
set_option maxRecDepth 20000 in
theorem t_X10_layJustOne_135 {l : Launch} {p : Program} {e : Env} {s : State} {m : MethodId} {args : Array Value} {below : List Frame} {meth : Method} {c : Code} {K : ix_Cx} (hKp : ix_Kp K) {n : Nat} {z : ix_Z} (X : ix_X p s m args c K cX10_layJustOne RX10 7) (hr : meth.sig.returnType = (none : Option Jvm.ClassFile.FieldType)) (hlk : meth.locks = false) {rec79 : Int32 → ix_D2 → Option (ix_D2)} {rec108 : Int32 → ix_D2 → Option (ix_D2)} {a0 : Nat} {a1 : Nat} {x2 : Int32} {x3 : Int32} {x4 : Int32} {x5 : Int32} {x6 : Int32} {s0 : Int32} {s1 : Nat} {d1 : ix_D2} (hrec79 : ∀ (x5 : Int32) (d : ix_D2), rec79 x5 d = some d1 → ix_G p l e (ix_rm 4 94 0 0) s m args below meth c (MQ below (ix_Post K none (ix_w z d1)) args s 0 0 (ix_A K)) K 7 0 0 79 [(0, .ref (K.2.2.1 + a0)), (1, .ref (K.2.2.1 + a1)), (2, .int x2), (3, .int x3), (4, .int x4), (5, .int x5)] [] (ix_w z d)) (hrec108 : ∀ (x6 : Int32) (d : ix_D2), rec108 x6 d = some d1 → ix_G p l e (ix_rm 4 94 0 0) s m args below meth c (MQ below (ix_Post K none (ix_w z d1)) args s 0 0 (ix_A K)) K 7 0 0 108 [(0, .ref (K.2.2.1 + a0)), (1, .ref (K.2.2.1 + a1)), (2, .int x2), (3, .int x3), (4, .int x4), (5, .int x5), (6, .int x6)] [] (ix_w z d)) {d : ix_D2} (h : f_X10_layJustOne_135 n z rec79 rec108 a0 a1 x2 x3 x4 x5 x6 s0 s1 d = some d1) : ix_G p l e (ix_rm 4 94 0 0) s m args below meth c (MQ below (ix_Post K none (ix_w z d1)) args s 0 0 (ix_A K)) K 7 0 0 135 [(0, .ref (K.2.2.1 + a0)), (1, .ref (K.2.2.1 + a1)), (2, .int x2), (3, .int x3), (4, .int x4), (5, .int x5), (6, .int x6)] [.int s0, .ref (K.2.2.1 + s1)] (ix_w z d) := by
  unfold f_X10_layJustOne_135 at h
  obtain ⟨k_31, h⟩ := ix_ck_some h
  obtain ⟨d_29, h_30, h⟩ := ix_bd1_ex h
  refine ix_callV (As := [.int s0]) (rest := []) (ci := 2) (T := TX2) (nf := 12) X mf_X2_add mi_X2_add ms_X2_add rfl (Nat.le_of_ble_eq_true rfl) ml_RX10_79 ⟨Nat.le_of_ble_eq_true rfl, Nat.le_of_ble_eq_true rfl⟩ ⟨Nat.le_of_ble_eq_true rfl, Nat.le_of_ble_eq_true rfl⟩ rfl (Nat.le_of_ble_eq_true rfl) (ix_tb_at tb_X10_layJustOne 79 rfl) ⟨k_31.1, List.mem_singleton.mp k_31.2⟩ (c_X2_add hKp h_30) rfl (pc1 := 138) rfl ?_
  obtain ⟨x6_32, e_33, h⟩ := ix_lt_ex h
  refine ix_iinc (i := 6) (j := 6) (v := x6_32) (L1 := [(6, .int x6_32), (0, .ref (K.2.2.1 + a0)), (1, .ref (K.2.2.1 + a1)), (2, .int x2), (3, .int x3), (4, .int x4), (5, .int x5)]) X (ix_tb_at tb_X10_layJustOne 80 rfl) rfl (by rw [oi_1]; exact e_33.symm) (Nat.le_of_ble_eq_true rfl) rfl (pc1 := 141) rfl ?_
  refine ix_goto (tgt := 108) X (ix_tb_at tb_X10_layJustOne 81 rfl) (by decide) ?_
  refine ix_sub (L1 := [(0, .ref (K.2.2.1 + a0)), (1, .ref (K.2.2.1 + a1)), (2, .int x2), (3, .int x3), (4, .int x4), (5, .int x5), (6, .int x6_32)]) [1, 2, 3, 4, 5, 6, 0] rfl ?_
  exact hrec108 x6_32 d_29 h
set_option maxRecDepth 20000 in
theorem tb_X10_layJustOne_108 {l : Launch} {p : Program} {e : Env} {s : State} {m : MethodId} {args : Array Value} {below : List Frame} {meth : Method} {c : Code} {K : ix_Cx} (hKp : ix_Kp K) {n : Nat} {z : ix_Z} (X : ix_X p s m args c K cX10_layJustOne RX10 7) (hr : meth.sig.returnType = (none : Option Jvm.ClassFile.FieldType)) (hlk : meth.locks = false) {rec79 : Int32 → ix_D2 → Option (ix_D2)} {a0 : Nat} {a1 : Nat} {x2 : Int32} {x3 : Int32} {x4 : Int32} {x5 : Int32} {rec108 : Int32 → ix_D2 → Option (ix_D2)} {d1 : ix_D2} (hrec79 : ∀ (x5 : Int32) (d : ix_D2), rec79 x5 d = some d1 → ix_G p l e (ix_rm 4 94 0 0) s m args below meth c (MQ below (ix_Post K none (ix_w z d1)) args s 0 0 (ix_A K)) K 7 0 0 79 [(0, .ref (K.2.2.1 + a0)), (1, .ref (K.2.2.1 + a1)), (2, .int x2), (3, .int x3), (4, .int x4), (5, .int x5)] [] (ix_w z d)) (hrec108 : ∀ (x6 : Int32) (d : ix_D2), rec108 x6 d = some d1 → ix_G p l e (ix_rm 4 94 0 0) s m args below meth c (MQ below (ix_Post K none (ix_w z d1)) args s 0 0 (ix_A K)) K 7 0 0 108 [(0, .ref (K.2.2.1 + a0)), (1, .ref (K.2.2.1 + a1)), (2, .int x2), (3, .int x3), (4, .int x4), (5, .int x5), (6, .int x6)] [] (ix_w z d)) {x6 : Int32} {d : ix_D2} (h : b_X10_layJustOne_108 n z rec79 a0 a1 x2 x3 x4 x5 rec108 x6 d = some d1) : ix_G p l e (ix_rm 4 94 0 0) s m args below meth c (MQ below (ix_Post K none (ix_w z d1)) args s 0 0 (ix_A K)) K 7 0 0 108 [(0, .ref (K.2.2.1 + a0)), (1, .ref (K.2.2.1 + a1)), (2, .int x2), (3, .int x3), (4, .int x4), (5, .int x5), (6, .int x6)] [] (ix_w z d) := by
  unfold b_X10_layJustOne_108 at h
  refine ix_iload (i := 6) (j := 6) X (ix_tb_at tb_X10_layJustOne 64 rfl) rfl (pc1 := 110) rfl ?_
  refine ix_iload_n (i := 2) (j := 2) X (ix_tb_at tb_X10_layJustOne 65 rfl) rfl rfl (pc1 := 111) rfl ?_
  refine ix_iload_n (i := 3) (j := 3) X (ix_tb_at tb_X10_layJustOne 66 rfl) rfl rfl (pc1 := 112) rfl ?_
  refine ix_iadd X (ix_tb_at tb_X10_layJustOne 67 rfl) (pc1 := 113) rfl ?_
  refine ix_icmp_ge (tgt := 144) X (ix_tb_at tb_X10_layJustOne 68 rfl) (by decide) (pc1 := 116) rfl (fun q_18 => ?_) (fun q_18 => ?_)
  · have h := ix_ift q_18 h
    refine ix_aload_n (i := 1) (j := 1) X (ix_tb_at tb_X10_layJustOne 82 rfl) rfl rfl (pc1 := 145) rfl ?_
    obtain ⟨k_21, h⟩ := ix_ck_some h
    obtain ⟨d_19, h_20, h⟩ := ix_bd1_ex h
    refine ix_callV (As := []) (rest := []) (ci := 2) (T := TX2) (nf := 12) X mf_X2_layDraft mi_X2_layDraft ms_X2_layDraft rfl (Nat.le_of_ble_eq_true rfl) ml_RX10_83 ⟨Nat.le_of_ble_eq_true rfl, Nat.le_of_ble_eq_true rfl⟩ ⟨Nat.le_of_ble_eq_true rfl, Nat.le_of_ble_eq_true rfl⟩ rfl (Nat.le_of_ble_eq_true rfl) (ix_tb_at tb_X10_layJustOne 83 rfl) ⟨k_21.1, List.mem_singleton.mp k_21.2⟩ (c_X2_layDraft hKp h_20) rfl (pc1 := 148) rfl ?_
    obtain ⟨x5_22, e_23, h⟩ := ix_lt_ex h
    refine ix_iinc (i := 5) (j := 5) (v := x5_22) (L1 := [(5, .int x5_22), (0, .ref (K.2.2.1 + a0)), (1, .ref (K.2.2.1 + a1)), (2, .int x2), (3, .int x3), (4, .int x4), (6, .int x6)]) X (ix_tb_at tb_X10_layJustOne 84 rfl) rfl (by rw [oi_1]; exact e_23.symm) (Nat.le_of_ble_eq_true rfl) rfl (pc1 := 151) rfl ?_
    refine ix_goto (tgt := 79) X (ix_tb_at tb_X10_layJustOne 85 rfl) (by decide) ?_
    refine ix_sub (L1 := [(0, .ref (K.2.2.1 + a0)), (1, .ref (K.2.2.1 + a1)), (2, .int x2), (3, .int x3), (4, .int x4), (5, .int x5_22)]) [1, 2, 3, 4, 5, 0] rfl ?_
    exact hrec79 x5_22 d_19 h
  · have h := ix_iff q_18 h
    refine ix_aload_n (i := 1) (j := 1) X (ix_tb_at tb_X10_layJustOne 69 rfl) rfl rfl (pc1 := 117) rfl ?_
    refine ix_iload (i := 6) (j := 6) X (ix_tb_at tb_X10_layJustOne 70 rfl) rfl (pc1 := 119) rfl ?_
    refine ix_iload (i := 5) (j := 5) X (ix_tb_at tb_X10_layJustOne 71 rfl) rfl (pc1 := 121) rfl ?_
    refine ix_icmp_ne (tgt := 128) X (ix_tb_at tb_X10_layJustOne 72 rfl) (by decide) (pc1 := 124) rfl (fun q_24 => ?_) (fun q_24 => ?_)
    · have h := ix_iff q_24 h
      refine ix_aload_n (i := 0) (j := 0) X (ix_tb_at tb_X10_layJustOne 75 rfl) rfl rfl (pc1 := 129) rfl ?_
      obtain ⟨k_25, h⟩ := ix_ck_some h
      obtain ⟨b_26, q_27, h⟩ := ix_bd1_ex h
      refine iz_getR X fl_RX10_40 k_25 q_27 (ix_tb_at tb_X10_layJustOne 76 rfl) (pc1 := 132) rfl ?_
      refine ix_iload (i := 6) (j := 6) X (ix_tb_at tb_X10_layJustOne 77 rfl) rfl (pc1 := 134) rfl ?_
      obtain ⟨k_28, h⟩ := ix_ck_some h
      refine iz_iald X k_28 (ix_tb_at tb_X10_layJustOne 78 rfl) (pc1 := 135) rfl ?_
      refine ix_sub (L1 := [(0, .ref (K.2.2.1 + a0)), (1, .ref (K.2.2.1 + a1)), (2, .int x2), (3, .int x3), (4, .int x4), (5, .int x5), (6, .int x6)]) [0, 1, 2, 3, 4, 5, 6] rfl ?_
      exact t_X10_layJustOne_135 hKp X hr hlk hrec79 hrec108 h
    · have h := ix_ift q_24 h
      refine ix_iconst (v := 0) X (ix_tb_at tb_X10_layJustOne 73 rfl) (by decide) (pc1 := 125) rfl ?_
      refine ix_goto (tgt := 135) X (ix_tb_at tb_X10_layJustOne 74 rfl) (by decide) ?_
      refine ix_sub (L1 := [(0, .ref (K.2.2.1 + a0)), (1, .ref (K.2.2.1 + a1)), (2, .int x2), (3, .int x3), (4, .int x4), (5, .int x5), (6, .int x6)]) [0, 1, 2, 3, 4, 5, 6] rfl ?_
      exact t_X10_layJustOne_135 hKp X hr hlk hrec79 hrec108 h
theorem t_X10_layJustOne_108 {l : Launch} {p : Program} {e : Env} {s : State} {m : MethodId} {args : Array Value} {below : List Frame} {meth : Method} {c : Code} {K : ix_Cx} (hKp : ix_Kp K) {n : Nat} {z : ix_Z} (X : ix_X p s m args c K cX10_layJustOne RX10 7) (hr : meth.sig.returnType = (none : Option Jvm.ClassFile.FieldType)) (hlk : meth.locks = false) {rec79 : Int32 → ix_D2 → Option (ix_D2)} {a0 : Nat} {a1 : Nat} {x2 : Int32} {x3 : Int32} {x4 : Int32} {x5 : Int32} {d1 : ix_D2} (hrec79 : ∀ (x5 : Int32) (d : ix_D2), rec79 x5 d = some d1 → ix_G p l e (ix_rm 4 94 0 0) s m args below meth c (MQ below (ix_Post K none (ix_w z d1)) args s 0 0 (ix_A K)) K 7 0 0 79 [(0, .ref (K.2.2.1 + a0)), (1, .ref (K.2.2.1 + a1)), (2, .int x2), (3, .int x3), (4, .int x4), (5, .int x5)] [] (ix_w z d)) {x6 : Int32} {d : ix_D2} (h : f_X10_layJustOne_108 n z rec79 a0 a1 x2 x3 x4 x5 x6 d = some d1) : ix_G p l e (ix_rm 4 94 0 0) s m args below meth c (MQ below (ix_Post K none (ix_w z d1)) args s 0 0 (ix_A K)) K 7 0 0 108 [(0, .ref (K.2.2.1 + a0)), (1, .ref (K.2.2.1 + a1)), (2, .int x2), (3, .int x3), (4, .int x4), (5, .int x5), (6, .int x6)] [] (ix_w z d) := by
  have key : ∀ (f : Nat) (x6 : Int32) (d : ix_D2), ix_fix (b_X10_layJustOne_108 n z rec79 a0 a1 x2 x3 x4 x5) (fun _ _ => none) f x6 d = some d1 → ix_G p l e (ix_rm 4 94 0 0) s m args below meth c (MQ below (ix_Post K none (ix_w z d1)) args s 0 0 (ix_A K)) K 7 0 0 108 [(0, .ref (K.2.2.1 + a0)), (1, .ref (K.2.2.1 + a1)), (2, .int x2), (3, .int x3), (4, .int x4), (5, .int x5), (6, .int x6)] [] (ix_w z d) := by
    intro f
    induction f with
    | zero =>
      intro x6 d h
      have h : (none : Option (ix_D2)) = some d1 := h
      cases h
    | succ f ih =>
      intro x6 d h
      exact tb_X10_layJustOne_108 hKp X hr hlk (rec108 := ix_fix (b_X10_layJustOne_108 n z rec79 a0 a1 x2 x3 x4 x5) (fun _ _ => none) f) hrec79 ih h
  exact key n x6 d h
set_option maxRecDepth 20000 in
theorem tb_X10_layJustOne_79 {l : Launch} {p : Program} {e : Env} {s : State} {m : MethodId} {args : Array Value} {below : List Frame} {meth : Method} {c : Code} {K : ix_Cx} (hKp : ix_Kp K) {n : Nat} {z : ix_Z} (X : ix_X p s m args c K cX10_layJustOne RX10 7) (hr : meth.sig.returnType = (none : Option Jvm.ClassFile.FieldType)) (hlk : meth.locks = false)  {a0 : Nat} {a1 : Nat} {x2 : Int32} {x3 : Int32} {x4 : Int32} {rec79 : Int32 → ix_D2 → Option (ix_D2)} {d1 : ix_D2} (hrec79 : ∀ (x5 : Int32) (d : ix_D2), rec79 x5 d = some d1 → ix_G p l e (ix_rm 4 94 0 0) s m args below meth c (MQ below (ix_Post K none (ix_w z d1)) args s 0 0 (ix_A K)) K 7 0 0 79 [(0, .ref (K.2.2.1 + a0)), (1, .ref (K.2.2.1 + a1)), (2, .int x2), (3, .int x3), (4, .int x4), (5, .int x5)] [] (ix_w z d)) {x5 : Int32} {d : ix_D2} (h : b_X10_layJustOne_79 n z  a0 a1 x2 x3 x4 rec79 x5 d = some d1) : ix_G p l e (ix_rm 4 94 0 0) s m args below meth c (MQ below (ix_Post K none (ix_w z d1)) args s 0 0 (ix_A K)) K 7 0 0 79 [(0, .ref (K.2.2.1 + a0)), (1, .ref (K.2.2.1 + a1)), (2, .int x2), (3, .int x3), (4, .int x4), (5, .int x5)] [] (ix_w z d) := by
  unfold b_X10_layJustOne_79 at h
  refine ix_iload (i := 5) (j := 5) X (ix_tb_at tb_X10_layJustOne 47 rfl) rfl (pc1 := 81) rfl ?_
  refine ix_iload_n (i := 2) (j := 2) X (ix_tb_at tb_X10_layJustOne 48 rfl) rfl rfl (pc1 := 82) rfl ?_
  refine ix_iload_n (i := 3) (j := 3) X (ix_tb_at tb_X10_layJustOne 49 rfl) rfl rfl (pc1 := 83) rfl ?_
  refine ix_iadd X (ix_tb_at tb_X10_layJustOne 50 rfl) (pc1 := 84) rfl ?_
  refine ix_icmp_ge (tgt := 154) X (ix_tb_at tb_X10_layJustOne 51 rfl) (by decide) (pc1 := 87) rfl (fun q_8 => ?_) (fun q_8 => ?_)
  · have h := ix_ift q_8 h
    exact ix_vret X hr hlk (ix_r1 (g := ix_w z) h) (ix_tb_at tb_X10_layJustOne 86 rfl)
  · have h := ix_iff q_8 h
    refine ix_aload_n (i := 1) (j := 1) X (ix_tb_at tb_X10_layJustOne 52 rfl) rfl rfl (pc1 := 88) rfl ?_
    refine ix_iload (i := 4) (j := 4) X (ix_tb_at tb_X10_layJustOne 53 rfl) rfl (pc1 := 90) rfl ?_
    obtain ⟨k_11, h⟩ := ix_ck_some h
    obtain ⟨d_9, h_10, h⟩ := ix_bd1_ex h
    refine ix_callV (As := [.int x4]) (rest := []) (ci := 2) (T := TX2) (nf := 12) X mf_X2_add mi_X2_add ms_X2_add rfl (Nat.le_of_ble_eq_true rfl) ml_RX10_79 ⟨Nat.le_of_ble_eq_true rfl, Nat.le_of_ble_eq_true rfl⟩ ⟨Nat.le_of_ble_eq_true rfl, Nat.le_of_ble_eq_true rfl⟩ rfl (Nat.le_of_ble_eq_true rfl) (ix_tb_at tb_X10_layJustOne 54 rfl) ⟨k_11.1, List.mem_singleton.mp k_11.2⟩ (c_X2_add hKp h_10) rfl (pc1 := 93) rfl ?_
    refine ix_aload_n (i := 1) (j := 1) X (ix_tb_at tb_X10_layJustOne 55 rfl) rfl rfl (pc1 := 94) rfl ?_
    refine ix_aload_n (i := 0) (j := 0) X (ix_tb_at tb_X10_layJustOne 56 rfl) rfl rfl (pc1 := 95) rfl ?_
    obtain ⟨k_12, h⟩ := ix_ck_some h
    obtain ⟨b_13, q_14, h⟩ := ix_bd1_ex h
    refine iz_getR X fl_RX10_40 k_12 q_14 (ix_tb_at tb_X10_layJustOne 57 rfl) (pc1 := 98) rfl ?_
    refine ix_iload (i := 5) (j := 5) X (ix_tb_at tb_X10_layJustOne 58 rfl) rfl (pc1 := 100) rfl ?_
    obtain ⟨k_15, h⟩ := ix_ck_some h
    refine iz_iald X k_15 (ix_tb_at tb_X10_layJustOne 59 rfl) (pc1 := 101) rfl ?_
    refine ix_ineg X (ix_tb_at tb_X10_layJustOne 60 rfl) (pc1 := 102) rfl ?_
    obtain ⟨d_16, h_17, h⟩ := ix_bd1_ex h
    refine ix_callV (As := [.int (-(d_9.1 b_13 (ix_n x5)))]) (rest := []) (ci := 2) (T := TX2) (nf := 12) X mf_X2_add mi_X2_add ms_X2_add rfl (Nat.le_of_ble_eq_true rfl) ml_RX10_79 ⟨Nat.le_of_ble_eq_true rfl, Nat.le_of_ble_eq_true rfl⟩ ⟨Nat.le_of_ble_eq_true rfl, Nat.le_of_ble_eq_true rfl⟩ rfl (Nat.le_of_ble_eq_true rfl) (ix_tb_at tb_X10_layJustOne 61 rfl) ⟨k_11.1, List.mem_singleton.mp k_11.2⟩ (c_X2_add hKp h_17) rfl (pc1 := 105) rfl ?_
    refine ix_iload_n (i := 2) (j := 2) X (ix_tb_at tb_X10_layJustOne 62 rfl) rfl rfl (pc1 := 106) rfl ?_
    refine ix_istore (i := 6) (L1 := [(6, .int x2), (0, .ref (K.2.2.1 + a0)), (1, .ref (K.2.2.1 + a1)), (2, .int x2), (3, .int x3), (4, .int x4), (5, .int x5)]) X (ix_tb_at tb_X10_layJustOne 63 rfl) (Nat.le_of_ble_eq_true rfl) rfl (pc1 := 108) rfl ?_
    refine ix_sub (L1 := [(0, .ref (K.2.2.1 + a0)), (1, .ref (K.2.2.1 + a1)), (2, .int x2), (3, .int x3), (4, .int x4), (5, .int x5), (6, .int x2)]) [1, 2, 3, 4, 5, 6, 0] rfl ?_
    exact t_X10_layJustOne_108 hKp X hr hlk hrec79 h
theorem t_X10_layJustOne_79 {l : Launch} {p : Program} {e : Env} {s : State} {m : MethodId} {args : Array Value} {below : List Frame} {meth : Method} {c : Code} {K : ix_Cx} (hKp : ix_Kp K) {n : Nat} {z : ix_Z} (X : ix_X p s m args c K cX10_layJustOne RX10 7) (hr : meth.sig.returnType = (none : Option Jvm.ClassFile.FieldType)) (hlk : meth.locks = false)  {a0 : Nat} {a1 : Nat} {x2 : Int32} {x3 : Int32} {x4 : Int32} {d1 : ix_D2}  {x5 : Int32} {d : ix_D2} (h : f_X10_layJustOne_79 n z  a0 a1 x2 x3 x4 x5 d = some d1) : ix_G p l e (ix_rm 4 94 0 0) s m args below meth c (MQ below (ix_Post K none (ix_w z d1)) args s 0 0 (ix_A K)) K 7 0 0 79 [(0, .ref (K.2.2.1 + a0)), (1, .ref (K.2.2.1 + a1)), (2, .int x2), (3, .int x3), (4, .int x4), (5, .int x5)] [] (ix_w z d) := by
  have key : ∀ (f : Nat) (x5 : Int32) (d : ix_D2), ix_fix (b_X10_layJustOne_79 n z  a0 a1 x2 x3 x4) (fun _ _ => none) f x5 d = some d1 → ix_G p l e (ix_rm 4 94 0 0) s m args below meth c (MQ below (ix_Post K none (ix_w z d1)) args s 0 0 (ix_A K)) K 7 0 0 79 [(0, .ref (K.2.2.1 + a0)), (1, .ref (K.2.2.1 + a1)), (2, .int x2), (3, .int x3), (4, .int x4), (5, .int x5)] [] (ix_w z d) := by
    intro f
    induction f with
    | zero =>
      intro x5 d h
      have h : (none : Option (ix_D2)) = some d1 := h
      cases h
    | succ f ih =>
      intro x5 d h
      exact tb_X10_layJustOne_79 hKp X hr hlk (rec79 := ix_fix (b_X10_layJustOne_79 n z  a0 a1 x2 x3 x4) (fun _ _ => none) f)  ih h
  exact key n x5 d h
set_option maxRecDepth 20000 in
theorem tb_X10_layJustOne_33 {l : Launch} {p : Program} {e : Env} {s : State} {m : MethodId} {args : Array Value} {below : List Frame} {meth : Method} {c : Code} {K : ix_Cx} (hKp : ix_Kp K) {n : Nat} {z : ix_Z} (X : ix_X p s m args c K cX10_layJustOne RX10 7) (hr : meth.sig.returnType = (none : Option Jvm.ClassFile.FieldType)) (hlk : meth.locks = false) {rec19 : Int32 → ix_D2 → Option (ix_D2)} {a0 : Nat} {a1 : Nat} {x2 : Int32} {x3 : Int32} {x4 : Int32} {x5 : Int32} {rec33 : Int32 → ix_D2 → Option (ix_D2)} {d1 : ix_D2} (hrec19 : ∀ (x5 : Int32) (d : ix_D2), rec19 x5 d = some d1 → ix_G p l e (ix_rm 4 94 0 0) s m args below meth c (MQ below (ix_Post K none (ix_w z d1)) args s 0 0 (ix_A K)) K 7 0 0 19 [(0, .ref (K.2.2.1 + a0)), (1, .ref (K.2.2.1 + a1)), (2, .int x2), (3, .int x3), (4, .int x4), (5, .int x5)] [] (ix_w z d)) (hrec33 : ∀ (x6 : Int32) (d : ix_D2), rec33 x6 d = some d1 → ix_G p l e (ix_rm 4 94 0 0) s m args below meth c (MQ below (ix_Post K none (ix_w z d1)) args s 0 0 (ix_A K)) K 7 0 0 33 [(0, .ref (K.2.2.1 + a0)), (1, .ref (K.2.2.1 + a1)), (2, .int x2), (3, .int x3), (4, .int x4), (5, .int x5), (6, .int x6)] [] (ix_w z d)) {x6 : Int32} {d : ix_D2} (h : b_X10_layJustOne_33 n z rec19 a0 a1 x2 x3 x4 x5 rec33 x6 d = some d1) : ix_G p l e (ix_rm 4 94 0 0) s m args below meth c (MQ below (ix_Post K none (ix_w z d1)) args s 0 0 (ix_A K)) K 7 0 0 33 [(0, .ref (K.2.2.1 + a0)), (1, .ref (K.2.2.1 + a1)), (2, .int x2), (3, .int x3), (4, .int x4), (5, .int x5), (6, .int x6)] [] (ix_w z d) := by
  unfold b_X10_layJustOne_33 at h
  refine ix_iload (i := 6) (j := 6) X (ix_tb_at tb_X10_layJustOne 22 rfl) rfl (pc1 := 35) rfl ?_
  refine ix_iload_n (i := 2) (j := 2) X (ix_tb_at tb_X10_layJustOne 23 rfl) rfl rfl (pc1 := 36) rfl ?_
  refine ix_iload_n (i := 3) (j := 3) X (ix_tb_at tb_X10_layJustOne 24 rfl) rfl rfl (pc1 := 37) rfl ?_
  refine ix_iadd X (ix_tb_at tb_X10_layJustOne 25 rfl) (pc1 := 38) rfl ?_
  refine ix_icmp_ge (tgt := 70) X (ix_tb_at tb_X10_layJustOne 26 rfl) (by decide) (pc1 := 41) rfl (fun q_36 => ?_) (fun q_36 => ?_)
  · have h := ix_ift q_36 h
    obtain ⟨x5_37, e_38, h⟩ := ix_lt_ex h
    refine ix_iinc (i := 5) (j := 5) (v := x5_37) (L1 := [(5, .int x5_37), (0, .ref (K.2.2.1 + a0)), (1, .ref (K.2.2.1 + a1)), (2, .int x2), (3, .int x3), (4, .int x4), (6, .int x6)]) X (ix_tb_at tb_X10_layJustOne 43 rfl) rfl (by rw [oi_1]; exact e_38.symm) (Nat.le_of_ble_eq_true rfl) rfl (pc1 := 73) rfl ?_
    refine ix_goto (tgt := 19) X (ix_tb_at tb_X10_layJustOne 44 rfl) (by decide) ?_
    refine ix_sub (L1 := [(0, .ref (K.2.2.1 + a0)), (1, .ref (K.2.2.1 + a1)), (2, .int x2), (3, .int x3), (4, .int x4), (5, .int x5_37)]) [1, 2, 3, 4, 5, 0] rfl ?_
    exact hrec19 x5_37 d h
  · have h := ix_iff q_36 h
    refine ix_aload_n (i := 1) (j := 1) X (ix_tb_at tb_X10_layJustOne 27 rfl) rfl rfl (pc1 := 42) rfl ?_
    refine ix_aload_n (i := 0) (j := 0) X (ix_tb_at tb_X10_layJustOne 28 rfl) rfl rfl (pc1 := 43) rfl ?_
    obtain ⟨k_39, h⟩ := ix_ck_some h
    obtain ⟨b_40, q_41, h⟩ := ix_bd1_ex h
    refine iz_getR X fl_RX10_40 k_39 q_41 (ix_tb_at tb_X10_layJustOne 29 rfl) (pc1 := 46) rfl ?_
    refine ix_iload (i := 5) (j := 5) X (ix_tb_at tb_X10_layJustOne 30 rfl) rfl (pc1 := 48) rfl ?_
    obtain ⟨k_42, h⟩ := ix_ck_some h
    refine iz_iald X k_42 (ix_tb_at tb_X10_layJustOne 31 rfl) (pc1 := 49) rfl ?_
    refine ix_ineg X (ix_tb_at tb_X10_layJustOne 32 rfl) (pc1 := 50) rfl ?_
    refine ix_aload_n (i := 0) (j := 0) X (ix_tb_at tb_X10_layJustOne 33 rfl) rfl rfl (pc1 := 51) rfl ?_
    refine iz_getR X fl_RX10_40 k_39 q_41 (ix_tb_at tb_X10_layJustOne 34 rfl) (pc1 := 54) rfl ?_
    refine ix_iload (i := 6) (j := 6) X (ix_tb_at tb_X10_layJustOne 35 rfl) rfl (pc1 := 56) rfl ?_
    obtain ⟨k_43, h⟩ := ix_ck_some h
    refine iz_iald X k_43 (ix_tb_at tb_X10_layJustOne 36 rfl) (pc1 := 57) rfl ?_
    refine ix_ineg X (ix_tb_at tb_X10_layJustOne 37 rfl) (pc1 := 58) rfl ?_
    refine ix_iload (i := 4) (j := 4) X (ix_tb_at tb_X10_layJustOne 38 rfl) rfl (pc1 := 60) rfl ?_
    refine ix_ineg X (ix_tb_at tb_X10_layJustOne 39 rfl) (pc1 := 61) rfl ?_
    obtain ⟨k_46, h⟩ := ix_ck_some h
    obtain ⟨d_44, h_45, h⟩ := ix_bd1_ex h
    refine ix_callV (As := [.int (-(d.1 b_40 (ix_n x5))), .int (-(d.1 b_40 (ix_n x6))), .int (-x4)]) (rest := []) (ci := 2) (T := TX2) (nf := 12) X mf_X2_lay mi_X2_lay ms_X2_lay rfl (Nat.le_of_ble_eq_true rfl) ml_RX10_75 ⟨Nat.le_of_ble_eq_true rfl, Nat.le_of_ble_eq_true rfl⟩ ⟨Nat.le_of_ble_eq_true rfl, Nat.le_of_ble_eq_true rfl⟩ rfl (Nat.le_of_ble_eq_true rfl) (ix_tb_at tb_X10_layJustOne 40 rfl) ⟨k_46.1, List.mem_singleton.mp k_46.2⟩ (c_X2_lay hKp h_45) rfl (pc1 := 64) rfl ?_
    obtain ⟨x6_47, e_48, h⟩ := ix_lt_ex h
    refine ix_iinc (i := 6) (j := 6) (v := x6_47) (L1 := [(6, .int x6_47), (0, .ref (K.2.2.1 + a0)), (1, .ref (K.2.2.1 + a1)), (2, .int x2), (3, .int x3), (4, .int x4), (5, .int x5)]) X (ix_tb_at tb_X10_layJustOne 41 rfl) rfl (by rw [oi_1]; exact e_48.symm) (Nat.le_of_ble_eq_true rfl) rfl (pc1 := 67) rfl ?_
    refine ix_goto (tgt := 33) X (ix_tb_at tb_X10_layJustOne 42 rfl) (by decide) ?_
    refine ix_sub (L1 := [(0, .ref (K.2.2.1 + a0)), (1, .ref (K.2.2.1 + a1)), (2, .int x2), (3, .int x3), (4, .int x4), (5, .int x5), (6, .int x6_47)]) [1, 2, 3, 4, 5, 6, 0] rfl ?_
    exact hrec33 x6_47 d_44 h
theorem t_X10_layJustOne_33 {l : Launch} {p : Program} {e : Env} {s : State} {m : MethodId} {args : Array Value} {below : List Frame} {meth : Method} {c : Code} {K : ix_Cx} (hKp : ix_Kp K) {n : Nat} {z : ix_Z} (X : ix_X p s m args c K cX10_layJustOne RX10 7) (hr : meth.sig.returnType = (none : Option Jvm.ClassFile.FieldType)) (hlk : meth.locks = false) {rec19 : Int32 → ix_D2 → Option (ix_D2)} {a0 : Nat} {a1 : Nat} {x2 : Int32} {x3 : Int32} {x4 : Int32} {x5 : Int32} {d1 : ix_D2} (hrec19 : ∀ (x5 : Int32) (d : ix_D2), rec19 x5 d = some d1 → ix_G p l e (ix_rm 4 94 0 0) s m args below meth c (MQ below (ix_Post K none (ix_w z d1)) args s 0 0 (ix_A K)) K 7 0 0 19 [(0, .ref (K.2.2.1 + a0)), (1, .ref (K.2.2.1 + a1)), (2, .int x2), (3, .int x3), (4, .int x4), (5, .int x5)] [] (ix_w z d)) {x6 : Int32} {d : ix_D2} (h : f_X10_layJustOne_33 n z rec19 a0 a1 x2 x3 x4 x5 x6 d = some d1) : ix_G p l e (ix_rm 4 94 0 0) s m args below meth c (MQ below (ix_Post K none (ix_w z d1)) args s 0 0 (ix_A K)) K 7 0 0 33 [(0, .ref (K.2.2.1 + a0)), (1, .ref (K.2.2.1 + a1)), (2, .int x2), (3, .int x3), (4, .int x4), (5, .int x5), (6, .int x6)] [] (ix_w z d) := by
  have key : ∀ (f : Nat) (x6 : Int32) (d : ix_D2), ix_fix (b_X10_layJustOne_33 n z rec19 a0 a1 x2 x3 x4 x5) (fun _ _ => none) f x6 d = some d1 → ix_G p l e (ix_rm 4 94 0 0) s m args below meth c (MQ below (ix_Post K none (ix_w z d1)) args s 0 0 (ix_A K)) K 7 0 0 33 [(0, .ref (K.2.2.1 + a0)), (1, .ref (K.2.2.1 + a1)), (2, .int x2), (3, .int x3), (4, .int x4), (5, .int x5), (6, .int x6)] [] (ix_w z d) := by
    intro f
    induction f with
    | zero =>
      intro x6 d h
      have h : (none : Option (ix_D2)) = some d1 := h
      cases h
    | succ f ih =>
      intro x6 d h
      exact tb_X10_layJustOne_33 hKp X hr hlk (rec33 := ix_fix (b_X10_layJustOne_33 n z rec19 a0 a1 x2 x3 x4 x5) (fun _ _ => none) f) hrec19 ih h
  exact key n x6 d h
set_option maxRecDepth 20000 in
theorem tb_X10_layJustOne_19 {l : Launch} {p : Program} {e : Env} {s : State} {m : MethodId} {args : Array Value} {below : List Frame} {meth : Method} {c : Code} {K : ix_Cx} (hKp : ix_Kp K) {n : Nat} {z : ix_Z} (X : ix_X p s m args c K cX10_layJustOne RX10 7) (hr : meth.sig.returnType = (none : Option Jvm.ClassFile.FieldType)) (hlk : meth.locks = false)  {a0 : Nat} {a1 : Nat} {x2 : Int32} {x3 : Int32} {x4 : Int32} {rec19 : Int32 → ix_D2 → Option (ix_D2)} {d1 : ix_D2} (hrec19 : ∀ (x5 : Int32) (d : ix_D2), rec19 x5 d = some d1 → ix_G p l e (ix_rm 4 94 0 0) s m args below meth c (MQ below (ix_Post K none (ix_w z d1)) args s 0 0 (ix_A K)) K 7 0 0 19 [(0, .ref (K.2.2.1 + a0)), (1, .ref (K.2.2.1 + a1)), (2, .int x2), (3, .int x3), (4, .int x4), (5, .int x5)] [] (ix_w z d)) {x5 : Int32} {d : ix_D2} (h : b_X10_layJustOne_19 n z  a0 a1 x2 x3 x4 rec19 x5 d = some d1) : ix_G p l e (ix_rm 4 94 0 0) s m args below meth c (MQ below (ix_Post K none (ix_w z d1)) args s 0 0 (ix_A K)) K 7 0 0 19 [(0, .ref (K.2.2.1 + a0)), (1, .ref (K.2.2.1 + a1)), (2, .int x2), (3, .int x3), (4, .int x4), (5, .int x5)] [] (ix_w z d) := by
  unfold b_X10_layJustOne_19 at h
  refine ix_iload (i := 5) (j := 5) X (ix_tb_at tb_X10_layJustOne 13 rfl) rfl (pc1 := 21) rfl ?_
  refine ix_iload_n (i := 2) (j := 2) X (ix_tb_at tb_X10_layJustOne 14 rfl) rfl rfl (pc1 := 22) rfl ?_
  refine ix_iload_n (i := 3) (j := 3) X (ix_tb_at tb_X10_layJustOne 15 rfl) rfl rfl (pc1 := 23) rfl ?_
  refine ix_iadd X (ix_tb_at tb_X10_layJustOne 16 rfl) (pc1 := 24) rfl ?_
  refine ix_icmp_ge (tgt := 76) X (ix_tb_at tb_X10_layJustOne 17 rfl) (by decide) (pc1 := 27) rfl (fun q_7 => ?_) (fun q_7 => ?_)
  · have h := ix_ift q_7 h
    refine ix_iload_n (i := 2) (j := 2) X (ix_tb_at tb_X10_layJustOne 45 rfl) rfl rfl (pc1 := 77) rfl ?_
    refine ix_istore (i := 5) (L1 := [(5, .int x2), (0, .ref (K.2.2.1 + a0)), (1, .ref (K.2.2.1 + a1)), (2, .int x2), (3, .int x3), (4, .int x4)]) X (ix_tb_at tb_X10_layJustOne 46 rfl) (Nat.le_of_ble_eq_true rfl) rfl (pc1 := 79) rfl ?_
    refine ix_sub (L1 := [(0, .ref (K.2.2.1 + a0)), (1, .ref (K.2.2.1 + a1)), (2, .int x2), (3, .int x3), (4, .int x4), (5, .int x2)]) [1, 2, 3, 4, 5, 0] rfl ?_
    exact t_X10_layJustOne_79 hKp X hr hlk  h
  · have h := ix_iff q_7 h
    refine ix_iload (i := 5) (j := 5) X (ix_tb_at tb_X10_layJustOne 18 rfl) rfl (pc1 := 29) rfl ?_
    refine ix_iconst (v := 1) X (ix_tb_at tb_X10_layJustOne 19 rfl) (by decide) (pc1 := 30) rfl ?_
    refine ix_iadd X (ix_tb_at tb_X10_layJustOne 20 rfl) (pc1 := 31) rfl ?_
    obtain ⟨x6_34, e_35, h⟩ := ix_lt_ex h
    refine ix_nmi e_35 ?_
    refine ix_istore (i := 6) (L1 := [(6, .int x6_34), (0, .ref (K.2.2.1 + a0)), (1, .ref (K.2.2.1 + a1)), (2, .int x2), (3, .int x3), (4, .int x4), (5, .int x5)]) X (ix_tb_at tb_X10_layJustOne 21 rfl) (Nat.le_of_ble_eq_true rfl) rfl (pc1 := 33) rfl ?_
    refine ix_sub (L1 := [(0, .ref (K.2.2.1 + a0)), (1, .ref (K.2.2.1 + a1)), (2, .int x2), (3, .int x3), (4, .int x4), (5, .int x5), (6, .int x6_34)]) [1, 2, 3, 4, 5, 6, 0] rfl ?_
    exact t_X10_layJustOne_33 hKp X hr hlk hrec19 h
theorem t_X10_layJustOne_19 {l : Launch} {p : Program} {e : Env} {s : State} {m : MethodId} {args : Array Value} {below : List Frame} {meth : Method} {c : Code} {K : ix_Cx} (hKp : ix_Kp K) {n : Nat} {z : ix_Z} (X : ix_X p s m args c K cX10_layJustOne RX10 7) (hr : meth.sig.returnType = (none : Option Jvm.ClassFile.FieldType)) (hlk : meth.locks = false)  {a0 : Nat} {a1 : Nat} {x2 : Int32} {x3 : Int32} {x4 : Int32} {d1 : ix_D2}  {x5 : Int32} {d : ix_D2} (h : f_X10_layJustOne_19 n z  a0 a1 x2 x3 x4 x5 d = some d1) : ix_G p l e (ix_rm 4 94 0 0) s m args below meth c (MQ below (ix_Post K none (ix_w z d1)) args s 0 0 (ix_A K)) K 7 0 0 19 [(0, .ref (K.2.2.1 + a0)), (1, .ref (K.2.2.1 + a1)), (2, .int x2), (3, .int x3), (4, .int x4), (5, .int x5)] [] (ix_w z d) := by
  have key : ∀ (f : Nat) (x5 : Int32) (d : ix_D2), ix_fix (b_X10_layJustOne_19 n z  a0 a1 x2 x3 x4) (fun _ _ => none) f x5 d = some d1 → ix_G p l e (ix_rm 4 94 0 0) s m args below meth c (MQ below (ix_Post K none (ix_w z d1)) args s 0 0 (ix_A K)) K 7 0 0 19 [(0, .ref (K.2.2.1 + a0)), (1, .ref (K.2.2.1 + a1)), (2, .int x2), (3, .int x3), (4, .int x4), (5, .int x5)] [] (ix_w z d) := by
    intro f
    induction f with
    | zero =>
      intro x5 d h
      have h : (none : Option (ix_D2)) = some d1 := h
      cases h
    | succ f ih =>
      intro x5 d h
      exact tb_X10_layJustOne_19 hKp X hr hlk (rec19 := ix_fix (b_X10_layJustOne_19 n z  a0 a1 x2 x3 x4) (fun _ _ => none) f)  ih h
  exact key n x5 d h
set_option maxRecDepth 20000 in
theorem c_X10_layJustOne {l : Launch} {K : ix_Cx} (hKp : ix_Kp K) {n : Nat} {z : ix_Z} {a0 : Nat} {a1 : Nat} {x2 : Int32} {x3 : Int32} {x4 : Int32} {d : ix_D2} {d1 : ix_D2} (h : f_X10_layJustOne n z a0 a1 x2 x3 x4 d = some d1) : ix_M l K yX10_layJustOne cX10_layJustOne 7 (none : Option Jvm.ClassFile.FieldType) 4 94 0 0 [.ref (K.2.2.1 + a0), .ref (K.2.2.1 + a1), .int x2, .int x3, .int x4] (ix_w z d) none (ix_w z d1) := by
  refine ix_met mf_X10_layJustOne hKp (Nat.le_of_ble_eq_true rfl) ?_
  intro p e s m args below meth c hr hlk hnm X
  have X : ix_X p s m args c K cX10_layJustOne RX10 7 := X
  show ix_G p l e (ix_rm 4 94 0 0) s m args below meth c (MQ below (ix_Post K none (ix_w z d1)) args s 0 0 (ix_A K)) K 7 0 0 0 [(0, .ref (K.2.2.1 + a0)), (1, .ref (K.2.2.1 + a1)), (2, .int x2), (3, .int x3), (4, .int x4)] [] (ix_w z d)
  unfold f_X10_layJustOne at h
  refine ix_aload_n (i := 0) (j := 0) X (ix_tb_at tb_X10_layJustOne 0 rfl) rfl rfl (pc1 := 1) rfl ?_
  refine ix_aload_n (i := 1) (j := 1) X (ix_tb_at tb_X10_layJustOne 1 rfl) rfl rfl (pc1 := 2) rfl ?_
  refine ix_iload_n (i := 2) (j := 2) X (ix_tb_at tb_X10_layJustOne 2 rfl) rfl rfl (pc1 := 3) rfl ?_
  refine ix_iload_n (i := 3) (j := 3) X (ix_tb_at tb_X10_layJustOne 3 rfl) rfl rfl (pc1 := 4) rfl ?_
  obtain ⟨k_3, h⟩ := ix_ck_some h
  obtain ⟨d_1, h_2, h⟩ := ix_bd1_ex h
  refine ix_callV (As := [.ref (K.2.2.1 + a1), .int x2, .int x3]) (rest := []) (ci := 9) (T := TX10) (nf := 6) X mf_X10_addParts mi_X10_addParts ms_X10_addParts rfl (Nat.le_of_ble_eq_true rfl) ml_RX10_87 ⟨Nat.le_of_ble_eq_true rfl, Nat.le_of_ble_eq_true rfl⟩ ⟨Nat.le_of_ble_eq_true rfl, Nat.le_of_ble_eq_true rfl⟩ rfl (Nat.le_of_ble_eq_true rfl) (ix_tb_at tb_X10_layJustOne 4 rfl) ⟨k_3.1, List.mem_singleton.mp k_3.2⟩ (c_X10_addParts hKp h_2) rfl (pc1 := 7) rfl ?_
  refine ix_aload_n (i := 1) (j := 1) X (ix_tb_at tb_X10_layJustOne 5 rfl) rfl rfl (pc1 := 8) rfl ?_
  refine ix_iload (i := 4) (j := 4) X (ix_tb_at tb_X10_layJustOne 6 rfl) rfl (pc1 := 10) rfl ?_
  refine ix_ineg X (ix_tb_at tb_X10_layJustOne 7 rfl) (pc1 := 11) rfl ?_
  refine ix_iconst (v := 0) X (ix_tb_at tb_X10_layJustOne 8 rfl) (by decide) (pc1 := 12) rfl ?_
  refine ix_iconst (v := 0) X (ix_tb_at tb_X10_layJustOne 9 rfl) (by decide) (pc1 := 13) rfl ?_
  obtain ⟨k_6, h⟩ := ix_ck_some h
  obtain ⟨d_4, h_5, h⟩ := ix_bd1_ex h
  refine ix_callV (As := [.int (-x4), .int 0, .int 0]) (rest := []) (ci := 2) (T := TX2) (nf := 12) X mf_X2_lay mi_X2_lay ms_X2_lay rfl (Nat.le_of_ble_eq_true rfl) ml_RX10_75 ⟨Nat.le_of_ble_eq_true rfl, Nat.le_of_ble_eq_true rfl⟩ ⟨Nat.le_of_ble_eq_true rfl, Nat.le_of_ble_eq_true rfl⟩ rfl (Nat.le_of_ble_eq_true rfl) (ix_tb_at tb_X10_layJustOne 10 rfl) ⟨k_6.1, List.mem_singleton.mp k_6.2⟩ (c_X2_lay hKp h_5) rfl (pc1 := 16) rfl ?_
  refine ix_iload_n (i := 2) (j := 2) X (ix_tb_at tb_X10_layJustOne 11 rfl) rfl rfl (pc1 := 17) rfl ?_
  refine ix_istore (i := 5) (L1 := [(5, .int x2), (0, .ref (K.2.2.1 + a0)), (1, .ref (K.2.2.1 + a1)), (2, .int x2), (3, .int x3), (4, .int x4)]) X (ix_tb_at tb_X10_layJustOne 12 rfl) (Nat.le_of_ble_eq_true rfl) rfl (pc1 := 19) rfl ?_
  refine ix_sub (L1 := [(0, .ref (K.2.2.1 + a0)), (1, .ref (K.2.2.1 + a1)), (2, .int x2), (3, .int x3), (4, .int x4), (5, .int x2)]) [1, 2, 3, 4, 5, 0] rfl ?_
  exact t_X10_layJustOne_19 hKp X hr hlk  h
def tab_X10_layInto : List (Nat × Instr × Nat) := [(0, .iconst 0, 1), (1, .istore_n 2, 1), (2, .iconst 0, 1), (3, .istore_n 3, 1), (4, .iload_n 3, 1), (5, .aload_n 0, 1), (6, .getfield 39, 3), (9, .arraylength, 1), (10, .if_icmp .ge 169, 3), (13, .aload_n 0, 1), (14, .getfield 39, 3), (17, .iload_n 3, 1), (18, .iaload, 1), (19, .istore 4, 2), (21, .iload 4, 2), (23, .sipush 10000, 3), (26, .if_icmp .lt 136, 3), (29, .iload 4, 2), (31, .invokestatic 43, 3), (34, .istore 5, 2), (36, .aload_n 1, 1), (37, .invokevirtual 47, 3), (40, .istore 6, 2), (42, .iload_n 2, 1), (43, .iload 5, 2), (45, .isub, 1), (46, .iconst 0, 1), (47, .invokestatic 53, 3), (50, .istore_n 2, 1), (51, .iload 4, 2), (53, .invokestatic 59, 3), (56, .tableswitch 77 0 2 #[28, 41, 54], 28), (84, .aload_n 0, 1), (85, .aload_n 1, 1), (86, .iload_n 2, 1), (87, .iload 5, 2), (89, .iload 6, 2), (91, .invokevirtual 62, 3), (94, .goto 49, 3), (97, .aload_n 0, 1), (98, .aload_n 1, 1), (99, .iload_n 2, 1), (100, .iload 5, 2), (102, .iload 6, 2), (104, .invokevirtual 66, 3), (107, .goto 36, 3), (110, .aload_n 1, 1), (111, .aload_n 0, 1), (112, .getfield 40, 3), (115, .iload_n 2, 1), (116, .iaload, 1), (117, .aload_n 0, 1), (118, .getfield 40, 3), (121, .iload_n 2, 1), (122, .iconst 1, 1), (123, .iadd, 1), (124, .iaload, 1), (125, .iload 6, 2), (127, .invokestatic 69, 3), (130, .goto 13, 3), (133, .aload_n 0, 1), (134, .aload_n 1, 1), (135, .iload_n 2, 1), (136, .iload 5, 2), (138, .iload 6, 2), (140, .invokevirtual 72, 3), (143, .iload 4, 2), (145, .bipush 10, 2), (147, .irem, 1), (148, .iconst 1, 1), (149, .if_icmp .ne 9, 3), (152, .iload 6, 2), (154, .ineg, 1), (155, .goto 5, 3), (158, .iload 6, 2), (160, .istore 4, 2), (162, .aload_n 0, 1), (163, .getfield 40, 3), (166, .iload_n 2, 1), (167, .iload 4, 2), (169, .iastore, 1), (170, .iinc 2 1, 3), (173, .iinc 3 1, 3), (176, .goto (-172), 3), (179, .aload_n 1, 1), (180, .aload_n 0, 1), (181, .getfield 40, 3), (184, .iconst 0, 1), (185, .iaload, 1), (186, .iconst 0, 1), (187, .iconst 0, 1), (188, .invokevirtual 75, 3), (191, .return_, 1)]
theorem tb_X10_layInto : ix_tab cX10_layInto tab_X10_layInto := by
  unfold ix_tab
  decide +kernel
noncomputable def f_X10_layInto_162 (n : Nat) (z : ix_Z) (rec4 : Int32 → Int32 → ix_D2 → Option (ix_D2)) (a0 : Nat) (a1 : Nat) (x2 : Int32) (x3 : Int32) (x4 : Int32) (d : ix_D2) : Option (ix_D2) :=
  ix_ck (ix_ok z [9] a0) (ix_bd1 (z.1 a0 5) (fun b_17 => ix_ck (ix_ix z 20 b_17 x2) (ix_lt (ix_di d b_17 (ix_n x2) x4) (fun d_20 => ix_lt (x2 + 1) (fun x2_22 => ix_lt (x3 + 1) (fun x3_24 => rec4 x2_22 x3_24 d_20))))))
noncomputable def f_X10_layInto_160 (n : Nat) (z : ix_Z) (rec4 : Int32 → Int32 → ix_D2 → Option (ix_D2)) (a0 : Nat) (a1 : Nat) (x2 : Int32) (x3 : Int32) (s0 : Int32) (d : ix_D2) : Option (ix_D2) :=
  f_X10_layInto_162 n z rec4 a0 a1 x2 x3 s0 d
noncomputable def f_X10_layInto_143 (n : Nat) (z : ix_Z) (rec4 : Int32 → Int32 → ix_D2 → Option (ix_D2)) (a0 : Nat) (a1 : Nat) (x2 : Int32) (x3 : Int32) (x4 : Int32) (x6 : Int32) (d : ix_D2) : Option (ix_D2) :=
  ix_if (x4 - x4 / 10 * 10 = 1) (f_X10_layInto_160 n z rec4 a0 a1 x2 x3 (-x6) d) (f_X10_layInto_160 n z rec4 a0 a1 x2 x3 x6 d)
noncomputable def b_X10_layInto_4 (n : Nat) (z : ix_Z)  (a0 : Nat) (a1 : Nat) (rec4 : Int32 → Int32 → ix_D2 → Option (ix_D2)) (x2 : Int32) (x3 : Int32) (d : ix_D2) : Option (ix_D2) :=
  ix_ck (ix_ok z [9] a0) (ix_bd1 (z.1 a0 4) (fun b_2 => ix_ck (b_2 < z.2.2 ∧ 20 ≤ (z.2.1 b_2).1 ∧ (z.2.1 b_2).1 < 26) (ix_if (nI (z.2.1 b_2).2 ≤ x3) (ix_bd1 (z.1 a0 5) (fun b_6 => ix_ck (ix_ix z 20 b_6 0) (ix_ck (ix_ok z [2] a1) (ix_bd1 (f_X2_lay n z a1 (d.1 b_6 (ix_n 0)) 0 0 d) (fun d_9 => some d_9))))) (ix_ck (ix_ix z 20 b_2 x3) (ix_lt (d.1 b_2 (ix_n x3)) (fun x4_13 => ix_if (x4_13 < 10000) (f_X10_layInto_162 n z rec4 a0 a1 x2 x3 x4_13 d) (ix_bd2 (f_X10_partsOf n z x4_13 d) (fun r_28 d_26 => ix_ck (ix_ok z [2] a1) (ix_bd2 (f_X2_makeName n z a1 d_26) (fun r_32 d_29 => ix_lt (ix_max (x2 - r_28) 0) (fun x2_33 => ix_bd2 (f_X10_signOf n z x4_13 d_29) (fun r_37 d_35 => ix_if (r_37 = 0) (ix_bd1 (f_X10_layAll n z a0 a1 x2_33 r_28 r_32 d_35) (fun d_39 => f_X10_layInto_143 n z rec4 a0 a1 x2_33 x3 x4_13 r_32 d_39)) (ix_if (r_37 = 1) (ix_bd1 (f_X10_laySome n z a0 a1 x2_33 r_28 r_32 d_35) (fun d_43 => f_X10_layInto_143 n z rec4 a0 a1 x2_33 x3 x4_13 r_32 d_43)) (ix_if (r_37 = 2) (ix_bd1 (z.1 a0 5) (fun b_46 => ix_ck (ix_ix z 20 b_46 x2_33) (ix_ck (ix_ix z 20 b_46 (x2_33 + 1)) (ix_bd1 (f_X10_layThen n z a1 (d_35.1 b_46 (ix_n x2_33)) (d_35.1 b_46 (ix_n (x2_33 + 1))) r_32 d_35) (fun d_50 => f_X10_layInto_143 n z rec4 a0 a1 x2_33 x3 x4_13 r_32 d_50))))) (ix_bd1 (f_X10_layJustOne n z a0 a1 x2_33 r_28 r_32 d_35) (fun d_52 => f_X10_layInto_143 n z rec4 a0 a1 x2_33 x3 x4_13 r_32 d_52))))))))))))))))
noncomputable def f_X10_layInto_4 (n : Nat) (z : ix_Z)  (a0 : Nat) (a1 : Nat) (x2 : Int32) (x3 : Int32) (d : ix_D2) : Option (ix_D2) := ix_fix (b_X10_layInto_4 n z  a0 a1) (fun _ _ _ => none) n x2 x3 d
noncomputable def f_X10_layInto (n : Nat) (z : ix_Z) (a0 : Nat) (a1 : Nat) (d : ix_D2) : Option (ix_D2) :=
  f_X10_layInto_4 n z  a0 a1 0 0 d
set_option maxRecDepth 20000 in
theorem t_X10_layInto_162 {l : Launch} {p : Program} {e : Env} {s : State} {m : MethodId} {args : Array Value} {below : List Frame} {meth : Method} {c : Code} {K : ix_Cx} (hKp : ix_Kp K) {n : Nat} {z : ix_Z} (X : ix_X p s m args c K cX10_layInto RX10 7) (hr : meth.sig.returnType = (none : Option Jvm.ClassFile.FieldType)) (hlk : meth.locks = false) {rec4 : Int32 → Int32 → ix_D2 → Option (ix_D2)} {a0 : Nat} {a1 : Nat} {x2 : Int32} {x3 : Int32} {x4 : Int32} {d1 : ix_D2} (hrec4 : ∀ (x2 : Int32) (x3 : Int32) (d : ix_D2), rec4 x2 x3 d = some d1 → ix_G p l e (ix_rm 5 120 0 0) s m args below meth c (MQ below (ix_Post K none (ix_w z d1)) args s 0 0 (ix_A K)) K 7 0 0 4 [(0, .ref (K.2.2.1 + a0)), (1, .ref (K.2.2.1 + a1)), (2, .int x2), (3, .int x3)] [] (ix_w z d)) {d : ix_D2} (h : f_X10_layInto_162 n z rec4 a0 a1 x2 x3 x4 d = some d1) : ix_G p l e (ix_rm 5 120 0 0) s m args below meth c (MQ below (ix_Post K none (ix_w z d1)) args s 0 0 (ix_A K)) K 7 0 0 162 [(0, .ref (K.2.2.1 + a0)), (1, .ref (K.2.2.1 + a1)), (2, .int x2), (3, .int x3), (4, .int x4)] [] (ix_w z d) := by
  unfold f_X10_layInto_162 at h
  refine ix_aload_n (i := 0) (j := 0) X (ix_tb_at tb_X10_layInto 76 rfl) rfl rfl (pc1 := 163) rfl ?_
  obtain ⟨k_16, h⟩ := ix_ck_some h
  obtain ⟨b_17, q_18, h⟩ := ix_bd1_ex h
  refine iz_getR X fl_RX10_40 k_16 q_18 (ix_tb_at tb_X10_layInto 77 rfl) (pc1 := 166) rfl ?_
  refine ix_iload_n (i := 2) (j := 2) X (ix_tb_at tb_X10_layInto 78 rfl) rfl rfl (pc1 := 167) rfl ?_
  refine ix_iload (i := 4) (j := 4) X (ix_tb_at tb_X10_layInto 79 rfl) rfl (pc1 := 169) rfl ?_
  obtain ⟨k_19, h⟩ := ix_ck_some h
  obtain ⟨d_20, e_21, h⟩ := ix_lt_ex h
  refine iz_iast X k_19 (ix_tb_at tb_X10_layInto 80 rfl) e_21 (pc1 := 170) rfl ?_
  obtain ⟨x2_22, e_23, h⟩ := ix_lt_ex h
  refine ix_iinc (i := 2) (j := 2) (v := x2_22) (L1 := [(2, .int x2_22), (0, .ref (K.2.2.1 + a0)), (1, .ref (K.2.2.1 + a1)), (3, .int x3), (4, .int x4)]) X (ix_tb_at tb_X10_layInto 81 rfl) rfl (by rw [oi_1]; exact e_23.symm) (Nat.le_of_ble_eq_true rfl) rfl (pc1 := 173) rfl ?_
  obtain ⟨x3_24, e_25, h⟩ := ix_lt_ex h
  refine ix_iinc (i := 3) (j := 3) (v := x3_24) (L1 := [(3, .int x3_24), (2, .int x2_22), (0, .ref (K.2.2.1 + a0)), (1, .ref (K.2.2.1 + a1)), (4, .int x4)]) X (ix_tb_at tb_X10_layInto 82 rfl) rfl (by rw [oi_1]; exact e_25.symm) (Nat.le_of_ble_eq_true rfl) rfl (pc1 := 176) rfl ?_
  refine ix_goto (tgt := 4) X (ix_tb_at tb_X10_layInto 83 rfl) (by decide) ?_
  refine ix_sub (L1 := [(0, .ref (K.2.2.1 + a0)), (1, .ref (K.2.2.1 + a1)), (2, .int x2_22), (3, .int x3_24)]) [2, 3, 1, 0] rfl ?_
  exact hrec4 x2_22 x3_24 d_20 h
set_option maxRecDepth 20000 in
theorem t_X10_layInto_160 {l : Launch} {p : Program} {e : Env} {s : State} {m : MethodId} {args : Array Value} {below : List Frame} {meth : Method} {c : Code} {K : ix_Cx} (hKp : ix_Kp K) {n : Nat} {z : ix_Z} (X : ix_X p s m args c K cX10_layInto RX10 7) (hr : meth.sig.returnType = (none : Option Jvm.ClassFile.FieldType)) (hlk : meth.locks = false) {rec4 : Int32 → Int32 → ix_D2 → Option (ix_D2)} {a0 : Nat} {a1 : Nat} {x2 : Int32} {x3 : Int32} {s0 : Int32} {d1 : ix_D2} (hrec4 : ∀ (x2 : Int32) (x3 : Int32) (d : ix_D2), rec4 x2 x3 d = some d1 → ix_G p l e (ix_rm 5 120 0 0) s m args below meth c (MQ below (ix_Post K none (ix_w z d1)) args s 0 0 (ix_A K)) K 7 0 0 4 [(0, .ref (K.2.2.1 + a0)), (1, .ref (K.2.2.1 + a1)), (2, .int x2), (3, .int x3)] [] (ix_w z d)) {d : ix_D2} (h : f_X10_layInto_160 n z rec4 a0 a1 x2 x3 s0 d = some d1) : ix_G p l e (ix_rm 5 120 0 0) s m args below meth c (MQ below (ix_Post K none (ix_w z d1)) args s 0 0 (ix_A K)) K 7 0 0 160 [(0, .ref (K.2.2.1 + a0)), (1, .ref (K.2.2.1 + a1)), (2, .int x2), (3, .int x3)] [.int s0] (ix_w z d) := by
  unfold f_X10_layInto_160 at h
  refine ix_istore (i := 4) (L1 := [(4, .int s0), (0, .ref (K.2.2.1 + a0)), (1, .ref (K.2.2.1 + a1)), (2, .int x2), (3, .int x3)]) X (ix_tb_at tb_X10_layInto 75 rfl) (Nat.le_of_ble_eq_true rfl) rfl (pc1 := 162) rfl ?_
  refine ix_sub (L1 := [(0, .ref (K.2.2.1 + a0)), (1, .ref (K.2.2.1 + a1)), (2, .int x2), (3, .int x3), (4, .int s0)]) [1, 2, 3, 4, 0] rfl ?_
  exact t_X10_layInto_162 hKp X hr hlk hrec4 h
set_option maxRecDepth 20000 in
theorem t_X10_layInto_143 {l : Launch} {p : Program} {e : Env} {s : State} {m : MethodId} {args : Array Value} {below : List Frame} {meth : Method} {c : Code} {K : ix_Cx} (hKp : ix_Kp K) {n : Nat} {z : ix_Z} (X : ix_X p s m args c K cX10_layInto RX10 7) (hr : meth.sig.returnType = (none : Option Jvm.ClassFile.FieldType)) (hlk : meth.locks = false) {rec4 : Int32 → Int32 → ix_D2 → Option (ix_D2)} {a0 : Nat} {a1 : Nat} {x2 : Int32} {x3 : Int32} {x4 : Int32} {x6 : Int32} {d1 : ix_D2} (hrec4 : ∀ (x2 : Int32) (x3 : Int32) (d : ix_D2), rec4 x2 x3 d = some d1 → ix_G p l e (ix_rm 5 120 0 0) s m args below meth c (MQ below (ix_Post K none (ix_w z d1)) args s 0 0 (ix_A K)) K 7 0 0 4 [(0, .ref (K.2.2.1 + a0)), (1, .ref (K.2.2.1 + a1)), (2, .int x2), (3, .int x3)] [] (ix_w z d)) {d : ix_D2} (h : f_X10_layInto_143 n z rec4 a0 a1 x2 x3 x4 x6 d = some d1) : ix_G p l e (ix_rm 5 120 0 0) s m args below meth c (MQ below (ix_Post K none (ix_w z d1)) args s 0 0 (ix_A K)) K 7 0 0 143 [(0, .ref (K.2.2.1 + a0)), (1, .ref (K.2.2.1 + a1)), (2, .int x2), (3, .int x3), (4, .int x4), (6, .int x6)] [] (ix_w z d) := by
  unfold f_X10_layInto_143 at h
  refine ix_iload (i := 4) (j := 4) X (ix_tb_at tb_X10_layInto 66 rfl) rfl (pc1 := 145) rfl ?_
  refine ix_bipush (v := 10) X (ix_tb_at tb_X10_layInto 67 rfl) (by decide) (pc1 := 147) rfl ?_
  refine ix_irem X (ix_tb_at tb_X10_layInto 68 rfl) (by decide) (pc1 := 148) rfl ?_
  refine ix_iconst (v := 1) X (ix_tb_at tb_X10_layInto 69 rfl) (by decide) (pc1 := 149) rfl ?_
  refine ix_icmp_ne (tgt := 158) X (ix_tb_at tb_X10_layInto 70 rfl) (by decide) (pc1 := 152) rfl (fun q_41 => ?_) (fun q_41 => ?_)
  · have h := ix_iff q_41 h
    refine ix_iload (i := 6) (j := 5) X (ix_tb_at tb_X10_layInto 74 rfl) rfl (pc1 := 160) rfl ?_
    refine ix_sub (L1 := [(0, .ref (K.2.2.1 + a0)), (1, .ref (K.2.2.1 + a1)), (2, .int x2), (3, .int x3)]) [0, 1, 2, 3] rfl ?_
    exact t_X10_layInto_160 hKp X hr hlk hrec4 h
  · have h := ix_ift q_41 h
    refine ix_iload (i := 6) (j := 5) X (ix_tb_at tb_X10_layInto 71 rfl) rfl (pc1 := 154) rfl ?_
    refine ix_ineg X (ix_tb_at tb_X10_layInto 72 rfl) (pc1 := 155) rfl ?_
    refine ix_goto (tgt := 160) X (ix_tb_at tb_X10_layInto 73 rfl) (by decide) ?_
    refine ix_sub (L1 := [(0, .ref (K.2.2.1 + a0)), (1, .ref (K.2.2.1 + a1)), (2, .int x2), (3, .int x3)]) [0, 1, 2, 3] rfl ?_
    exact t_X10_layInto_160 hKp X hr hlk hrec4 h
set_option maxRecDepth 20000 in
theorem tb_X10_layInto_4 {l : Launch} {p : Program} {e : Env} {s : State} {m : MethodId} {args : Array Value} {below : List Frame} {meth : Method} {c : Code} {K : ix_Cx} (hKp : ix_Kp K) {n : Nat} {z : ix_Z} (X : ix_X p s m args c K cX10_layInto RX10 7) (hr : meth.sig.returnType = (none : Option Jvm.ClassFile.FieldType)) (hlk : meth.locks = false)  {a0 : Nat} {a1 : Nat} {rec4 : Int32 → Int32 → ix_D2 → Option (ix_D2)} {d1 : ix_D2} (hrec4 : ∀ (x2 : Int32) (x3 : Int32) (d : ix_D2), rec4 x2 x3 d = some d1 → ix_G p l e (ix_rm 5 120 0 0) s m args below meth c (MQ below (ix_Post K none (ix_w z d1)) args s 0 0 (ix_A K)) K 7 0 0 4 [(0, .ref (K.2.2.1 + a0)), (1, .ref (K.2.2.1 + a1)), (2, .int x2), (3, .int x3)] [] (ix_w z d)) {x2 : Int32} {x3 : Int32} {d : ix_D2} (h : b_X10_layInto_4 n z  a0 a1 rec4 x2 x3 d = some d1) : ix_G p l e (ix_rm 5 120 0 0) s m args below meth c (MQ below (ix_Post K none (ix_w z d1)) args s 0 0 (ix_A K)) K 7 0 0 4 [(0, .ref (K.2.2.1 + a0)), (1, .ref (K.2.2.1 + a1)), (2, .int x2), (3, .int x3)] [] (ix_w z d) := by
  unfold b_X10_layInto_4 at h
  refine ix_iload_n (i := 3) (j := 3) X (ix_tb_at tb_X10_layInto 4 rfl) rfl rfl (pc1 := 5) rfl ?_
  refine ix_aload_n (i := 0) (j := 0) X (ix_tb_at tb_X10_layInto 5 rfl) rfl rfl (pc1 := 6) rfl ?_
  obtain ⟨k_1, h⟩ := ix_ck_some h
  obtain ⟨b_2, q_3, h⟩ := ix_bd1_ex h
  refine iz_getR X fl_RX10_39 k_1 q_3 (ix_tb_at tb_X10_layInto 6 rfl) (pc1 := 9) rfl ?_
  obtain ⟨k_4, h⟩ := ix_ck_some h
  refine iz_alen X k_4 (ix_tb_at tb_X10_layInto 7 rfl) (pc1 := 10) rfl ?_
  refine ix_icmp_ge (tgt := 179) X (ix_tb_at tb_X10_layInto 8 rfl) (by decide) (pc1 := 13) rfl (fun q_5 => ?_) (fun q_5 => ?_)
  · have h := ix_ift q_5 h
    refine ix_aload_n (i := 1) (j := 1) X (ix_tb_at tb_X10_layInto 84 rfl) rfl rfl (pc1 := 180) rfl ?_
    refine ix_aload_n (i := 0) (j := 0) X (ix_tb_at tb_X10_layInto 85 rfl) rfl rfl (pc1 := 181) rfl ?_
    obtain ⟨b_6, q_7, h⟩ := ix_bd1_ex h
    refine iz_getR X fl_RX10_40 k_1 q_7 (ix_tb_at tb_X10_layInto 86 rfl) (pc1 := 184) rfl ?_
    refine ix_iconst (v := 0) X (ix_tb_at tb_X10_layInto 87 rfl) (by decide) (pc1 := 185) rfl ?_
    obtain ⟨k_8, h⟩ := ix_ck_some h
    refine iz_iald X k_8 (ix_tb_at tb_X10_layInto 88 rfl) (pc1 := 186) rfl ?_
    refine ix_iconst (v := 0) X (ix_tb_at tb_X10_layInto 89 rfl) (by decide) (pc1 := 187) rfl ?_
    refine ix_iconst (v := 0) X (ix_tb_at tb_X10_layInto 90 rfl) (by decide) (pc1 := 188) rfl ?_
    obtain ⟨k_11, h⟩ := ix_ck_some h
    obtain ⟨d_9, h_10, h⟩ := ix_bd1_ex h
    refine ix_callV (As := [.int (d.1 b_6 (ix_n 0)), .int 0, .int 0]) (rest := []) (ci := 2) (T := TX2) (nf := 12) X mf_X2_lay mi_X2_lay ms_X2_lay rfl (Nat.le_of_ble_eq_true rfl) ml_RX10_75 ⟨Nat.le_of_ble_eq_true rfl, Nat.le_of_ble_eq_true rfl⟩ ⟨Nat.le_of_ble_eq_true rfl, Nat.le_of_ble_eq_true rfl⟩ rfl (Nat.le_of_ble_eq_true rfl) (ix_tb_at tb_X10_layInto 91 rfl) ⟨k_11.1, List.mem_singleton.mp k_11.2⟩ (c_X2_lay hKp h_10) rfl (pc1 := 191) rfl ?_
    exact ix_vret X hr hlk (ix_r1 (g := ix_w z) h) (ix_tb_at tb_X10_layInto 92 rfl)
  · have h := ix_iff q_5 h
    refine ix_aload_n (i := 0) (j := 0) X (ix_tb_at tb_X10_layInto 9 rfl) rfl rfl (pc1 := 14) rfl ?_
    refine iz_getR X fl_RX10_39 k_1 q_3 (ix_tb_at tb_X10_layInto 10 rfl) (pc1 := 17) rfl ?_
    refine ix_iload_n (i := 3) (j := 3) X (ix_tb_at tb_X10_layInto 11 rfl) rfl rfl (pc1 := 18) rfl ?_
    obtain ⟨k_12, h⟩ := ix_ck_some h
    refine iz_iald X k_12 (ix_tb_at tb_X10_layInto 12 rfl) (pc1 := 19) rfl ?_
    obtain ⟨x4_13, e_14, h⟩ := ix_lt_ex h
    refine ix_nmi e_14 ?_
    refine ix_istore (i := 4) (L1 := [(4, .int x4_13), (0, .ref (K.2.2.1 + a0)), (1, .ref (K.2.2.1 + a1)), (2, .int x2), (3, .int x3)]) X (ix_tb_at tb_X10_layInto 13 rfl) (Nat.le_of_ble_eq_true rfl) rfl (pc1 := 21) rfl ?_
    refine ix_iload (i := 4) (j := 0) X (ix_tb_at tb_X10_layInto 14 rfl) rfl (pc1 := 23) rfl ?_
    refine ix_sipush (v := 10000) X (ix_tb_at tb_X10_layInto 15 rfl) (by decide) (pc1 := 26) rfl ?_
    refine ix_icmp_lt (tgt := 162) X (ix_tb_at tb_X10_layInto 16 rfl) (by decide) (pc1 := 29) rfl (fun q_15 => ?_) (fun q_15 => ?_)
    · have h := ix_ift q_15 h
      refine ix_sub (L1 := [(0, .ref (K.2.2.1 + a0)), (1, .ref (K.2.2.1 + a1)), (2, .int x2), (3, .int x3), (4, .int x4_13)]) [1, 2, 3, 4, 0] rfl ?_
      exact t_X10_layInto_162 hKp X hr hlk hrec4 h
    · have h := ix_iff q_15 h
      refine ix_iload (i := 4) (j := 0) X (ix_tb_at tb_X10_layInto 17 rfl) rfl (pc1 := 31) rfl ?_
      obtain ⟨r_28, d_26, h_27, h⟩ := ix_bd2_ex h
      refine ix_callS (As := [.int x4_13]) (rest := []) X mf_X10_partsOf st_X10_partsOf ml_RX10_43 ⟨Nat.le_of_ble_eq_true rfl, Nat.le_of_ble_eq_true rfl⟩ ⟨Nat.le_of_ble_eq_true rfl, Nat.le_of_ble_eq_true rfl⟩ rfl (Nat.le_of_ble_eq_true rfl) (ix_tb_at tb_X10_layInto 18 rfl) (c_X10_partsOf hKp h_27) rfl (pc1 := 34) rfl ?_
      refine ix_istore (i := 5) (L1 := [(5, .int r_28), (4, .int x4_13), (0, .ref (K.2.2.1 + a0)), (1, .ref (K.2.2.1 + a1)), (2, .int x2), (3, .int x3)]) X (ix_tb_at tb_X10_layInto 19 rfl) (Nat.le_of_ble_eq_true rfl) rfl (pc1 := 36) rfl ?_
      refine ix_aload_n (i := 1) (j := 3) X (ix_tb_at tb_X10_layInto 20 rfl) rfl rfl (pc1 := 37) rfl ?_
      obtain ⟨k_31, h⟩ := ix_ck_some h
      obtain ⟨r_32, d_29, h_30, h⟩ := ix_bd2_ex h
      refine ix_callV (As := []) (rest := []) (ci := 2) (T := TX2) (nf := 12) X mf_X2_makeName mi_X2_makeName ms_X2_makeName rfl (Nat.le_of_ble_eq_true rfl) ml_RX10_47 ⟨Nat.le_of_ble_eq_true rfl, Nat.le_of_ble_eq_true rfl⟩ ⟨Nat.le_of_ble_eq_true rfl, Nat.le_of_ble_eq_true rfl⟩ rfl (Nat.le_of_ble_eq_true rfl) (ix_tb_at tb_X10_layInto 21 rfl) ⟨k_31.1, List.mem_singleton.mp k_31.2⟩ (c_X2_makeName hKp h_30) rfl (pc1 := 40) rfl ?_
      refine ix_istore (i := 6) (L1 := [(6, .int r_32), (5, .int r_28), (4, .int x4_13), (0, .ref (K.2.2.1 + a0)), (1, .ref (K.2.2.1 + a1)), (2, .int x2), (3, .int x3)]) X (ix_tb_at tb_X10_layInto 22 rfl) (Nat.le_of_ble_eq_true rfl) rfl (pc1 := 42) rfl ?_
      refine ix_iload_n (i := 2) (j := 5) X (ix_tb_at tb_X10_layInto 23 rfl) rfl rfl (pc1 := 43) rfl ?_
      refine ix_iload (i := 5) (j := 1) X (ix_tb_at tb_X10_layInto 24 rfl) rfl (pc1 := 45) rfl ?_
      refine ix_isub X (ix_tb_at tb_X10_layInto 25 rfl) (pc1 := 46) rfl ?_
      refine ix_iconst (v := 0) X (ix_tb_at tb_X10_layInto 26 rfl) (by decide) (pc1 := 47) rfl ?_
      refine ix_mmax X ml_RX10_53 (Nat.le_of_ble_eq_true rfl) (Nat.le_of_ble_eq_true rfl) ⟨Nat.le_of_ble_eq_true rfl, Nat.le_of_ble_eq_true rfl⟩ (ix_tb_at tb_X10_layInto 27 rfl) (pc1 := 50) rfl ?_
      obtain ⟨x2_33, e_34, h⟩ := ix_lt_ex h
      refine ix_nmi e_34 ?_
      refine ix_istore_n (i := 2) (L1 := [(2, .int x2_33), (6, .int r_32), (5, .int r_28), (4, .int x4_13), (0, .ref (K.2.2.1 + a0)), (1, .ref (K.2.2.1 + a1)), (3, .int x3)]) X (ix_tb_at tb_X10_layInto 28 rfl) rfl (Nat.le_of_ble_eq_true rfl) rfl (pc1 := 51) rfl ?_
      refine ix_iload (i := 4) (j := 3) X (ix_tb_at tb_X10_layInto 29 rfl) rfl (pc1 := 53) rfl ?_
      obtain ⟨r_37, d_35, h_36, h⟩ := ix_bd2_ex h
      refine ix_callS (As := [.int x4_13]) (rest := []) X mf_X10_signOf st_X10_signOf ml_RX10_59 ⟨Nat.le_of_ble_eq_true rfl, Nat.le_of_ble_eq_true rfl⟩ ⟨Nat.le_of_ble_eq_true rfl, Nat.le_of_ble_eq_true rfl⟩ rfl (Nat.le_of_ble_eq_true rfl) (ix_tb_at tb_X10_layInto 30 rfl) (c_X10_signOf hKp h_36) rfl (pc1 := 56) rfl ?_
      rcases Classical.em (r_37 = 0) with q_38 | q_38
      · have h := ix_ift q_38 h
        refine ix_swin (tgt := 84) X (ix_tb_at tb_X10_layInto 31 rfl) (by rw [q_38]; decide) (by rw [q_38]; decide) (by rw [q_38]; rfl) (by decide) ?_
        refine ix_aload_n (i := 0) (j := 4) X (ix_tb_at tb_X10_layInto 32 rfl) rfl rfl (pc1 := 85) rfl ?_
        refine ix_aload_n (i := 1) (j := 5) X (ix_tb_at tb_X10_layInto 33 rfl) rfl rfl (pc1 := 86) rfl ?_
        refine ix_iload_n (i := 2) (j := 0) X (ix_tb_at tb_X10_layInto 34 rfl) rfl rfl (pc1 := 87) rfl ?_
        refine ix_iload (i := 5) (j := 2) X (ix_tb_at tb_X10_layInto 35 rfl) rfl (pc1 := 89) rfl ?_
        refine ix_iload (i := 6) (j := 1) X (ix_tb_at tb_X10_layInto 36 rfl) rfl (pc1 := 91) rfl ?_
        obtain ⟨d_39, h_40, h⟩ := ix_bd1_ex h
        refine ix_callV (As := [.ref (K.2.2.1 + a1), .int x2_33, .int r_28, .int r_32]) (rest := []) (ci := 9) (T := TX10) (nf := 6) X mf_X10_layAll mi_X10_layAll ms_X10_layAll rfl (Nat.le_of_ble_eq_true rfl) ml_RX10_62 ⟨Nat.le_of_ble_eq_true rfl, Nat.le_of_ble_eq_true rfl⟩ ⟨Nat.le_of_ble_eq_true rfl, Nat.le_of_ble_eq_true rfl⟩ rfl (Nat.le_of_ble_eq_true rfl) (ix_tb_at tb_X10_layInto 37 rfl) ⟨k_1.1, List.mem_singleton.mp k_1.2⟩ (c_X10_layAll hKp h_40) rfl (pc1 := 94) rfl ?_
        refine ix_goto (tgt := 143) X (ix_tb_at tb_X10_layInto 38 rfl) (by decide) ?_
        refine ix_sub (L1 := [(0, .ref (K.2.2.1 + a0)), (1, .ref (K.2.2.1 + a1)), (2, .int x2_33), (3, .int x3), (4, .int x4_13), (6, .int r_32)]) [4, 5, 0, 6, 3, 1] rfl ?_
        exact t_X10_layInto_143 hKp X hr hlk hrec4 h
      · have h := ix_iff q_38 h
        rcases Classical.em (r_37 = 1) with q_42 | q_42
        · have h := ix_ift q_42 h
          refine ix_swin (tgt := 97) X (ix_tb_at tb_X10_layInto 31 rfl) (by rw [q_42]; decide) (by rw [q_42]; decide) (by rw [q_42]; rfl) (by decide) ?_
          refine ix_aload_n (i := 0) (j := 4) X (ix_tb_at tb_X10_layInto 39 rfl) rfl rfl (pc1 := 98) rfl ?_
          refine ix_aload_n (i := 1) (j := 5) X (ix_tb_at tb_X10_layInto 40 rfl) rfl rfl (pc1 := 99) rfl ?_
          refine ix_iload_n (i := 2) (j := 0) X (ix_tb_at tb_X10_layInto 41 rfl) rfl rfl (pc1 := 100) rfl ?_
          refine ix_iload (i := 5) (j := 2) X (ix_tb_at tb_X10_layInto 42 rfl) rfl (pc1 := 102) rfl ?_
          refine ix_iload (i := 6) (j := 1) X (ix_tb_at tb_X10_layInto 43 rfl) rfl (pc1 := 104) rfl ?_
          obtain ⟨d_43, h_44, h⟩ := ix_bd1_ex h
          refine ix_callV (As := [.ref (K.2.2.1 + a1), .int x2_33, .int r_28, .int r_32]) (rest := []) (ci := 9) (T := TX10) (nf := 6) X mf_X10_laySome mi_X10_laySome ms_X10_laySome rfl (Nat.le_of_ble_eq_true rfl) ml_RX10_66 ⟨Nat.le_of_ble_eq_true rfl, Nat.le_of_ble_eq_true rfl⟩ ⟨Nat.le_of_ble_eq_true rfl, Nat.le_of_ble_eq_true rfl⟩ rfl (Nat.le_of_ble_eq_true rfl) (ix_tb_at tb_X10_layInto 44 rfl) ⟨k_1.1, List.mem_singleton.mp k_1.2⟩ (c_X10_laySome hKp h_44) rfl (pc1 := 107) rfl ?_
          refine ix_goto (tgt := 143) X (ix_tb_at tb_X10_layInto 45 rfl) (by decide) ?_
          refine ix_sub (L1 := [(0, .ref (K.2.2.1 + a0)), (1, .ref (K.2.2.1 + a1)), (2, .int x2_33), (3, .int x3), (4, .int x4_13), (6, .int r_32)]) [4, 5, 0, 6, 3, 1] rfl ?_
          exact t_X10_layInto_143 hKp X hr hlk hrec4 h
        · have h := ix_iff q_42 h
          rcases Classical.em (r_37 = 2) with q_45 | q_45
          · have h := ix_ift q_45 h
            refine ix_swin (tgt := 110) X (ix_tb_at tb_X10_layInto 31 rfl) (by rw [q_45]; decide) (by rw [q_45]; decide) (by rw [q_45]; rfl) (by decide) ?_
            refine ix_aload_n (i := 1) (j := 5) X (ix_tb_at tb_X10_layInto 46 rfl) rfl rfl (pc1 := 111) rfl ?_
            refine ix_aload_n (i := 0) (j := 4) X (ix_tb_at tb_X10_layInto 47 rfl) rfl rfl (pc1 := 112) rfl ?_
            obtain ⟨b_46, q_47, h⟩ := ix_bd1_ex h
            refine iz_getR X fl_RX10_40 k_1 q_47 (ix_tb_at tb_X10_layInto 48 rfl) (pc1 := 115) rfl ?_
            refine ix_iload_n (i := 2) (j := 0) X (ix_tb_at tb_X10_layInto 49 rfl) rfl rfl (pc1 := 116) rfl ?_
            obtain ⟨k_48, h⟩ := ix_ck_some h
            refine iz_iald X k_48 (ix_tb_at tb_X10_layInto 50 rfl) (pc1 := 117) rfl ?_
            refine ix_aload_n (i := 0) (j := 4) X (ix_tb_at tb_X10_layInto 51 rfl) rfl rfl (pc1 := 118) rfl ?_
            refine iz_getR X fl_RX10_40 k_1 q_47 (ix_tb_at tb_X10_layInto 52 rfl) (pc1 := 121) rfl ?_
            refine ix_iload_n (i := 2) (j := 0) X (ix_tb_at tb_X10_layInto 53 rfl) rfl rfl (pc1 := 122) rfl ?_
            refine ix_iconst (v := 1) X (ix_tb_at tb_X10_layInto 54 rfl) (by decide) (pc1 := 123) rfl ?_
            refine ix_iadd X (ix_tb_at tb_X10_layInto 55 rfl) (pc1 := 124) rfl ?_
            obtain ⟨k_49, h⟩ := ix_ck_some h
            refine iz_iald X k_49 (ix_tb_at tb_X10_layInto 56 rfl) (pc1 := 125) rfl ?_
            refine ix_iload (i := 6) (j := 1) X (ix_tb_at tb_X10_layInto 57 rfl) rfl (pc1 := 127) rfl ?_
            obtain ⟨d_50, h_51, h⟩ := ix_bd1_ex h
            refine ix_callS (As := [.ref (K.2.2.1 + a1), .int (d_35.1 b_46 (ix_n x2_33)), .int (d_35.1 b_46 (ix_n (x2_33 + 1))), .int r_32]) (rest := []) X mf_X10_layThen st_X10_layThen ml_RX10_69 ⟨Nat.le_of_ble_eq_true rfl, Nat.le_of_ble_eq_true rfl⟩ ⟨Nat.le_of_ble_eq_true rfl, Nat.le_of_ble_eq_true rfl⟩ rfl (Nat.le_of_ble_eq_true rfl) (ix_tb_at tb_X10_layInto 58 rfl) (c_X10_layThen hKp h_51) rfl (pc1 := 130) rfl ?_
            refine ix_goto (tgt := 143) X (ix_tb_at tb_X10_layInto 59 rfl) (by decide) ?_
            refine ix_sub (L1 := [(0, .ref (K.2.2.1 + a0)), (1, .ref (K.2.2.1 + a1)), (2, .int x2_33), (3, .int x3), (4, .int x4_13), (6, .int r_32)]) [4, 5, 0, 6, 3, 1] rfl ?_
            exact t_X10_layInto_143 hKp X hr hlk hrec4 h
          · have h := ix_iff q_45 h
            refine ix_swout (tgt := 133) X (ix_tb_at tb_X10_layInto 31 rfl) (by have wq_38 := ix_ne (a := 0) (by decide) q_38; have wq_42 := ix_ne (a := 1) (by decide) q_42; have wq_45 := ix_ne (a := 2) (by decide) q_45; omega) (by decide) ?_
            refine ix_aload_n (i := 0) (j := 4) X (ix_tb_at tb_X10_layInto 60 rfl) rfl rfl (pc1 := 134) rfl ?_
            refine ix_aload_n (i := 1) (j := 5) X (ix_tb_at tb_X10_layInto 61 rfl) rfl rfl (pc1 := 135) rfl ?_
            refine ix_iload_n (i := 2) (j := 0) X (ix_tb_at tb_X10_layInto 62 rfl) rfl rfl (pc1 := 136) rfl ?_
            refine ix_iload (i := 5) (j := 2) X (ix_tb_at tb_X10_layInto 63 rfl) rfl (pc1 := 138) rfl ?_
            refine ix_iload (i := 6) (j := 1) X (ix_tb_at tb_X10_layInto 64 rfl) rfl (pc1 := 140) rfl ?_
            obtain ⟨d_52, h_53, h⟩ := ix_bd1_ex h
            refine ix_callV (As := [.ref (K.2.2.1 + a1), .int x2_33, .int r_28, .int r_32]) (rest := []) (ci := 9) (T := TX10) (nf := 6) X mf_X10_layJustOne mi_X10_layJustOne ms_X10_layJustOne rfl (Nat.le_of_ble_eq_true rfl) ml_RX10_72 ⟨Nat.le_of_ble_eq_true rfl, Nat.le_of_ble_eq_true rfl⟩ ⟨Nat.le_of_ble_eq_true rfl, Nat.le_of_ble_eq_true rfl⟩ rfl (Nat.le_of_ble_eq_true rfl) (ix_tb_at tb_X10_layInto 65 rfl) ⟨k_1.1, List.mem_singleton.mp k_1.2⟩ (c_X10_layJustOne hKp h_53) rfl (pc1 := 143) rfl ?_
            refine ix_sub (L1 := [(0, .ref (K.2.2.1 + a0)), (1, .ref (K.2.2.1 + a1)), (2, .int x2_33), (3, .int x3), (4, .int x4_13), (6, .int r_32)]) [4, 5, 0, 6, 3, 1] rfl ?_
            exact t_X10_layInto_143 hKp X hr hlk hrec4 h
theorem t_X10_layInto_4 {l : Launch} {p : Program} {e : Env} {s : State} {m : MethodId} {args : Array Value} {below : List Frame} {meth : Method} {c : Code} {K : ix_Cx} (hKp : ix_Kp K) {n : Nat} {z : ix_Z} (X : ix_X p s m args c K cX10_layInto RX10 7) (hr : meth.sig.returnType = (none : Option Jvm.ClassFile.FieldType)) (hlk : meth.locks = false)  {a0 : Nat} {a1 : Nat} {d1 : ix_D2}  {x2 : Int32} {x3 : Int32} {d : ix_D2} (h : f_X10_layInto_4 n z  a0 a1 x2 x3 d = some d1) : ix_G p l e (ix_rm 5 120 0 0) s m args below meth c (MQ below (ix_Post K none (ix_w z d1)) args s 0 0 (ix_A K)) K 7 0 0 4 [(0, .ref (K.2.2.1 + a0)), (1, .ref (K.2.2.1 + a1)), (2, .int x2), (3, .int x3)] [] (ix_w z d) := by
  have key : ∀ (f : Nat) (x2 : Int32) (x3 : Int32) (d : ix_D2), ix_fix (b_X10_layInto_4 n z  a0 a1) (fun _ _ _ => none) f x2 x3 d = some d1 → ix_G p l e (ix_rm 5 120 0 0) s m args below meth c (MQ below (ix_Post K none (ix_w z d1)) args s 0 0 (ix_A K)) K 7 0 0 4 [(0, .ref (K.2.2.1 + a0)), (1, .ref (K.2.2.1 + a1)), (2, .int x2), (3, .int x3)] [] (ix_w z d) := by
    intro f
    induction f with
    | zero =>
      intro x2 x3 d h
      have h : (none : Option (ix_D2)) = some d1 := h
      cases h
    | succ f ih =>
      intro x2 x3 d h
      exact tb_X10_layInto_4 hKp X hr hlk (rec4 := ix_fix (b_X10_layInto_4 n z  a0 a1) (fun _ _ _ => none) f)  ih h
  exact key n x2 x3 d h
set_option maxRecDepth 20000 in
theorem c_X10_layInto {l : Launch} {K : ix_Cx} (hKp : ix_Kp K) {n : Nat} {z : ix_Z} {a0 : Nat} {a1 : Nat} {d : ix_D2} {d1 : ix_D2} (h : f_X10_layInto n z a0 a1 d = some d1) : ix_M l K yX10_layInto cX10_layInto 7 (none : Option Jvm.ClassFile.FieldType) 5 120 0 0 [.ref (K.2.2.1 + a0), .ref (K.2.2.1 + a1)] (ix_w z d) none (ix_w z d1) := by
  refine ix_met mf_X10_layInto hKp (Nat.le_of_ble_eq_true rfl) ?_
  intro p e s m args below meth c hr hlk hnm X
  have X : ix_X p s m args c K cX10_layInto RX10 7 := X
  show ix_G p l e (ix_rm 5 120 0 0) s m args below meth c (MQ below (ix_Post K none (ix_w z d1)) args s 0 0 (ix_A K)) K 7 0 0 0 [(0, .ref (K.2.2.1 + a0)), (1, .ref (K.2.2.1 + a1))] [] (ix_w z d)
  unfold f_X10_layInto at h
  refine ix_iconst (v := 0) X (ix_tb_at tb_X10_layInto 0 rfl) (by decide) (pc1 := 1) rfl ?_
  refine ix_istore_n (i := 2) (L1 := [(2, .int 0), (0, .ref (K.2.2.1 + a0)), (1, .ref (K.2.2.1 + a1))]) X (ix_tb_at tb_X10_layInto 1 rfl) rfl (Nat.le_of_ble_eq_true rfl) rfl (pc1 := 2) rfl ?_
  refine ix_iconst (v := 0) X (ix_tb_at tb_X10_layInto 2 rfl) (by decide) (pc1 := 3) rfl ?_
  refine ix_istore_n (i := 3) (L1 := [(3, .int 0), (2, .int 0), (0, .ref (K.2.2.1 + a0)), (1, .ref (K.2.2.1 + a1))]) X (ix_tb_at tb_X10_layInto 3 rfl) rfl (Nat.le_of_ble_eq_true rfl) rfl (pc1 := 4) rfl ?_
  refine ix_sub (L1 := [(0, .ref (K.2.2.1 + a0)), (1, .ref (K.2.2.1 + a1)), (2, .int 0), (3, .int 0)]) [2, 3, 1, 0] rfl ?_
  exact t_X10_layInto_4 hKp X hr hlk  h
def tab_X10_isSo : List (Nat × Instr × Nat) := [(0, .iconst 0, 1), (1, .istore 4, 2), (3, .iload_n 2, 1), (4, .istore 5, 2), (6, .iload 5, 2), (8, .iload_n 2, 1), (9, .iload_n 3, 1), (10, .iadd, 1), (11, .if_icmp .ge 21, 3), (14, .iload 4, 2), (16, .aload_n 0, 1), (17, .getfield 40, 3), (20, .iload 5, 2), (22, .iaload, 1), (23, .iadd, 1), (24, .istore 4, 2), (26, .iinc 5 1, 3), (29, .goto (-23), 3), (32, .iload_n 1, 1), (33, .tableswitch 77 0 2 #[27, 39, 50], 27), (60, .iload 4, 2), (62, .iload_n 3, 1), (63, .if_icmp .ne 7, 3), (66, .iconst 1, 1), (67, .goto 4, 3), (70, .iconst 0, 1), (71, .ireturn, 1), (72, .iload 4, 2), (74, .ifCond .le 7, 3), (77, .iconst 1, 1), (78, .goto 4, 3), (81, .iconst 0, 1), (82, .ireturn, 1), (83, .aload_n 0, 1), (84, .getfield 40, 3), (87, .iload_n 2, 1), (88, .iaload, 1), (89, .ifCond .eq 15, 3), (92, .aload_n 0, 1), (93, .getfield 40, 3), (96, .iload_n 2, 1), (97, .iconst 1, 1), (98, .iadd, 1), (99, .iaload, 1), (100, .iconst 1, 1), (101, .if_icmp .ne 7, 3), (104, .iconst 1, 1), (105, .goto 4, 3), (108, .iconst 0, 1), (109, .ireturn, 1), (110, .iload 4, 2), (112, .iconst 1, 1), (113, .if_icmp .ne 7, 3), (116, .iconst 1, 1), (117, .goto 4, 3), (120, .iconst 0, 1), (121, .ireturn, 1)]
theorem tb_X10_isSo : ix_tab cX10_isSo tab_X10_isSo := by
  unfold ix_tab
  decide +kernel
noncomputable def f_X10_isSo_104 (n : Nat) (z : ix_Z)   (d : ix_D2) : Option (Int32 × ix_D2) :=
  some (1, d)
noncomputable def b_X10_isSo_6 (n : Nat) (z : ix_Z)  (a0 : Nat) (x1 : Int32) (x2 : Int32) (x3 : Int32) (rec6 : Int32 → Int32 → ix_D2 → Option (Int32 × ix_D2)) (x4 : Int32) (x5 : Int32) (d : ix_D2) : Option (Int32 × ix_D2) :=
  ix_if (x2 + x3 ≤ x5) (ix_if (x1 = 0) (ix_if (x4 = x3) (some (1, d)) (some (0, d))) (ix_if (x1 = 1) (ix_if (x4 ≤ 0) (some (0, d)) (some (1, d))) (ix_if (x1 = 2) (ix_ck (ix_ok z [9] a0) (ix_bd1 (z.1 a0 5) (fun b_8 => ix_ck (ix_ix z 20 b_8 x2) (ix_if (d.1 b_8 (ix_n x2) = 0) (f_X10_isSo_104 n z   d) (ix_ck (ix_ix z 20 b_8 (x2 + 1)) (ix_if (d.1 b_8 (ix_n (x2 + 1)) = 1) (f_X10_isSo_104 n z   d) (some (0, d)))))))) (ix_if (x4 = 1) (some (1, d)) (some (0, d)))))) (ix_ck (ix_ok z [9] a0) (ix_bd1 (z.1 a0 5) (fun b_16 => ix_ck (ix_ix z 20 b_16 x5) (ix_lt (x4 + (d.1 b_16 (ix_n x5))) (fun x4_19 => ix_lt (x5 + 1) (fun x5_21 => rec6 x4_19 x5_21 d))))))
noncomputable def f_X10_isSo_6 (n : Nat) (z : ix_Z)  (a0 : Nat) (x1 : Int32) (x2 : Int32) (x3 : Int32) (x4 : Int32) (x5 : Int32) (d : ix_D2) : Option (Int32 × ix_D2) := ix_fix (b_X10_isSo_6 n z  a0 x1 x2 x3) (fun _ _ _ => none) n x4 x5 d
noncomputable def f_X10_isSo (n : Nat) (z : ix_Z) (a0 : Nat) (x1 : Int32) (x2 : Int32) (x3 : Int32) (d : ix_D2) : Option (Int32 × ix_D2) :=
  f_X10_isSo_6 n z  a0 x1 x2 x3 0 x2 d
set_option maxRecDepth 20000 in
theorem t_X10_isSo_104 {l : Launch} {p : Program} {e : Env} {s : State} {m : MethodId} {args : Array Value} {below : List Frame} {meth : Method} {c : Code} {K : ix_Cx} (hKp : ix_Kp K) {n : Nat} {z : ix_Z} (X : ix_X p s m args c K cX10_isSo RX10 6) (hr : meth.sig.returnType = (some .boolean)) (hlk : meth.locks = false)   {r : Int32} {d1 : ix_D2}  {d : ix_D2} (h : f_X10_isSo_104 n z   d = some (r, d1)) : ix_G p l e (ix_rm 0 0 0 0) s m args below meth c (MQ below (ix_Post K (some (.int r)) (ix_w z d1)) args s 0 0 (ix_A K)) K 6 0 0 104 [] [] (ix_w z d) := by
  unfold f_X10_isSo_104 at h
  refine ix_iconst (v := 1) X (ix_tb_at tb_X10_isSo 46 rfl) (by decide) (pc1 := 105) rfl ?_
  refine ix_goto (tgt := 109) X (ix_tb_at tb_X10_isSo 47 rfl) (by decide) ?_
  exact ix_zret X hr hlk (by decide) (ix_r2 (f := fun r => some (.int r)) (g := ix_w z) h) (ix_tb_at tb_X10_isSo 49 rfl)
set_option maxRecDepth 20000 in
theorem tb_X10_isSo_6 {l : Launch} {p : Program} {e : Env} {s : State} {m : MethodId} {args : Array Value} {below : List Frame} {meth : Method} {c : Code} {K : ix_Cx} (hKp : ix_Kp K) {n : Nat} {z : ix_Z} (X : ix_X p s m args c K cX10_isSo RX10 6) (hr : meth.sig.returnType = (some .boolean)) (hlk : meth.locks = false)  {a0 : Nat} {x1 : Int32} {x2 : Int32} {x3 : Int32} {rec6 : Int32 → Int32 → ix_D2 → Option (Int32 × ix_D2)} {r : Int32} {d1 : ix_D2} (hrec6 : ∀ (x4 : Int32) (x5 : Int32) (d : ix_D2), rec6 x4 x5 d = some (r, d1) → ix_G p l e (ix_rm 0 0 0 0) s m args below meth c (MQ below (ix_Post K (some (.int r)) (ix_w z d1)) args s 0 0 (ix_A K)) K 6 0 0 6 [(0, .ref (K.2.2.1 + a0)), (1, .int x1), (2, .int x2), (3, .int x3), (4, .int x4), (5, .int x5)] [] (ix_w z d)) {x4 : Int32} {x5 : Int32} {d : ix_D2} (h : b_X10_isSo_6 n z  a0 x1 x2 x3 rec6 x4 x5 d = some (r, d1)) : ix_G p l e (ix_rm 0 0 0 0) s m args below meth c (MQ below (ix_Post K (some (.int r)) (ix_w z d1)) args s 0 0 (ix_A K)) K 6 0 0 6 [(0, .ref (K.2.2.1 + a0)), (1, .int x1), (2, .int x2), (3, .int x3), (4, .int x4), (5, .int x5)] [] (ix_w z d) := by
  unfold b_X10_isSo_6 at h
  refine ix_iload (i := 5) (j := 5) X (ix_tb_at tb_X10_isSo 4 rfl) rfl (pc1 := 8) rfl ?_
  refine ix_iload_n (i := 2) (j := 2) X (ix_tb_at tb_X10_isSo 5 rfl) rfl rfl (pc1 := 9) rfl ?_
  refine ix_iload_n (i := 3) (j := 3) X (ix_tb_at tb_X10_isSo 6 rfl) rfl rfl (pc1 := 10) rfl ?_
  refine ix_iadd X (ix_tb_at tb_X10_isSo 7 rfl) (pc1 := 11) rfl ?_
  refine ix_icmp_ge (tgt := 32) X (ix_tb_at tb_X10_isSo 8 rfl) (by decide) (pc1 := 14) rfl (fun q_1 => ?_) (fun q_1 => ?_)
  · have h := ix_ift q_1 h
    refine ix_iload_n (i := 1) (j := 1) X (ix_tb_at tb_X10_isSo 18 rfl) rfl rfl (pc1 := 33) rfl ?_
    rcases Classical.em (x1 = 0) with q_2 | q_2
    · have h := ix_ift q_2 h
      refine ix_swin (tgt := 60) X (ix_tb_at tb_X10_isSo 19 rfl) (by rw [q_2]; decide) (by rw [q_2]; decide) (by rw [q_2]; rfl) (by decide) ?_
      refine ix_iload (i := 4) (j := 4) X (ix_tb_at tb_X10_isSo 20 rfl) rfl (pc1 := 62) rfl ?_
      refine ix_iload_n (i := 3) (j := 3) X (ix_tb_at tb_X10_isSo 21 rfl) rfl rfl (pc1 := 63) rfl ?_
      refine ix_icmp_ne (tgt := 70) X (ix_tb_at tb_X10_isSo 22 rfl) (by decide) (pc1 := 66) rfl (fun q_3 => ?_) (fun q_3 => ?_)
      · have h := ix_iff q_3 h
        refine ix_iconst (v := 0) X (ix_tb_at tb_X10_isSo 25 rfl) (by decide) (pc1 := 71) rfl ?_
        exact ix_zret X hr hlk (by decide) (ix_r2 (f := fun r => some (.int r)) (g := ix_w z) h) (ix_tb_at tb_X10_isSo 26 rfl)
      · have h := ix_ift q_3 h
        refine ix_iconst (v := 1) X (ix_tb_at tb_X10_isSo 23 rfl) (by decide) (pc1 := 67) rfl ?_
        refine ix_goto (tgt := 71) X (ix_tb_at tb_X10_isSo 24 rfl) (by decide) ?_
        exact ix_zret X hr hlk (by decide) (ix_r2 (f := fun r => some (.int r)) (g := ix_w z) h) (ix_tb_at tb_X10_isSo 26 rfl)
    · have h := ix_iff q_2 h
      rcases Classical.em (x1 = 1) with q_4 | q_4
      · have h := ix_ift q_4 h
        refine ix_swin (tgt := 72) X (ix_tb_at tb_X10_isSo 19 rfl) (by rw [q_4]; decide) (by rw [q_4]; decide) (by rw [q_4]; rfl) (by decide) ?_
        refine ix_iload (i := 4) (j := 4) X (ix_tb_at tb_X10_isSo 27 rfl) rfl (pc1 := 74) rfl ?_
        refine ix_if_le (tgt := 81) X (ix_tb_at tb_X10_isSo 28 rfl) (by decide) (pc1 := 77) rfl (fun q_5 => ?_) (fun q_5 => ?_)
        · have h := ix_ift q_5 h
          refine ix_iconst (v := 0) X (ix_tb_at tb_X10_isSo 31 rfl) (by decide) (pc1 := 82) rfl ?_
          exact ix_zret X hr hlk (by decide) (ix_r2 (f := fun r => some (.int r)) (g := ix_w z) h) (ix_tb_at tb_X10_isSo 32 rfl)
        · have h := ix_iff q_5 h
          refine ix_iconst (v := 1) X (ix_tb_at tb_X10_isSo 29 rfl) (by decide) (pc1 := 78) rfl ?_
          refine ix_goto (tgt := 82) X (ix_tb_at tb_X10_isSo 30 rfl) (by decide) ?_
          exact ix_zret X hr hlk (by decide) (ix_r2 (f := fun r => some (.int r)) (g := ix_w z) h) (ix_tb_at tb_X10_isSo 32 rfl)
      · have h := ix_iff q_4 h
        rcases Classical.em (x1 = 2) with q_6 | q_6
        · have h := ix_ift q_6 h
          refine ix_swin (tgt := 83) X (ix_tb_at tb_X10_isSo 19 rfl) (by rw [q_6]; decide) (by rw [q_6]; decide) (by rw [q_6]; rfl) (by decide) ?_
          refine ix_aload_n (i := 0) (j := 0) X (ix_tb_at tb_X10_isSo 33 rfl) rfl rfl (pc1 := 84) rfl ?_
          obtain ⟨k_7, h⟩ := ix_ck_some h
          obtain ⟨b_8, q_9, h⟩ := ix_bd1_ex h
          refine iz_getR X fl_RX10_40 k_7 q_9 (ix_tb_at tb_X10_isSo 34 rfl) (pc1 := 87) rfl ?_
          refine ix_iload_n (i := 2) (j := 2) X (ix_tb_at tb_X10_isSo 35 rfl) rfl rfl (pc1 := 88) rfl ?_
          obtain ⟨k_10, h⟩ := ix_ck_some h
          refine iz_iald X k_10 (ix_tb_at tb_X10_isSo 36 rfl) (pc1 := 89) rfl ?_
          refine ix_if_eq (tgt := 104) X (ix_tb_at tb_X10_isSo 37 rfl) (by decide) (pc1 := 92) rfl (fun q_11 => ?_) (fun q_11 => ?_)
          · have h := ix_ift q_11 h
            refine ix_sub (L1 := []) [] rfl ?_
            exact t_X10_isSo_104 hKp X hr hlk  h
          · have h := ix_iff q_11 h
            refine ix_aload_n (i := 0) (j := 0) X (ix_tb_at tb_X10_isSo 38 rfl) rfl rfl (pc1 := 93) rfl ?_
            refine iz_getR X fl_RX10_40 k_7 q_9 (ix_tb_at tb_X10_isSo 39 rfl) (pc1 := 96) rfl ?_
            refine ix_iload_n (i := 2) (j := 2) X (ix_tb_at tb_X10_isSo 40 rfl) rfl rfl (pc1 := 97) rfl ?_
            refine ix_iconst (v := 1) X (ix_tb_at tb_X10_isSo 41 rfl) (by decide) (pc1 := 98) rfl ?_
            refine ix_iadd X (ix_tb_at tb_X10_isSo 42 rfl) (pc1 := 99) rfl ?_
            obtain ⟨k_12, h⟩ := ix_ck_some h
            refine iz_iald X k_12 (ix_tb_at tb_X10_isSo 43 rfl) (pc1 := 100) rfl ?_
            refine ix_iconst (v := 1) X (ix_tb_at tb_X10_isSo 44 rfl) (by decide) (pc1 := 101) rfl ?_
            refine ix_icmp_ne (tgt := 108) X (ix_tb_at tb_X10_isSo 45 rfl) (by decide) (pc1 := 104) rfl (fun q_13 => ?_) (fun q_13 => ?_)
            · have h := ix_iff q_13 h
              refine ix_iconst (v := 0) X (ix_tb_at tb_X10_isSo 48 rfl) (by decide) (pc1 := 109) rfl ?_
              exact ix_zret X hr hlk (by decide) (ix_r2 (f := fun r => some (.int r)) (g := ix_w z) h) (ix_tb_at tb_X10_isSo 49 rfl)
            · have h := ix_ift q_13 h
              refine ix_sub (L1 := []) [] rfl ?_
              exact t_X10_isSo_104 hKp X hr hlk  h
        · have h := ix_iff q_6 h
          refine ix_swout (tgt := 110) X (ix_tb_at tb_X10_isSo 19 rfl) (by have wq_2 := ix_ne (a := 0) (by decide) q_2; have wq_4 := ix_ne (a := 1) (by decide) q_4; have wq_6 := ix_ne (a := 2) (by decide) q_6; omega) (by decide) ?_
          refine ix_iload (i := 4) (j := 4) X (ix_tb_at tb_X10_isSo 50 rfl) rfl (pc1 := 112) rfl ?_
          refine ix_iconst (v := 1) X (ix_tb_at tb_X10_isSo 51 rfl) (by decide) (pc1 := 113) rfl ?_
          refine ix_icmp_ne (tgt := 120) X (ix_tb_at tb_X10_isSo 52 rfl) (by decide) (pc1 := 116) rfl (fun q_14 => ?_) (fun q_14 => ?_)
          · have h := ix_iff q_14 h
            refine ix_iconst (v := 0) X (ix_tb_at tb_X10_isSo 55 rfl) (by decide) (pc1 := 121) rfl ?_
            exact ix_zret X hr hlk (by decide) (ix_r2 (f := fun r => some (.int r)) (g := ix_w z) h) (ix_tb_at tb_X10_isSo 56 rfl)
          · have h := ix_ift q_14 h
            refine ix_iconst (v := 1) X (ix_tb_at tb_X10_isSo 53 rfl) (by decide) (pc1 := 117) rfl ?_
            refine ix_goto (tgt := 121) X (ix_tb_at tb_X10_isSo 54 rfl) (by decide) ?_
            exact ix_zret X hr hlk (by decide) (ix_r2 (f := fun r => some (.int r)) (g := ix_w z) h) (ix_tb_at tb_X10_isSo 56 rfl)
  · have h := ix_iff q_1 h
    refine ix_iload (i := 4) (j := 4) X (ix_tb_at tb_X10_isSo 9 rfl) rfl (pc1 := 16) rfl ?_
    refine ix_aload_n (i := 0) (j := 0) X (ix_tb_at tb_X10_isSo 10 rfl) rfl rfl (pc1 := 17) rfl ?_
    obtain ⟨k_15, h⟩ := ix_ck_some h
    obtain ⟨b_16, q_17, h⟩ := ix_bd1_ex h
    refine iz_getR X fl_RX10_40 k_15 q_17 (ix_tb_at tb_X10_isSo 11 rfl) (pc1 := 20) rfl ?_
    refine ix_iload (i := 5) (j := 5) X (ix_tb_at tb_X10_isSo 12 rfl) rfl (pc1 := 22) rfl ?_
    obtain ⟨k_18, h⟩ := ix_ck_some h
    refine iz_iald X k_18 (ix_tb_at tb_X10_isSo 13 rfl) (pc1 := 23) rfl ?_
    refine ix_iadd X (ix_tb_at tb_X10_isSo 14 rfl) (pc1 := 24) rfl ?_
    obtain ⟨x4_19, e_20, h⟩ := ix_lt_ex h
    refine ix_nmi e_20 ?_
    refine ix_istore (i := 4) (L1 := [(4, .int x4_19), (0, .ref (K.2.2.1 + a0)), (1, .int x1), (2, .int x2), (3, .int x3), (5, .int x5)]) X (ix_tb_at tb_X10_isSo 15 rfl) (Nat.le_of_ble_eq_true rfl) rfl (pc1 := 26) rfl ?_
    obtain ⟨x5_21, e_22, h⟩ := ix_lt_ex h
    refine ix_iinc (i := 5) (j := 5) (v := x5_21) (L1 := [(5, .int x5_21), (4, .int x4_19), (0, .ref (K.2.2.1 + a0)), (1, .int x1), (2, .int x2), (3, .int x3)]) X (ix_tb_at tb_X10_isSo 16 rfl) rfl (by rw [oi_1]; exact e_22.symm) (Nat.le_of_ble_eq_true rfl) rfl (pc1 := 29) rfl ?_
    refine ix_goto (tgt := 6) X (ix_tb_at tb_X10_isSo 17 rfl) (by decide) ?_
    refine ix_sub (L1 := [(0, .ref (K.2.2.1 + a0)), (1, .int x1), (2, .int x2), (3, .int x3), (4, .int x4_19), (5, .int x5_21)]) [2, 3, 4, 5, 1, 0] rfl ?_
    exact hrec6 x4_19 x5_21 d h
theorem t_X10_isSo_6 {l : Launch} {p : Program} {e : Env} {s : State} {m : MethodId} {args : Array Value} {below : List Frame} {meth : Method} {c : Code} {K : ix_Cx} (hKp : ix_Kp K) {n : Nat} {z : ix_Z} (X : ix_X p s m args c K cX10_isSo RX10 6) (hr : meth.sig.returnType = (some .boolean)) (hlk : meth.locks = false)  {a0 : Nat} {x1 : Int32} {x2 : Int32} {x3 : Int32} {r : Int32} {d1 : ix_D2}  {x4 : Int32} {x5 : Int32} {d : ix_D2} (h : f_X10_isSo_6 n z  a0 x1 x2 x3 x4 x5 d = some (r, d1)) : ix_G p l e (ix_rm 0 0 0 0) s m args below meth c (MQ below (ix_Post K (some (.int r)) (ix_w z d1)) args s 0 0 (ix_A K)) K 6 0 0 6 [(0, .ref (K.2.2.1 + a0)), (1, .int x1), (2, .int x2), (3, .int x3), (4, .int x4), (5, .int x5)] [] (ix_w z d) := by
  have key : ∀ (f : Nat) (x4 : Int32) (x5 : Int32) (d : ix_D2), ix_fix (b_X10_isSo_6 n z  a0 x1 x2 x3) (fun _ _ _ => none) f x4 x5 d = some (r, d1) → ix_G p l e (ix_rm 0 0 0 0) s m args below meth c (MQ below (ix_Post K (some (.int r)) (ix_w z d1)) args s 0 0 (ix_A K)) K 6 0 0 6 [(0, .ref (K.2.2.1 + a0)), (1, .int x1), (2, .int x2), (3, .int x3), (4, .int x4), (5, .int x5)] [] (ix_w z d) := by
    intro f
    induction f with
    | zero =>
      intro x4 x5 d h
      have h : (none : Option (Int32 × ix_D2)) = some (r, d1) := h
      cases h
    | succ f ih =>
      intro x4 x5 d h
      exact tb_X10_isSo_6 hKp X hr hlk (rec6 := ix_fix (b_X10_isSo_6 n z  a0 x1 x2 x3) (fun _ _ _ => none) f)  ih h
  exact key n x4 x5 d h
set_option maxRecDepth 20000 in
theorem c_X10_isSo {l : Launch} {K : ix_Cx} (hKp : ix_Kp K) {n : Nat} {z : ix_Z} {a0 : Nat} {x1 : Int32} {x2 : Int32} {x3 : Int32} {d : ix_D2} {r : Int32} {d1 : ix_D2} (h : f_X10_isSo n z a0 x1 x2 x3 d = some (r, d1)) : ix_M l K yX10_isSo cX10_isSo 6 (some .boolean) 0 0 0 0 [.ref (K.2.2.1 + a0), .int x1, .int x2, .int x3] (ix_w z d) (some (.int r)) (ix_w z d1) := by
  refine ix_met mf_X10_isSo hKp (Nat.le_of_ble_eq_true rfl) ?_
  intro p e s m args below meth c hr hlk hnm X
  have X : ix_X p s m args c K cX10_isSo RX10 6 := X
  show ix_G p l e (ix_rm 0 0 0 0) s m args below meth c (MQ below (ix_Post K (some (.int r)) (ix_w z d1)) args s 0 0 (ix_A K)) K 6 0 0 0 [(0, .ref (K.2.2.1 + a0)), (1, .int x1), (2, .int x2), (3, .int x3)] [] (ix_w z d)
  unfold f_X10_isSo at h
  refine ix_iconst (v := 0) X (ix_tb_at tb_X10_isSo 0 rfl) (by decide) (pc1 := 1) rfl ?_
  refine ix_istore (i := 4) (L1 := [(4, .int 0), (0, .ref (K.2.2.1 + a0)), (1, .int x1), (2, .int x2), (3, .int x3)]) X (ix_tb_at tb_X10_isSo 1 rfl) (Nat.le_of_ble_eq_true rfl) rfl (pc1 := 3) rfl ?_
  refine ix_iload_n (i := 2) (j := 3) X (ix_tb_at tb_X10_isSo 2 rfl) rfl rfl (pc1 := 4) rfl ?_
  refine ix_istore (i := 5) (L1 := [(5, .int x2), (4, .int 0), (0, .ref (K.2.2.1 + a0)), (1, .int x1), (2, .int x2), (3, .int x3)]) X (ix_tb_at tb_X10_isSo 3 rfl) (Nat.le_of_ble_eq_true rfl) rfl (pc1 := 6) rfl ?_
  refine ix_sub (L1 := [(0, .ref (K.2.2.1 + a0)), (1, .int x1), (2, .int x2), (3, .int x3), (4, .int 0), (5, .int x2)]) [2, 3, 4, 5, 1, 0] rfl ?_
  exact t_X10_isSo_6 hKp X hr hlk  h
def tab_X10_holds : List (Nat × Instr × Nat) := [(0, .aload_n 2, 1), (1, .bipush 40, 2), (3, .invokevirtual 91, 3), (6, .iconst 0, 1), (7, .istore_n 3, 1), (8, .iconst 0, 1), (9, .istore 4, 2), (11, .iload 4, 2), (13, .aload_n 0, 1), (14, .getfield 39, 3), (17, .arraylength, 1), (18, .if_icmp .ge 108, 3), (21, .aload_n 0, 1), (22, .getfield 39, 3), (25, .iload 4, 2), (27, .iaload, 1), (28, .istore 5, 2), (30, .iload 5, 2), (32, .sipush 10000, 3), (35, .if_icmp .lt 58, 3), (38, .iload 5, 2), (40, .invokestatic 43, 3), (43, .istore 7, 2), (45, .iload_n 3, 1), (46, .iload 7, 2), (48, .isub, 1), (49, .iconst 0, 1), (50, .invokestatic 53, 3), (53, .istore_n 3, 1), (54, .aload_n 0, 1), (55, .iload 5, 2), (57, .invokestatic 59, 3), (60, .iload_n 3, 1), (61, .iload 7, 2), (63, .invokevirtual 94, 3), (66, .iload 5, 2), (68, .bipush 10, 2), (70, .irem, 1), (71, .iconst 1, 1), (72, .if_icmp .ne 7, 3), (75, .iconst 1, 1), (76, .goto 4, 3), (79, .iconst 0, 1), (80, .if_icmp .eq 7, 3), (83, .iconst 1, 1), (84, .goto 4, 3), (87, .iconst 0, 1), (88, .istore 6, 2), (90, .goto 11, 3), (93, .aload_n 1, 1), (94, .iload 5, 2), (96, .invokevirtual 98, 3), (99, .istore 6, 2), (101, .aload_n 0, 1), (102, .getfield 40, 3), (105, .iload_n 3, 1), (106, .iload 6, 2), (108, .ifCond .eq 7, 3), (111, .iconst 1, 1), (112, .goto 4, 3), (115, .iconst 0, 1), (116, .iastore, 1), (117, .iinc 3 1, 3), (120, .iinc 4 1, 3), (123, .goto (-112), 3), (126, .aload_n 0, 1), (127, .getfield 40, 3), (130, .iconst 0, 1), (131, .iaload, 1), (132, .iconst 1, 1), (133, .if_icmp .ne 7, 3), (136, .iconst 1, 1), (137, .goto 4, 3), (140, .iconst 0, 1), (141, .ireturn, 1)]
theorem tb_X10_holds : ix_tab cX10_holds tab_X10_holds := by
  unfold ix_tab
  decide +kernel
noncomputable def f_X10_holds_116 (n : Nat) (z : ix_Z) (rec11 : Int32 → Int32 → ix_D2 → Option (Int32 × ix_D2)) (a0 : Nat) (a1 : Nat) (x3 : Int32) (x4 : Int32) (s0 : Int32) (s1 : Int32) (s2 : Nat) (d : ix_D2) : Option (Int32 × ix_D2) :=
  ix_ck (ix_ix z 20 s2 s1) (ix_lt (ix_di d s2 (ix_n s1) s0) (fun d_26 => ix_lt (x3 + 1) (fun x3_28 => ix_lt (x4 + 1) (fun x4_30 => rec11 x3_28 x4_30 d_26))))
noncomputable def f_X10_holds_101 (n : Nat) (z : ix_Z) (rec11 : Int32 → Int32 → ix_D2 → Option (Int32 × ix_D2)) (a0 : Nat) (a1 : Nat) (x3 : Int32) (x4 : Int32) (x6 : Int32) (d : ix_D2) : Option (Int32 × ix_D2) :=
  ix_ck (ix_ok z [9] a0) (ix_bd1 (z.1 a0 5) (fun b_22 => ix_if (x6 = 0) (f_X10_holds_116 n z rec11 a0 a1 x3 x4 0 x3 b_22 d) (f_X10_holds_116 n z rec11 a0 a1 x3 x4 1 x3 b_22 d)))
noncomputable def f_X10_holds_88 (n : Nat) (z : ix_Z) (rec11 : Int32 → Int32 → ix_D2 → Option (Int32 × ix_D2)) (a0 : Nat) (a1 : Nat) (x3 : Int32) (x4 : Int32) (s0 : Int32) (d : ix_D2) : Option (Int32 × ix_D2) :=
  f_X10_holds_101 n z rec11 a0 a1 x3 x4 s0 d
noncomputable def f_X10_holds_80 (n : Nat) (z : ix_Z) (rec11 : Int32 → Int32 → ix_D2 → Option (Int32 × ix_D2)) (a0 : Nat) (a1 : Nat) (x3 : Int32) (x4 : Int32) (s0 : Int32) (s1 : Int32) (d : ix_D2) : Option (Int32 × ix_D2) :=
  ix_if (s1 = s0) (f_X10_holds_88 n z rec11 a0 a1 x3 x4 0 d) (f_X10_holds_88 n z rec11 a0 a1 x3 x4 1 d)
noncomputable def b_X10_holds_11 (n : Nat) (z : ix_Z)  (a0 : Nat) (a1 : Nat) (rec11 : Int32 → Int32 → ix_D2 → Option (Int32 × ix_D2)) (x3 : Int32) (x4 : Int32) (d : ix_D2) : Option (Int32 × ix_D2) :=
  ix_ck (ix_ok z [9] a0) (ix_bd1 (z.1 a0 4) (fun b_5 => ix_ck (b_5 < z.2.2 ∧ 20 ≤ (z.2.1 b_5).1 ∧ (z.2.1 b_5).1 < 26) (ix_if (nI (z.2.1 b_5).2 ≤ x4) (ix_bd1 (z.1 a0 5) (fun b_9 => ix_ck (ix_ix z 20 b_9 0) (ix_if (d.1 b_9 (ix_n 0) = 1) (some (1, d)) (some (0, d))))) (ix_ck (ix_ix z 20 b_5 x4) (ix_lt (d.1 b_5 (ix_n x4)) (fun x5_14 => ix_if (x5_14 < 10000) (ix_ck (ix_ok z [1] a1) (ix_bd2 (f_X1_isTrue n z a1 x5_14 d) (fun r_20 d_17 => f_X10_holds_101 n z rec11 a0 a1 x3 x4 r_20 d_17))) (ix_bd2 (f_X10_partsOf n z x5_14 d) (fun r_34 d_32 => ix_lt (ix_max (x3 - r_34) 0) (fun x3_35 => ix_bd2 (f_X10_signOf n z x5_14 d_32) (fun r_39 d_37 => ix_bd2 (f_X10_isSo n z a0 r_39 x3_35 r_34 d_37) (fun r_42 d_40 => ix_if (x5_14 - x5_14 / 10 * 10 = 1) (f_X10_holds_80 n z rec11 a0 a1 x3_35 x4 1 r_42 d_40) (f_X10_holds_80 n z rec11 a0 a1 x3_35 x4 0 r_42 d_40))))))))))))
noncomputable def f_X10_holds_11 (n : Nat) (z : ix_Z)  (a0 : Nat) (a1 : Nat) (x3 : Int32) (x4 : Int32) (d : ix_D2) : Option (Int32 × ix_D2) := ix_fix (b_X10_holds_11 n z  a0 a1) (fun _ _ _ => none) n x3 x4 d
noncomputable def f_X10_holds (n : Nat) (z : ix_Z) (a0 : Nat) (a1 : Nat) (a2 : Nat) (d : ix_D2) : Option (Int32 × ix_D2) :=
  ix_ck (ix_ok z [4] a2) (ix_bd1 (f_X4_note n z a2 40 d) (fun d_1 => f_X10_holds_11 n z  a0 a1 0 0 d_1))
set_option maxRecDepth 20000 in
theorem t_X10_holds_116 {l : Launch} {p : Program} {e : Env} {s : State} {m : MethodId} {args : Array Value} {below : List Frame} {meth : Method} {c : Code} {K : ix_Cx} (hKp : ix_Kp K) {n : Nat} {z : ix_Z} (X : ix_X p s m args c K cX10_holds RX10 8) (hr : meth.sig.returnType = (some .boolean)) (hlk : meth.locks = false) {rec11 : Int32 → Int32 → ix_D2 → Option (Int32 × ix_D2)} {a0 : Nat} {a1 : Nat} {x3 : Int32} {x4 : Int32} {s0 : Int32} {s1 : Int32} {s2 : Nat} {r : Int32} {d1 : ix_D2} (hrec11 : ∀ (x3 : Int32) (x4 : Int32) (d : ix_D2), rec11 x3 x4 d = some (r, d1) → ix_G p l e (ix_rm 2 42 0 0) s m args below meth c (MQ below (ix_Post K (some (.int r)) (ix_w z d1)) args s 0 0 (ix_A K)) K 8 0 0 11 [(0, .ref (K.2.2.1 + a0)), (1, .ref (K.2.2.1 + a1)), (3, .int x3), (4, .int x4)] [] (ix_w z d)) {d : ix_D2} (h : f_X10_holds_116 n z rec11 a0 a1 x3 x4 s0 s1 s2 d = some (r, d1)) : ix_G p l e (ix_rm 2 42 0 0) s m args below meth c (MQ below (ix_Post K (some (.int r)) (ix_w z d1)) args s 0 0 (ix_A K)) K 8 0 0 116 [(0, .ref (K.2.2.1 + a0)), (1, .ref (K.2.2.1 + a1)), (3, .int x3), (4, .int x4)] [.int s0, .int s1, .ref (K.2.2.1 + s2)] (ix_w z d) := by
  unfold f_X10_holds_116 at h
  obtain ⟨k_25, h⟩ := ix_ck_some h
  obtain ⟨d_26, e_27, h⟩ := ix_lt_ex h
  refine iz_iast X k_25 (ix_tb_at tb_X10_holds 61 rfl) e_27 (pc1 := 117) rfl ?_
  obtain ⟨x3_28, e_29, h⟩ := ix_lt_ex h
  refine ix_iinc (i := 3) (j := 2) (v := x3_28) (L1 := [(3, .int x3_28), (0, .ref (K.2.2.1 + a0)), (1, .ref (K.2.2.1 + a1)), (4, .int x4)]) X (ix_tb_at tb_X10_holds 62 rfl) rfl (by rw [oi_1]; exact e_29.symm) (Nat.le_of_ble_eq_true rfl) rfl (pc1 := 120) rfl ?_
  obtain ⟨x4_30, e_31, h⟩ := ix_lt_ex h
  refine ix_iinc (i := 4) (j := 3) (v := x4_30) (L1 := [(4, .int x4_30), (3, .int x3_28), (0, .ref (K.2.2.1 + a0)), (1, .ref (K.2.2.1 + a1))]) X (ix_tb_at tb_X10_holds 63 rfl) rfl (by rw [oi_1]; exact e_31.symm) (Nat.le_of_ble_eq_true rfl) rfl (pc1 := 123) rfl ?_
  refine ix_goto (tgt := 11) X (ix_tb_at tb_X10_holds 64 rfl) (by decide) ?_
  refine ix_sub (L1 := [(0, .ref (K.2.2.1 + a0)), (1, .ref (K.2.2.1 + a1)), (3, .int x3_28), (4, .int x4_30)]) [2, 3, 1, 0] rfl ?_
  exact hrec11 x3_28 x4_30 d_26 h
set_option maxRecDepth 20000 in
theorem t_X10_holds_101 {l : Launch} {p : Program} {e : Env} {s : State} {m : MethodId} {args : Array Value} {below : List Frame} {meth : Method} {c : Code} {K : ix_Cx} (hKp : ix_Kp K) {n : Nat} {z : ix_Z} (X : ix_X p s m args c K cX10_holds RX10 8) (hr : meth.sig.returnType = (some .boolean)) (hlk : meth.locks = false) {rec11 : Int32 → Int32 → ix_D2 → Option (Int32 × ix_D2)} {a0 : Nat} {a1 : Nat} {x3 : Int32} {x4 : Int32} {x6 : Int32} {r : Int32} {d1 : ix_D2} (hrec11 : ∀ (x3 : Int32) (x4 : Int32) (d : ix_D2), rec11 x3 x4 d = some (r, d1) → ix_G p l e (ix_rm 2 42 0 0) s m args below meth c (MQ below (ix_Post K (some (.int r)) (ix_w z d1)) args s 0 0 (ix_A K)) K 8 0 0 11 [(0, .ref (K.2.2.1 + a0)), (1, .ref (K.2.2.1 + a1)), (3, .int x3), (4, .int x4)] [] (ix_w z d)) {d : ix_D2} (h : f_X10_holds_101 n z rec11 a0 a1 x3 x4 x6 d = some (r, d1)) : ix_G p l e (ix_rm 2 42 0 0) s m args below meth c (MQ below (ix_Post K (some (.int r)) (ix_w z d1)) args s 0 0 (ix_A K)) K 8 0 0 101 [(0, .ref (K.2.2.1 + a0)), (1, .ref (K.2.2.1 + a1)), (3, .int x3), (4, .int x4), (6, .int x6)] [] (ix_w z d) := by
  unfold f_X10_holds_101 at h
  refine ix_aload_n (i := 0) (j := 0) X (ix_tb_at tb_X10_holds 53 rfl) rfl rfl (pc1 := 102) rfl ?_
  obtain ⟨k_21, h⟩ := ix_ck_some h
  obtain ⟨b_22, q_23, h⟩ := ix_bd1_ex h
  refine iz_getR X fl_RX10_40 k_21 q_23 (ix_tb_at tb_X10_holds 54 rfl) (pc1 := 105) rfl ?_
  refine ix_iload_n (i := 3) (j := 2) X (ix_tb_at tb_X10_holds 55 rfl) rfl rfl (pc1 := 106) rfl ?_
  refine ix_iload (i := 6) (j := 4) X (ix_tb_at tb_X10_holds 56 rfl) rfl (pc1 := 108) rfl ?_
  refine ix_if_eq (tgt := 115) X (ix_tb_at tb_X10_holds 57 rfl) (by decide) (pc1 := 111) rfl (fun q_24 => ?_) (fun q_24 => ?_)
  · have h := ix_ift q_24 h
    refine ix_iconst (v := 0) X (ix_tb_at tb_X10_holds 60 rfl) (by decide) (pc1 := 116) rfl ?_
    refine ix_sub (L1 := [(0, .ref (K.2.2.1 + a0)), (1, .ref (K.2.2.1 + a1)), (3, .int x3), (4, .int x4)]) [0, 1, 2, 3] rfl ?_
    exact t_X10_holds_116 hKp X hr hlk hrec11 h
  · have h := ix_iff q_24 h
    refine ix_iconst (v := 1) X (ix_tb_at tb_X10_holds 58 rfl) (by decide) (pc1 := 112) rfl ?_
    refine ix_goto (tgt := 116) X (ix_tb_at tb_X10_holds 59 rfl) (by decide) ?_
    refine ix_sub (L1 := [(0, .ref (K.2.2.1 + a0)), (1, .ref (K.2.2.1 + a1)), (3, .int x3), (4, .int x4)]) [0, 1, 2, 3] rfl ?_
    exact t_X10_holds_116 hKp X hr hlk hrec11 h
set_option maxRecDepth 20000 in
theorem t_X10_holds_88 {l : Launch} {p : Program} {e : Env} {s : State} {m : MethodId} {args : Array Value} {below : List Frame} {meth : Method} {c : Code} {K : ix_Cx} (hKp : ix_Kp K) {n : Nat} {z : ix_Z} (X : ix_X p s m args c K cX10_holds RX10 8) (hr : meth.sig.returnType = (some .boolean)) (hlk : meth.locks = false) {rec11 : Int32 → Int32 → ix_D2 → Option (Int32 × ix_D2)} {a0 : Nat} {a1 : Nat} {x3 : Int32} {x4 : Int32} {s0 : Int32} {r : Int32} {d1 : ix_D2} (hrec11 : ∀ (x3 : Int32) (x4 : Int32) (d : ix_D2), rec11 x3 x4 d = some (r, d1) → ix_G p l e (ix_rm 2 42 0 0) s m args below meth c (MQ below (ix_Post K (some (.int r)) (ix_w z d1)) args s 0 0 (ix_A K)) K 8 0 0 11 [(0, .ref (K.2.2.1 + a0)), (1, .ref (K.2.2.1 + a1)), (3, .int x3), (4, .int x4)] [] (ix_w z d)) {d : ix_D2} (h : f_X10_holds_88 n z rec11 a0 a1 x3 x4 s0 d = some (r, d1)) : ix_G p l e (ix_rm 2 42 0 0) s m args below meth c (MQ below (ix_Post K (some (.int r)) (ix_w z d1)) args s 0 0 (ix_A K)) K 8 0 0 88 [(0, .ref (K.2.2.1 + a0)), (1, .ref (K.2.2.1 + a1)), (3, .int x3), (4, .int x4)] [.int s0] (ix_w z d) := by
  unfold f_X10_holds_88 at h
  refine ix_istore (i := 6) (L1 := [(6, .int s0), (0, .ref (K.2.2.1 + a0)), (1, .ref (K.2.2.1 + a1)), (3, .int x3), (4, .int x4)]) X (ix_tb_at tb_X10_holds 47 rfl) (Nat.le_of_ble_eq_true rfl) rfl (pc1 := 90) rfl ?_
  refine ix_goto (tgt := 101) X (ix_tb_at tb_X10_holds 48 rfl) (by decide) ?_
  refine ix_sub (L1 := [(0, .ref (K.2.2.1 + a0)), (1, .ref (K.2.2.1 + a1)), (3, .int x3), (4, .int x4), (6, .int s0)]) [1, 2, 3, 4, 0] rfl ?_
  exact t_X10_holds_101 hKp X hr hlk hrec11 h
set_option maxRecDepth 20000 in
theorem t_X10_holds_80 {l : Launch} {p : Program} {e : Env} {s : State} {m : MethodId} {args : Array Value} {below : List Frame} {meth : Method} {c : Code} {K : ix_Cx} (hKp : ix_Kp K) {n : Nat} {z : ix_Z} (X : ix_X p s m args c K cX10_holds RX10 8) (hr : meth.sig.returnType = (some .boolean)) (hlk : meth.locks = false) {rec11 : Int32 → Int32 → ix_D2 → Option (Int32 × ix_D2)} {a0 : Nat} {a1 : Nat} {x3 : Int32} {x4 : Int32} {s0 : Int32} {s1 : Int32} {r : Int32} {d1 : ix_D2} (hrec11 : ∀ (x3 : Int32) (x4 : Int32) (d : ix_D2), rec11 x3 x4 d = some (r, d1) → ix_G p l e (ix_rm 2 42 0 0) s m args below meth c (MQ below (ix_Post K (some (.int r)) (ix_w z d1)) args s 0 0 (ix_A K)) K 8 0 0 11 [(0, .ref (K.2.2.1 + a0)), (1, .ref (K.2.2.1 + a1)), (3, .int x3), (4, .int x4)] [] (ix_w z d)) {d : ix_D2} (h : f_X10_holds_80 n z rec11 a0 a1 x3 x4 s0 s1 d = some (r, d1)) : ix_G p l e (ix_rm 2 42 0 0) s m args below meth c (MQ below (ix_Post K (some (.int r)) (ix_w z d1)) args s 0 0 (ix_A K)) K 8 0 0 80 [(0, .ref (K.2.2.1 + a0)), (1, .ref (K.2.2.1 + a1)), (3, .int x3), (4, .int x4)] [.int s0, .int s1] (ix_w z d) := by
  unfold f_X10_holds_80 at h
  refine ix_icmp_eq (tgt := 87) X (ix_tb_at tb_X10_holds 43 rfl) (by decide) (pc1 := 83) rfl (fun q_44 => ?_) (fun q_44 => ?_)
  · have h := ix_ift q_44 h
    refine ix_iconst (v := 0) X (ix_tb_at tb_X10_holds 46 rfl) (by decide) (pc1 := 88) rfl ?_
    refine ix_sub (L1 := [(0, .ref (K.2.2.1 + a0)), (1, .ref (K.2.2.1 + a1)), (3, .int x3), (4, .int x4)]) [0, 1, 2, 3] rfl ?_
    exact t_X10_holds_88 hKp X hr hlk hrec11 h
  · have h := ix_iff q_44 h
    refine ix_iconst (v := 1) X (ix_tb_at tb_X10_holds 44 rfl) (by decide) (pc1 := 84) rfl ?_
    refine ix_goto (tgt := 88) X (ix_tb_at tb_X10_holds 45 rfl) (by decide) ?_
    refine ix_sub (L1 := [(0, .ref (K.2.2.1 + a0)), (1, .ref (K.2.2.1 + a1)), (3, .int x3), (4, .int x4)]) [0, 1, 2, 3] rfl ?_
    exact t_X10_holds_88 hKp X hr hlk hrec11 h
set_option maxRecDepth 20000 in
theorem tb_X10_holds_11 {l : Launch} {p : Program} {e : Env} {s : State} {m : MethodId} {args : Array Value} {below : List Frame} {meth : Method} {c : Code} {K : ix_Cx} (hKp : ix_Kp K) {n : Nat} {z : ix_Z} (X : ix_X p s m args c K cX10_holds RX10 8) (hr : meth.sig.returnType = (some .boolean)) (hlk : meth.locks = false)  {a0 : Nat} {a1 : Nat} {rec11 : Int32 → Int32 → ix_D2 → Option (Int32 × ix_D2)} {r : Int32} {d1 : ix_D2} (hrec11 : ∀ (x3 : Int32) (x4 : Int32) (d : ix_D2), rec11 x3 x4 d = some (r, d1) → ix_G p l e (ix_rm 2 42 0 0) s m args below meth c (MQ below (ix_Post K (some (.int r)) (ix_w z d1)) args s 0 0 (ix_A K)) K 8 0 0 11 [(0, .ref (K.2.2.1 + a0)), (1, .ref (K.2.2.1 + a1)), (3, .int x3), (4, .int x4)] [] (ix_w z d)) {x3 : Int32} {x4 : Int32} {d : ix_D2} (h : b_X10_holds_11 n z  a0 a1 rec11 x3 x4 d = some (r, d1)) : ix_G p l e (ix_rm 2 42 0 0) s m args below meth c (MQ below (ix_Post K (some (.int r)) (ix_w z d1)) args s 0 0 (ix_A K)) K 8 0 0 11 [(0, .ref (K.2.2.1 + a0)), (1, .ref (K.2.2.1 + a1)), (3, .int x3), (4, .int x4)] [] (ix_w z d) := by
  unfold b_X10_holds_11 at h
  refine ix_iload (i := 4) (j := 3) X (ix_tb_at tb_X10_holds 7 rfl) rfl (pc1 := 13) rfl ?_
  refine ix_aload_n (i := 0) (j := 0) X (ix_tb_at tb_X10_holds 8 rfl) rfl rfl (pc1 := 14) rfl ?_
  obtain ⟨k_4, h⟩ := ix_ck_some h
  obtain ⟨b_5, q_6, h⟩ := ix_bd1_ex h
  refine iz_getR X fl_RX10_39 k_4 q_6 (ix_tb_at tb_X10_holds 9 rfl) (pc1 := 17) rfl ?_
  obtain ⟨k_7, h⟩ := ix_ck_some h
  refine iz_alen X k_7 (ix_tb_at tb_X10_holds 10 rfl) (pc1 := 18) rfl ?_
  refine ix_icmp_ge (tgt := 126) X (ix_tb_at tb_X10_holds 11 rfl) (by decide) (pc1 := 21) rfl (fun q_8 => ?_) (fun q_8 => ?_)
  · have h := ix_ift q_8 h
    refine ix_aload_n (i := 0) (j := 0) X (ix_tb_at tb_X10_holds 65 rfl) rfl rfl (pc1 := 127) rfl ?_
    obtain ⟨b_9, q_10, h⟩ := ix_bd1_ex h
    refine iz_getR X fl_RX10_40 k_4 q_10 (ix_tb_at tb_X10_holds 66 rfl) (pc1 := 130) rfl ?_
    refine ix_iconst (v := 0) X (ix_tb_at tb_X10_holds 67 rfl) (by decide) (pc1 := 131) rfl ?_
    obtain ⟨k_11, h⟩ := ix_ck_some h
    refine iz_iald X k_11 (ix_tb_at tb_X10_holds 68 rfl) (pc1 := 132) rfl ?_
    refine ix_iconst (v := 1) X (ix_tb_at tb_X10_holds 69 rfl) (by decide) (pc1 := 133) rfl ?_
    refine ix_icmp_ne (tgt := 140) X (ix_tb_at tb_X10_holds 70 rfl) (by decide) (pc1 := 136) rfl (fun q_12 => ?_) (fun q_12 => ?_)
    · have h := ix_iff q_12 h
      refine ix_iconst (v := 0) X (ix_tb_at tb_X10_holds 73 rfl) (by decide) (pc1 := 141) rfl ?_
      exact ix_zret X hr hlk (by decide) (ix_r2 (f := fun r => some (.int r)) (g := ix_w z) h) (ix_tb_at tb_X10_holds 74 rfl)
    · have h := ix_ift q_12 h
      refine ix_iconst (v := 1) X (ix_tb_at tb_X10_holds 71 rfl) (by decide) (pc1 := 137) rfl ?_
      refine ix_goto (tgt := 141) X (ix_tb_at tb_X10_holds 72 rfl) (by decide) ?_
      exact ix_zret X hr hlk (by decide) (ix_r2 (f := fun r => some (.int r)) (g := ix_w z) h) (ix_tb_at tb_X10_holds 74 rfl)
  · have h := ix_iff q_8 h
    refine ix_aload_n (i := 0) (j := 0) X (ix_tb_at tb_X10_holds 12 rfl) rfl rfl (pc1 := 22) rfl ?_
    refine iz_getR X fl_RX10_39 k_4 q_6 (ix_tb_at tb_X10_holds 13 rfl) (pc1 := 25) rfl ?_
    refine ix_iload (i := 4) (j := 3) X (ix_tb_at tb_X10_holds 14 rfl) rfl (pc1 := 27) rfl ?_
    obtain ⟨k_13, h⟩ := ix_ck_some h
    refine iz_iald X k_13 (ix_tb_at tb_X10_holds 15 rfl) (pc1 := 28) rfl ?_
    obtain ⟨x5_14, e_15, h⟩ := ix_lt_ex h
    refine ix_nmi e_15 ?_
    refine ix_istore (i := 5) (L1 := [(5, .int x5_14), (0, .ref (K.2.2.1 + a0)), (1, .ref (K.2.2.1 + a1)), (3, .int x3), (4, .int x4)]) X (ix_tb_at tb_X10_holds 16 rfl) (Nat.le_of_ble_eq_true rfl) rfl (pc1 := 30) rfl ?_
    refine ix_iload (i := 5) (j := 0) X (ix_tb_at tb_X10_holds 17 rfl) rfl (pc1 := 32) rfl ?_
    refine ix_sipush (v := 10000) X (ix_tb_at tb_X10_holds 18 rfl) (by decide) (pc1 := 35) rfl ?_
    refine ix_icmp_lt (tgt := 93) X (ix_tb_at tb_X10_holds 19 rfl) (by decide) (pc1 := 38) rfl (fun q_16 => ?_) (fun q_16 => ?_)
    · have h := ix_ift q_16 h
      refine ix_aload_n (i := 1) (j := 2) X (ix_tb_at tb_X10_holds 49 rfl) rfl rfl (pc1 := 94) rfl ?_
      refine ix_iload (i := 5) (j := 0) X (ix_tb_at tb_X10_holds 50 rfl) rfl (pc1 := 96) rfl ?_
      obtain ⟨k_19, h⟩ := ix_ck_some h
      obtain ⟨r_20, d_17, h_18, h⟩ := ix_bd2_ex h
      refine ix_callV (As := [.int x5_14]) (rest := []) (ci := 1) (T := TX1) (nf := 17) X mf_X1_isTrue mi_X1_isTrue ms_X1_isTrue rfl (Nat.le_of_ble_eq_true rfl) ml_RX10_98 ⟨Nat.le_of_ble_eq_true rfl, Nat.le_of_ble_eq_true rfl⟩ ⟨Nat.le_of_ble_eq_true rfl, Nat.le_of_ble_eq_true rfl⟩ rfl (Nat.le_of_ble_eq_true rfl) (ix_tb_at tb_X10_holds 51 rfl) ⟨k_19.1, List.mem_singleton.mp k_19.2⟩ (c_X1_isTrue hKp h_18) rfl (pc1 := 99) rfl ?_
      refine ix_istore (i := 6) (L1 := [(6, .int r_20), (5, .int x5_14), (0, .ref (K.2.2.1 + a0)), (1, .ref (K.2.2.1 + a1)), (3, .int x3), (4, .int x4)]) X (ix_tb_at tb_X10_holds 52 rfl) (Nat.le_of_ble_eq_true rfl) rfl (pc1 := 101) rfl ?_
      refine ix_sub (L1 := [(0, .ref (K.2.2.1 + a0)), (1, .ref (K.2.2.1 + a1)), (3, .int x3), (4, .int x4), (6, .int r_20)]) [2, 3, 4, 5, 0] rfl ?_
      exact t_X10_holds_101 hKp X hr hlk hrec11 h
    · have h := ix_iff q_16 h
      refine ix_iload (i := 5) (j := 0) X (ix_tb_at tb_X10_holds 20 rfl) rfl (pc1 := 40) rfl ?_
      obtain ⟨r_34, d_32, h_33, h⟩ := ix_bd2_ex h
      refine ix_callS (As := [.int x5_14]) (rest := []) X mf_X10_partsOf st_X10_partsOf ml_RX10_43 ⟨Nat.le_of_ble_eq_true rfl, Nat.le_of_ble_eq_true rfl⟩ ⟨Nat.le_of_ble_eq_true rfl, Nat.le_of_ble_eq_true rfl⟩ rfl (Nat.le_of_ble_eq_true rfl) (ix_tb_at tb_X10_holds 21 rfl) (c_X10_partsOf hKp h_33) rfl (pc1 := 43) rfl ?_
      refine ix_istore (i := 7) (L1 := [(7, .int r_34), (5, .int x5_14), (0, .ref (K.2.2.1 + a0)), (1, .ref (K.2.2.1 + a1)), (3, .int x3), (4, .int x4)]) X (ix_tb_at tb_X10_holds 22 rfl) (Nat.le_of_ble_eq_true rfl) rfl (pc1 := 45) rfl ?_
      refine ix_iload_n (i := 3) (j := 4) X (ix_tb_at tb_X10_holds 23 rfl) rfl rfl (pc1 := 46) rfl ?_
      refine ix_iload (i := 7) (j := 0) X (ix_tb_at tb_X10_holds 24 rfl) rfl (pc1 := 48) rfl ?_
      refine ix_isub X (ix_tb_at tb_X10_holds 25 rfl) (pc1 := 49) rfl ?_
      refine ix_iconst (v := 0) X (ix_tb_at tb_X10_holds 26 rfl) (by decide) (pc1 := 50) rfl ?_
      refine ix_mmax X ml_RX10_53 (Nat.le_of_ble_eq_true rfl) (Nat.le_of_ble_eq_true rfl) ⟨Nat.le_of_ble_eq_true rfl, Nat.le_of_ble_eq_true rfl⟩ (ix_tb_at tb_X10_holds 27 rfl) (pc1 := 53) rfl ?_
      obtain ⟨x3_35, e_36, h⟩ := ix_lt_ex h
      refine ix_nmi e_36 ?_
      refine ix_istore_n (i := 3) (L1 := [(3, .int x3_35), (7, .int r_34), (5, .int x5_14), (0, .ref (K.2.2.1 + a0)), (1, .ref (K.2.2.1 + a1)), (4, .int x4)]) X (ix_tb_at tb_X10_holds 28 rfl) rfl (Nat.le_of_ble_eq_true rfl) rfl (pc1 := 54) rfl ?_
      refine ix_aload_n (i := 0) (j := 3) X (ix_tb_at tb_X10_holds 29 rfl) rfl rfl (pc1 := 55) rfl ?_
      refine ix_iload (i := 5) (j := 2) X (ix_tb_at tb_X10_holds 30 rfl) rfl (pc1 := 57) rfl ?_
      obtain ⟨r_39, d_37, h_38, h⟩ := ix_bd2_ex h
      refine ix_callS (As := [.int x5_14]) (rest := [.ref (K.2.2.1 + a0)]) X mf_X10_signOf st_X10_signOf ml_RX10_59 ⟨Nat.le_of_ble_eq_true rfl, Nat.le_of_ble_eq_true rfl⟩ ⟨Nat.le_of_ble_eq_true rfl, Nat.le_of_ble_eq_true rfl⟩ rfl (Nat.le_of_ble_eq_true rfl) (ix_tb_at tb_X10_holds 31 rfl) (c_X10_signOf hKp h_38) rfl (pc1 := 60) rfl ?_
      refine ix_iload_n (i := 3) (j := 0) X (ix_tb_at tb_X10_holds 32 rfl) rfl rfl (pc1 := 61) rfl ?_
      refine ix_iload (i := 7) (j := 1) X (ix_tb_at tb_X10_holds 33 rfl) rfl (pc1 := 63) rfl ?_
      obtain ⟨r_42, d_40, h_41, h⟩ := ix_bd2_ex h
      refine ix_callV (As := [.int r_39, .int x3_35, .int r_34]) (rest := []) (ci := 9) (T := TX10) (nf := 6) X mf_X10_isSo mi_X10_isSo ms_X10_isSo rfl (Nat.le_of_ble_eq_true rfl) ml_RX10_94 ⟨Nat.le_of_ble_eq_true rfl, Nat.le_of_ble_eq_true rfl⟩ ⟨Nat.le_of_ble_eq_true rfl, Nat.le_of_ble_eq_true rfl⟩ rfl (Nat.le_of_ble_eq_true rfl) (ix_tb_at tb_X10_holds 34 rfl) ⟨k_4.1, List.mem_singleton.mp k_4.2⟩ (c_X10_isSo hKp h_41) rfl (pc1 := 66) rfl ?_
      refine ix_iload (i := 5) (j := 2) X (ix_tb_at tb_X10_holds 35 rfl) rfl (pc1 := 68) rfl ?_
      refine ix_bipush (v := 10) X (ix_tb_at tb_X10_holds 36 rfl) (by decide) (pc1 := 70) rfl ?_
      refine ix_irem X (ix_tb_at tb_X10_holds 37 rfl) (by decide) (pc1 := 71) rfl ?_
      refine ix_iconst (v := 1) X (ix_tb_at tb_X10_holds 38 rfl) (by decide) (pc1 := 72) rfl ?_
      refine ix_icmp_ne (tgt := 79) X (ix_tb_at tb_X10_holds 39 rfl) (by decide) (pc1 := 75) rfl (fun q_43 => ?_) (fun q_43 => ?_)
      · have h := ix_iff q_43 h
        refine ix_iconst (v := 0) X (ix_tb_at tb_X10_holds 42 rfl) (by decide) (pc1 := 80) rfl ?_
        refine ix_sub (L1 := [(0, .ref (K.2.2.1 + a0)), (1, .ref (K.2.2.1 + a1)), (3, .int x3_35), (4, .int x4)]) [3, 4, 0, 5] rfl ?_
        exact t_X10_holds_80 hKp X hr hlk hrec11 h
      · have h := ix_ift q_43 h
        refine ix_iconst (v := 1) X (ix_tb_at tb_X10_holds 40 rfl) (by decide) (pc1 := 76) rfl ?_
        refine ix_goto (tgt := 80) X (ix_tb_at tb_X10_holds 41 rfl) (by decide) ?_
        refine ix_sub (L1 := [(0, .ref (K.2.2.1 + a0)), (1, .ref (K.2.2.1 + a1)), (3, .int x3_35), (4, .int x4)]) [3, 4, 0, 5] rfl ?_
        exact t_X10_holds_80 hKp X hr hlk hrec11 h
theorem t_X10_holds_11 {l : Launch} {p : Program} {e : Env} {s : State} {m : MethodId} {args : Array Value} {below : List Frame} {meth : Method} {c : Code} {K : ix_Cx} (hKp : ix_Kp K) {n : Nat} {z : ix_Z} (X : ix_X p s m args c K cX10_holds RX10 8) (hr : meth.sig.returnType = (some .boolean)) (hlk : meth.locks = false)  {a0 : Nat} {a1 : Nat} {r : Int32} {d1 : ix_D2}  {x3 : Int32} {x4 : Int32} {d : ix_D2} (h : f_X10_holds_11 n z  a0 a1 x3 x4 d = some (r, d1)) : ix_G p l e (ix_rm 2 42 0 0) s m args below meth c (MQ below (ix_Post K (some (.int r)) (ix_w z d1)) args s 0 0 (ix_A K)) K 8 0 0 11 [(0, .ref (K.2.2.1 + a0)), (1, .ref (K.2.2.1 + a1)), (3, .int x3), (4, .int x4)] [] (ix_w z d) := by
  have key : ∀ (f : Nat) (x3 : Int32) (x4 : Int32) (d : ix_D2), ix_fix (b_X10_holds_11 n z  a0 a1) (fun _ _ _ => none) f x3 x4 d = some (r, d1) → ix_G p l e (ix_rm 2 42 0 0) s m args below meth c (MQ below (ix_Post K (some (.int r)) (ix_w z d1)) args s 0 0 (ix_A K)) K 8 0 0 11 [(0, .ref (K.2.2.1 + a0)), (1, .ref (K.2.2.1 + a1)), (3, .int x3), (4, .int x4)] [] (ix_w z d) := by
    intro f
    induction f with
    | zero =>
      intro x3 x4 d h
      have h : (none : Option (Int32 × ix_D2)) = some (r, d1) := h
      cases h
    | succ f ih =>
      intro x3 x4 d h
      exact tb_X10_holds_11 hKp X hr hlk (rec11 := ix_fix (b_X10_holds_11 n z  a0 a1) (fun _ _ _ => none) f)  ih h
  exact key n x3 x4 d h
set_option maxRecDepth 20000 in
theorem c_X10_holds {l : Launch} {K : ix_Cx} (hKp : ix_Kp K) {n : Nat} {z : ix_Z} {a0 : Nat} {a1 : Nat} {a2 : Nat} {d : ix_D2} {r : Int32} {d1 : ix_D2} (h : f_X10_holds n z a0 a1 a2 d = some (r, d1)) : ix_M l K yX10_holds cX10_holds 8 (some .boolean) 2 42 0 0 [.ref (K.2.2.1 + a0), .ref (K.2.2.1 + a1), .ref (K.2.2.1 + a2)] (ix_w z d) (some (.int r)) (ix_w z d1) := by
  refine ix_met mf_X10_holds hKp (Nat.le_of_ble_eq_true rfl) ?_
  intro p e s m args below meth c hr hlk hnm X
  have X : ix_X p s m args c K cX10_holds RX10 8 := X
  show ix_G p l e (ix_rm 2 42 0 0) s m args below meth c (MQ below (ix_Post K (some (.int r)) (ix_w z d1)) args s 0 0 (ix_A K)) K 8 0 0 0 [(0, .ref (K.2.2.1 + a0)), (1, .ref (K.2.2.1 + a1)), (2, .ref (K.2.2.1 + a2))] [] (ix_w z d)
  unfold f_X10_holds at h
  refine ix_aload_n (i := 2) (j := 2) X (ix_tb_at tb_X10_holds 0 rfl) rfl rfl (pc1 := 1) rfl ?_
  refine ix_bipush (v := 40) X (ix_tb_at tb_X10_holds 1 rfl) (by decide) (pc1 := 3) rfl ?_
  obtain ⟨k_3, h⟩ := ix_ck_some h
  obtain ⟨d_1, h_2, h⟩ := ix_bd1_ex h
  refine ix_callV (As := [.int 40]) (rest := []) (ci := 4) (T := TX4) (nf := 17) X mf_X4_note mi_X4_note ms_X4_note rfl (Nat.le_of_ble_eq_true rfl) ml_RX10_91 ⟨Nat.le_of_ble_eq_true rfl, Nat.le_of_ble_eq_true rfl⟩ ⟨Nat.le_of_ble_eq_true rfl, Nat.le_of_ble_eq_true rfl⟩ rfl (Nat.le_of_ble_eq_true rfl) (ix_tb_at tb_X10_holds 2 rfl) ⟨k_3.1, List.mem_singleton.mp k_3.2⟩ (c_X4_note hKp h_2) rfl (pc1 := 6) rfl ?_
  refine ix_iconst (v := 0) X (ix_tb_at tb_X10_holds 3 rfl) (by decide) (pc1 := 7) rfl ?_
  refine ix_istore_n (i := 3) (L1 := [(3, .int 0), (0, .ref (K.2.2.1 + a0)), (1, .ref (K.2.2.1 + a1)), (2, .ref (K.2.2.1 + a2))]) X (ix_tb_at tb_X10_holds 4 rfl) rfl (Nat.le_of_ble_eq_true rfl) rfl (pc1 := 8) rfl ?_
  refine ix_iconst (v := 0) X (ix_tb_at tb_X10_holds 5 rfl) (by decide) (pc1 := 9) rfl ?_
  refine ix_istore (i := 4) (L1 := [(4, .int 0), (3, .int 0), (0, .ref (K.2.2.1 + a0)), (1, .ref (K.2.2.1 + a1)), (2, .ref (K.2.2.1 + a2))]) X (ix_tb_at tb_X10_holds 6 rfl) (Nat.le_of_ble_eq_true rfl) rfl (pc1 := 11) rfl ?_
  refine ix_sub (L1 := [(0, .ref (K.2.2.1 + a0)), (1, .ref (K.2.2.1 + a1)), (3, .int 0), (4, .int 0)]) [2, 3, 1, 0] rfl ?_
  exact t_X10_holds_11 hKp X hr hlk  h

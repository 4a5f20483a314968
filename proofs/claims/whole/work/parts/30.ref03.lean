theorem fl_RX12_427 : ix_flb 1593 0 false RX12 427 "ClauseCourtModel" [11] 29 0 = true := by decide +kernel
theorem fl_RX12_71 : ix_flb 1592 0 false RX12 71 "ClauseCourtModel" [11] 28 2 = true := by decide +kernel
theorem mf_X12_wrongToAssume : ix_mf yX12_wrongToAssume cX12_wrongToAssume 4 (some .int) 1 := ⟨ix_wm (i := 2162) (by decide +kernel), ix_wm (i := 8) (by decide +kernel), ⟨by decide +kernel, by decide +kernel⟩, by decide +kernel, by decide +kernel⟩
theorem mi_X12_wrongToAssume : Cond.instanceMethod yX12_wrongToAssume ∈ lw_tbl := ix_wm (i := 2161) (by decide +kernel)
theorem ms_X12_wrongToAssume : Cond.selects yX12_wrongToAssume.cls yX12_wrongToAssume yX12_wrongToAssume ∈ lw_tbl := List.mem_append_left _ (List.mem_of_getElem? (i := 91) (by decide +kernel))
theorem ml_RX12_430 : tables_1[2159]? = some (Cond.methodLink RX12 430 yX12_wrongToAssume) := by decide +kernel
theorem fp_RX12_427 : ix_fpb 1593 0 false RX12 427 "ClauseCourtModel" [11] 29 "I" false = true := by decide +kernel
theorem mf_X12_assume : ix_mf yX12_assume cX12_assume 3 (some .int) 1 := ⟨ix_wm (i := 2158) (by decide +kernel), ix_wm (i := 8) (by decide +kernel), ⟨by decide +kernel, by decide +kernel⟩, by decide +kernel, by decide +kernel⟩
theorem mi_X12_assume : Cond.instanceMethod yX12_assume ∈ lw_tbl := ix_wm (i := 2156) (by decide +kernel)
theorem mf_X12_free : ix_mf yX12_free cX12_free 2 (some .int) 0 := ⟨ix_wm (i := 2166) (by decide +kernel), ix_wm (i := 8) (by decide +kernel), ⟨by decide +kernel, by decide +kernel⟩, by decide +kernel, by decide +kernel⟩
theorem mi_X12_free : Cond.instanceMethod yX12_free ∈ lw_tbl := ix_wm (i := 2164) (by decide +kernel)
theorem mf_X12_isName : ix_mf yX12_isName cX12_isName 2 (some .boolean) 1 := ⟨ix_wm (i := 2174) (by decide +kernel), ix_wm (i := 8) (by decide +kernel), ⟨by decide +kernel, by decide +kernel⟩, by decide +kernel, by decide +kernel⟩
theorem mi_X12_isName : Cond.instanceMethod yX12_isName ∈ lw_tbl := ix_wm (i := 2173) (by decide +kernel)
theorem ms_X12_isName : Cond.selects yX12_isName.cls yX12_isName yX12_isName ∈ lw_tbl := List.mem_append_left _ (List.mem_of_getElem? (i := 92) (by decide +kernel))
theorem ml_RX12_433 : tables_1[2171]? = some (Cond.methodLink RX12 433 yX12_isName) := by decide +kernel
theorem fl_RX12_7 : ix_flb 1566 0 false RX12 7 "ClauseCourtModel" [11] 2 2 = true := by decide +kernel
theorem mf_X12_weight : ix_mf yX12_weight cX12_weight 4 (some .int) 2 := ⟨ix_wm (i := 2170) (by decide +kernel), ix_wm (i := 8) (by decide +kernel), ⟨by decide +kernel, by decide +kernel⟩, by decide +kernel, by decide +kernel⟩
theorem mi_X12_weight : Cond.instanceMethod yX12_weight ∈ lw_tbl := ix_wm (i := 2168) (by decide +kernel)
theorem fl_RX12_116 : ix_flb 1625 0 false RX12 116 "ClauseCourtModel" [11] 61 2 = true := by decide +kernel
theorem fl_RX12_146 : ix_flb 1637 0 false RX12 146 "ClauseCourtModel" [11] 73 2 = true := by decide +kernel
theorem mf_X12_weighs : ix_mf yX12_weighs cX12_weighs 2 (some .long) 1 := ⟨ix_wm (i := 2178) (by decide +kernel), ix_wm (i := 8) (by decide +kernel), ⟨by decide +kernel, by decide +kernel⟩, by decide +kernel, by decide +kernel⟩
theorem mi_X12_weighs : Cond.instanceMethod yX12_weighs ∈ lw_tbl := ix_wm (i := 2176) (by decide +kernel)
theorem fl_RX12_436 : ix_flb 1594 0 false RX12 436 "ClauseCourtModel" [11] 30 0 = true := by decide +kernel
theorem fp_RX12_436 : ix_fpb 1594 0 false RX12 436 "ClauseCourtModel" [11] 30 "I" false = true := by decide +kernel
theorem mf_X12_begin : ix_mf yX12_begin cX12_begin 3 (some .int) 1 := ⟨ix_wm (i := 2182) (by decide +kernel), ix_wm (i := 8) (by decide +kernel), ⟨by decide +kernel, by decide +kernel⟩, by decide +kernel, by decide +kernel⟩
theorem mi_X12_begin : Cond.instanceMethod yX12_begin ∈ lw_tbl := ix_wm (i := 2180) (by decide +kernel)
theorem fl_RX12_439 : ix_flb 1595 0 false RX12 439 "ClauseCourtModel" [11] 31 0 = true := by decide +kernel
theorem fp_RX12_439 : ix_fpb 1595 0 false RX12 439 "ClauseCourtModel" [11] 31 "I" false = true := by decide +kernel
theorem mf_X12_forget : ix_mf yX12_forget cX12_forget 3 (some .int) 1 := ⟨ix_wm (i := 2186) (by decide +kernel), ix_wm (i := 8) (by decide +kernel), ⟨by decide +kernel, by decide +kernel⟩, by decide +kernel, by decide +kernel⟩
theorem mi_X12_forget : Cond.instanceMethod yX12_forget ∈ lw_tbl := ix_wm (i := 2184) (by decide +kernel)
theorem fl_RX12_134 : ix_flb 1633 0 false RX12 134 "ClauseCourtModel" [11] 69 2 = true := by decide +kernel
theorem mf_X12_stateOf : ix_mf yX12_stateOf cX12_stateOf 4 (some .int) 2 := ⟨ix_wm (i := 2226) (by decide +kernel), ix_wm (i := 8) (by decide +kernel), ⟨by decide +kernel, by decide +kernel⟩, by decide +kernel, by decide +kernel⟩
theorem mi_X12_stateOf : Cond.instanceMethod yX12_stateOf ∈ lw_tbl := ix_wm (i := 2225) (by decide +kernel)
theorem ms_X12_stateOf : Cond.selects yX12_stateOf.cls yX12_stateOf yX12_stateOf ∈ lw_tbl := List.mem_append_left _ (List.mem_of_getElem? (i := 100) (by decide +kernel))
theorem ml_RX12_445 : tables_1[2223]? = some (Cond.methodLink RX12 445 yX12_stateOf) := by decide +kernel
theorem fl_RX12_448 : ix_flb 1661 0 false RX12 448 "ClauseCourtModel" [11] 97 0 = true := by decide +kernel
theorem fp_RX12_448 : ix_fpb 1661 0 false RX12 448 "ClauseCourtModel" [11] 97 "I" false = true := by decide +kernel
theorem mf_X12_look : ix_mf yX12_look cX12_look 8 (some .int) 2 := ⟨ix_wm (i := 2222) (by decide +kernel), ix_wm (i := 8) (by decide +kernel), ⟨by decide +kernel, by decide +kernel⟩, by decide +kernel, by decide +kernel⟩
theorem mi_X12_look : Cond.instanceMethod yX12_look ∈ lw_tbl := ix_wm (i := 2221) (by decide +kernel)
theorem ms_X12_look : Cond.selects yX12_look.cls yX12_look yX12_look ∈ lw_tbl := List.mem_append_left _ (List.mem_of_getElem? (i := 99) (by decide +kernel))
theorem ml_RX12_451 : tables_1[2219]? = some (Cond.methodLink RX12 451 yX12_look) := by decide +kernel
theorem fp_RX12_460 : ix_fpb 1662 0 false RX12 460 "ClauseCourtModel" [11] 98 "I" false = true := by decide +kernel
theorem fl_RX12_454 : ix_flb 1663 0 false RX12 454 "ClauseCourtModel" [11] 99 0 = true := by decide +kernel
theorem fp_RX12_454 : ix_fpb 1663 0 false RX12 454 "ClauseCourtModel" [11] 99 "I" false = true := by decide +kernel
theorem fp_RX12_457 : ix_fpb 1664 0 false RX12 457 "ClauseCourtModel" [11] 100 "I" false = true := by decide +kernel
theorem mf_X12_goOver : ix_mf yX12_goOver cX12_goOver 4 (some .boolean) 2 := ⟨ix_wm (i := 2218) (by decide +kernel), ix_wm (i := 8) (by decide +kernel), ⟨by decide +kernel, by decide +kernel⟩, by decide +kernel, by decide +kernel⟩
theorem mi_X12_goOver : Cond.instanceMethod yX12_goOver ∈ lw_tbl := ix_wm (i := 2217) (by decide +kernel)
theorem fl_RX12_119 : ix_flb 1626 0 false RX12 119 "ClauseCourtModel" [11] 62 2 = true := by decide +kernel
theorem fl_RX12_467 : ix_flb 1631 0 false RX12 467 "ClauseCourtModel" [11] 67 0 = true := by decide +kernel
theorem fl_RX12_174 : ix_flb 1646 0 false RX12 174 "ClauseCourtModel" [11] 82 2 = true := by decide +kernel
theorem ms_X12_goOver : Cond.selects yX12_goOver.cls yX12_goOver yX12_goOver ∈ lw_tbl := List.mem_append_left _ (List.mem_of_getElem? (i := 98) (by decide +kernel))
theorem ml_RX12_463 : tables_1[2215]? = some (Cond.methodLink RX12 463 yX12_goOver) := by decide +kernel
theorem fl_RX12_470 : ix_flb 1622 0 false RX12 470 "ClauseCourtModel" [11] 58 0 = true := by decide +kernel
theorem fl_RX12_122 : ix_flb 1627 0 false RX12 122 "ClauseCourtModel" [11] 63 2 = true := by decide +kernel
theorem mf_X12_find : ix_mf yX12_find cX12_find 4 (none : Option Jvm.ClassFile.FieldType) 1 := ⟨ix_wm (i := 2214) (by decide +kernel), ix_wm (i := 8) (by decide +kernel), ⟨by decide +kernel, by decide +kernel⟩, by decide +kernel, by decide +kernel⟩
theorem mi_X12_find : Cond.instanceMethod yX12_find ∈ lw_tbl := ix_wm (i := 2213) (by decide +kernel)
theorem fl_RX12_186 : ix_flb 1650 0 false RX12 186 "ClauseCourtModel" [11] 86 2 = true := by decide +kernel
theorem mf_X12_clearSources : ix_mf yX12_clearSources cX12_clearSources 2 (none : Option Jvm.ClassFile.FieldType) 0 := ⟨ix_wm (i := 2238) (by decide +kernel), ix_wm (i := 8) (by decide +kernel), ⟨by decide +kernel, by decide +kernel⟩, by decide +kernel, by decide +kernel⟩
theorem mi_X12_clearSources : Cond.instanceMethod yX12_clearSources ∈ lw_tbl := ix_wm (i := 2237) (by decide +kernel)
theorem fl_RX12_180 : ix_flb 1648 0 false RX12 180 "ClauseCourtModel" [11] 84 2 = true := by decide +kernel
theorem mf_X12_addSources : ix_mf yX12_addSources cX12_addSources 4 (none : Option Jvm.ClassFile.FieldType) 2 := ⟨ix_wm (i := 2242) (by decide +kernel), ix_wm (i := 8) (by decide +kernel), ⟨by decide +kernel, by decide +kernel⟩, by decide +kernel, by decide +kernel⟩
theorem mi_X12_addSources : Cond.instanceMethod yX12_addSources ∈ lw_tbl := ix_wm (i := 2241) (by decide +kernel)
theorem fl_RX12_183 : ix_flb 1649 0 false RX12 183 "ClauseCourtModel" [11] 85 2 = true := by decide +kernel
theorem mf_X12_addNameSources : ix_mf yX12_addNameSources cX12_addNameSources 4 (none : Option Jvm.ClassFile.FieldType) 2 := ⟨ix_wm (i := 2250) (by decide +kernel), ix_wm (i := 8) (by decide +kernel), ⟨by decide +kernel, by decide +kernel⟩, by decide +kernel, by decide +kernel⟩
theorem mi_X12_addNameSources : Cond.instanceMethod yX12_addNameSources ∈ lw_tbl := ix_wm (i := 2249) (by decide +kernel)
theorem fl_RX12_137 : ix_flb 1634 0 false RX12 137 "ClauseCourtModel" [11] 70 2 = true := by decide +kernel
theorem ms_X12_addNameSources : Cond.selects yX12_addNameSources.cls yX12_addNameSources yX12_addNameSources ∈ lw_tbl := List.mem_append_left _ (List.mem_of_getElem? (i := 106) (by decide +kernel))
theorem ml_RX12_473 : tables_1[2247]? = some (Cond.methodLink RX12 473 yX12_addNameSources) := by decide +kernel
theorem mf_X12_addLowest : ix_mf yX12_addLowest cX12_addLowest 7 (none : Option Jvm.ClassFile.FieldType) 3 := ⟨ix_wm (i := 2246) (by decide +kernel), ix_wm (i := 8) (by decide +kernel), ⟨by decide +kernel, by decide +kernel⟩, by decide +kernel, by decide +kernel⟩
theorem mi_X12_addLowest : Cond.instanceMethod yX12_addLowest ∈ lw_tbl := ix_wm (i := 2245) (by decide +kernel)
theorem fl_RX12_159 : ix_flb 1641 0 false RX12 159 "ClauseCourtModel" [11] 77 2 = true := by decide +kernel
theorem fl_RX12_140 : ix_flb 1635 0 false RX12 140 "ClauseCourtModel" [11] 71 2 = true := by decide +kernel
theorem fl_RX12_153 : ix_flb 1639 0 false RX12 153 "ClauseCourtModel" [11] 75 2 = true := by decide +kernel
theorem fl_RX12_156 : ix_flb 1640 0 false RX12 156 "ClauseCourtModel" [11] 76 2 = true := by decide +kernel
theorem ms_X12_clearSources : Cond.selects yX12_clearSources.cls yX12_clearSources yX12_clearSources ∈ lw_tbl := List.mem_append_left _ (List.mem_of_getElem? (i := 103) (by decide +kernel))
theorem ml_RX12_476 : tables_1[2235]? = some (Cond.methodLink RX12 476 yX12_clearSources) := by decide +kernel
theorem ms_X12_addSources : Cond.selects yX12_addSources.cls yX12_addSources yX12_addSources ∈ lw_tbl := List.mem_append_left _ (List.mem_of_getElem? (i := 104) (by decide +kernel))
theorem ml_RX12_479 : tables_1[2239]? = some (Cond.methodLink RX12 479 yX12_addSources) := by decide +kernel
theorem ms_X12_addLowest : Cond.selects yX12_addLowest.cls yX12_addLowest yX12_addLowest ∈ lw_tbl := List.mem_append_left _ (List.mem_of_getElem? (i := 105) (by decide +kernel))
theorem ml_RX12_482 : tables_1[2243]? = some (Cond.methodLink RX12 482 yX12_addLowest) := by decide +kernel
theorem mf_X12_become : ix_mf yX12_become cX12_become 6 (none : Option Jvm.ClassFile.FieldType) 3 := ⟨ix_wm (i := 2234) (by decide +kernel), ix_wm (i := 8) (by decide +kernel), ⟨by decide +kernel, by decide +kernel⟩, by decide +kernel, by decide +kernel⟩
theorem mi_X12_become : Cond.instanceMethod yX12_become ∈ lw_tbl := ix_wm (i := 2233) (by decide +kernel)
theorem fl_RX12_143 : ix_flb 1636 0 false RX12 143 "ClauseCourtModel" [11] 72 2 = true := by decide +kernel
theorem mf_X12_goBack : ix_mf yX12_goBack cX12_goBack 5 (none : Option Jvm.ClassFile.FieldType) 2 := ⟨ix_wm (i := 2297) (by decide +kernel), ix_wm (i := 8) (by decide +kernel), ⟨by decide +kernel, by decide +kernel⟩, by decide +kernel, by decide +kernel⟩
theorem mi_X12_goBack : Cond.instanceMethod yX12_goBack ∈ lw_tbl := ix_wm (i := 2296) (by decide +kernel)
theorem fl_RX12_128 : ix_flb 1629 0 false RX12 128 "ClauseCourtModel" [11] 65 2 = true := by decide +kernel
theorem fl_RX12_150 : ix_flb 1638 0 false RX12 150 "ClauseCourtModel" [11] 74 2 = true := by decide +kernel
theorem fl_RX12_168 : ix_flb 1644 0 false RX12 168 "ClauseCourtModel" [11] 80 2 = true := by decide +kernel
theorem fl_RX12_189 : ix_flb 1651 0 false RX12 189 "ClauseCourtModel" [11] 87 2 = true := by decide +kernel
theorem fl_RX12_192 : ix_flb 1652 0 false RX12 192 "ClauseCourtModel" [11] 88 2 = true := by decide +kernel
theorem fl_RX12_195 : ix_flb 1654 0 false RX12 195 "ClauseCourtModel" [11] 90 2 = true := by decide +kernel
theorem fp_RX12_442 : ix_fpb 1630 0 false RX12 442 "ClauseCourtModel" [11] 66 "I" false = true := by decide +kernel
theorem fp_RX12_467 : ix_fpb 1631 0 false RX12 467 "ClauseCourtModel" [11] 67 "I" false = true := by decide +kernel
theorem mf_X12_prepare : ix_mf yX12_prepare cX12_prepare 3 (none : Option Jvm.ClassFile.FieldType) 1 := ⟨ix_wm (i := 2197) (by decide +kernel), ix_wm (i := 8) (by decide +kernel), ⟨by decide +kernel, by decide +kernel⟩, by decide +kernel, by decide +kernel⟩
theorem mi_X12_prepare : Cond.instanceMethod yX12_prepare ∈ lw_tbl := ix_wm (i := 2196) (by decide +kernel)
theorem fl_RX12_125 : ix_flb 1628 0 false RX12 125 "ClauseCourtModel" [11] 64 2 = true := by decide +kernel
theorem mf_X12_askAll : ix_mf yX12_askAll cX12_askAll 3 (none : Option Jvm.ClassFile.FieldType) 1 := ⟨ix_wm (i := 2202) (by decide +kernel), ix_wm (i := 8) (by decide +kernel), ⟨by decide +kernel, by decide +kernel⟩, by decide +kernel, by decide +kernel⟩
theorem mi_X12_askAll : Cond.instanceMethod yX12_askAll ∈ lw_tbl := ix_wm (i := 2201) (by decide +kernel)
theorem fl_RX12_490 : ix_flb 1653 0 false RX12 490 "ClauseCourtModel" [11] 89 0 = true := by decide +kernel
theorem fp_RX12_490 : ix_fpb 1653 0 false RX12 490 "ClauseCourtModel" [11] 89 "I" false = true := by decide +kernel
theorem mf_X12_takesStep : ix_mf yX12_takesStep cX12_takesStep 2 (some .boolean) 1 := ⟨ix_wm (i := 2230) (by decide +kernel), ix_wm (i := 8) (by decide +kernel), ⟨by decide +kernel, by decide +kernel⟩, by decide +kernel, by decide +kernel⟩
theorem mi_X12_takesStep : Cond.instanceMethod yX12_takesStep ∈ lw_tbl := ix_wm (i := 2229) (by decide +kernel)
theorem mf_X12_hasRoom : ix_mf yX12_hasRoom cX12_hasRoom 3 (some .boolean) 2 := ⟨ix_wm (i := 2258) (by decide +kernel), ix_wm (i := 8) (by decide +kernel), ⟨by decide +kernel, by decide +kernel⟩, by decide +kernel, by decide +kernel⟩
theorem mi_X12_hasRoom : Cond.instanceMethod yX12_hasRoom ∈ lw_tbl := ix_wm (i := 2257) (by decide +kernel)
theorem fl_RX12_207 : ix_flb 1665 0 false RX12 207 "ClauseCourtModel" [11] 101 2 = true := by decide +kernel
theorem mf_X12_record : ix_mf yX12_record cX12_record 6 (none : Option Jvm.ClassFile.FieldType) 2 := ⟨ix_wm (i := 2262) (by decide +kernel), ix_wm (i := 8) (by decide +kernel), ⟨by decide +kernel, by decide +kernel⟩, by decide +kernel, by decide +kernel⟩
theorem mi_X12_record : Cond.instanceMethod yX12_record ∈ lw_tbl := ix_wm (i := 2261) (by decide +kernel)
theorem fp_RX12_514 : ix_fpb 1658 0 false RX12 514 "ClauseCourtModel" [11] 94 "I" false = true := by decide +kernel
theorem fl_RX12_201 : ix_flb 1657 0 false RX12 201 "ClauseCourtModel" [11] 93 2 = true := by decide +kernel
theorem fl_RX12_514 : ix_flb 1658 0 false RX12 514 "ClauseCourtModel" [11] 94 0 = true := by decide +kernel
theorem mf_X12_keepCore : ix_mf yX12_keepCore cX12_keepCore 3 (none : Option Jvm.ClassFile.FieldType) 1 := ⟨ix_wm (i := 2266) (by decide +kernel), ix_wm (i := 8) (by decide +kernel), ⟨by decide +kernel, by decide +kernel⟩, by decide +kernel, by decide +kernel⟩
theorem mi_X12_keepCore : Cond.instanceMethod yX12_keepCore ∈ lw_tbl := ix_wm (i := 2265) (by decide +kernel)
def tab_X12_wrongToAssume : List (Nat × Instr × Nat) := [(0, .aload_n 0, 1), (1, .iload_n 1, 1), (2, .invokevirtual 295, 3), (5, .istore_n 2, 1), (6, .iconst 0, 1), (7, .istore_n 3, 1), (8, .iload_n 3, 1), (9, .aload_n 0, 1), (10, .getfield 427, 3), (13, .if_icmp .ge 31, 3), (16, .iload_n 2, 1), (17, .ifCond .ne 27, 3), (20, .aload_n 0, 1), (21, .getfield 71, 3), (24, .iload_n 3, 1), (25, .iaload, 1), (26, .iload_n 1, 1), (27, .if_icmp .ne 9, 3), (30, .sipush (-1002), 3), (33, .goto 4, 3), (36, .iconst 0, 1), (37, .istore_n 2, 1), (38, .iinc 3 1, 3), (41, .goto (-33), 3), (44, .iload_n 2, 1), (45, .ifCond .ne 18, 3), (48, .aload_n 0, 1), (49, .getfield 427, 3), (52, .bipush 20, 2), (54, .if_icmp .ne 9, 3), (57, .sipush (-1003), 3), (60, .goto 4, 3), (63, .iload_n 2, 1), (64, .ireturn, 1)]
theorem tb_X12_wrongToAssume : ix_tab cX12_wrongToAssume tab_X12_wrongToAssume := by
  unfold ix_tab
  decide +kernel
noncomputable def f_X12_wrongToAssume_44 (n : Nat) (z : ix_Z)  (a0 : Nat) (x2 : Int32) (d : ix_D2) : Option (Int32 × ix_D2) :=
  ix_if (x2 = 0) (ix_ck (ix_ok z [11] a0) (ix_if (d.1 a0 29 = 20) (some ((-1003), d)) (some (x2, d)))) (some (x2, d))
noncomputable def f_X12_wrongToAssume_37 (n : Nat) (z : ix_Z) (rec8 : Int32 → Int32 → ix_D2 → Option (Int32 × ix_D2)) (a0 : Nat) (x1 : Int32) (x3 : Int32) (s0 : Int32) (d : ix_D2) : Option (Int32 × ix_D2) :=
  ix_lt (x3 + 1) (fun x3_15 => rec8 s0 x3_15 d)
noncomputable def b_X12_wrongToAssume_8 (n : Nat) (z : ix_Z)  (a0 : Nat) (x1 : Int32) (rec8 : Int32 → Int32 → ix_D2 → Option (Int32 × ix_D2)) (x2 : Int32) (x3 : Int32) (d : ix_D2) : Option (Int32 × ix_D2) :=
  ix_ck (ix_ok z [11] a0) (ix_if (d.1 a0 29 ≤ x3) (f_X12_wrongToAssume_44 n z  a0 x2 d) (ix_if (x2 = 0) (ix_bd1 (z.1 a0 28) (fun b_11 => ix_ck (ix_ix z 20 b_11 x3) (ix_if (d.1 b_11 (ix_n x3) = x1) (f_X12_wrongToAssume_37 n z rec8 a0 x1 x3 ((-1002)) d) (f_X12_wrongToAssume_37 n z rec8 a0 x1 x3 0 d)))) (f_X12_wrongToAssume_44 n z  a0 x2 d)))
noncomputable def f_X12_wrongToAssume_8 (n : Nat) (z : ix_Z)  (a0 : Nat) (x1 : Int32) (x2 : Int32) (x3 : Int32) (d : ix_D2) : Option (Int32 × ix_D2) := ix_fix (b_X12_wrongToAssume_8 n z  a0 x1) (fun _ _ _ => none) n x2 x3 d
noncomputable def f_X12_wrongToAssume (n : Nat) (z : ix_Z) (a0 : Nat) (x1 : Int32) (d : ix_D2) : Option (Int32 × ix_D2) :=
  ix_ck (ix_ok z [11] a0) (ix_bd2 (f_X12_wrongItem n z a0 x1 d) (fun r_4 d_1 => f_X12_wrongToAssume_8 n z  a0 x1 r_4 0 d_1))
set_option maxRecDepth 20000 in
theorem t_X12_wrongToAssume_44 {l : Launch} {p : Program} {e : Env} {s : State} {m : MethodId} {args : Array Value} {below : List Frame} {meth : Method} {c : Code} {K : ix_Cx} (hKp : ix_Kp K) {n : Nat} {z : ix_Z} (X : ix_X p s m args c K cX12_wrongToAssume RX12 4) (hr : meth.sig.returnType = (some .int)) (hlk : meth.locks = false)  {a0 : Nat} {x2 : Int32} {r : Int32} {d1 : ix_D2}  {d : ix_D2} (h : f_X12_wrongToAssume_44 n z  a0 x2 d = some (r, d1)) : ix_G p l e (ix_rm 2 41 0 0) s m args below meth c (MQ below (ix_Post K (some (.int r)) (ix_w z d1)) args s 0 0 (ix_A K)) K 4 0 0 44 [(0, .ref (K.2.2.1 + a0)), (2, .int x2)] [] (ix_w z d) := by
  unfold f_X12_wrongToAssume_44 at h
  refine ix_iload_n (i := 2) (j := 1) X (ix_tb_at tb_X12_wrongToAssume 24 rfl) rfl rfl (pc1 := 45) rfl ?_
  refine ix_if_ne (tgt := 63) X (ix_tb_at tb_X12_wrongToAssume 25 rfl) (by decide) (pc1 := 48) rfl (fun q_7 => ?_) (fun q_7 => ?_)
  · have h := ix_iff q_7 h
    refine ix_iload_n (i := 2) (j := 1) X (ix_tb_at tb_X12_wrongToAssume 32 rfl) rfl rfl (pc1 := 64) rfl ?_
    exact ix_iret X hr hlk (ix_r2 (f := fun r => some (.int r)) (g := ix_w z) h) (ix_tb_at tb_X12_wrongToAssume 33 rfl)
  · have h := ix_ift q_7 h
    refine ix_aload_n (i := 0) (j := 0) X (ix_tb_at tb_X12_wrongToAssume 26 rfl) rfl rfl (pc1 := 49) rfl ?_
    obtain ⟨k_8, h⟩ := ix_ck_some h
    refine iz_getI X fl_RX12_427 k_8 (ix_tb_at tb_X12_wrongToAssume 27 rfl) (pc1 := 52) rfl ?_
    refine ix_bipush (v := 20) X (ix_tb_at tb_X12_wrongToAssume 28 rfl) (by decide) (pc1 := 54) rfl ?_
    refine ix_icmp_ne (tgt := 63) X (ix_tb_at tb_X12_wrongToAssume 29 rfl) (by decide) (pc1 := 57) rfl (fun q_9 => ?_) (fun q_9 => ?_)
    · have h := ix_iff q_9 h
      refine ix_iload_n (i := 2) (j := 1) X (ix_tb_at tb_X12_wrongToAssume 32 rfl) rfl rfl (pc1 := 64) rfl ?_
      exact ix_iret X hr hlk (ix_r2 (f := fun r => some (.int r)) (g := ix_w z) h) (ix_tb_at tb_X12_wrongToAssume 33 rfl)
    · have h := ix_ift q_9 h
      refine ix_sipush (v := (-1003)) X (ix_tb_at tb_X12_wrongToAssume 30 rfl) (by decide) (pc1 := 60) rfl ?_
      refine ix_goto (tgt := 64) X (ix_tb_at tb_X12_wrongToAssume 31 rfl) (by decide) ?_
      exact ix_iret X hr hlk (ix_r2 (f := fun r => some (.int r)) (g := ix_w z) h) (ix_tb_at tb_X12_wrongToAssume 33 rfl)
set_option maxRecDepth 20000 in
theorem t_X12_wrongToAssume_37 {l : Launch} {p : Program} {e : Env} {s : State} {m : MethodId} {args : Array Value} {below : List Frame} {meth : Method} {c : Code} {K : ix_Cx} (hKp : ix_Kp K) {n : Nat} {z : ix_Z} (X : ix_X p s m args c K cX12_wrongToAssume RX12 4) (hr : meth.sig.returnType = (some .int)) (hlk : meth.locks = false) {rec8 : Int32 → Int32 → ix_D2 → Option (Int32 × ix_D2)} {a0 : Nat} {x1 : Int32} {x3 : Int32} {s0 : Int32} {r : Int32} {d1 : ix_D2} (hrec8 : ∀ (x2 : Int32) (x3 : Int32) (d : ix_D2), rec8 x2 x3 d = some (r, d1) → ix_G p l e (ix_rm 2 41 0 0) s m args below meth c (MQ below (ix_Post K (some (.int r)) (ix_w z d1)) args s 0 0 (ix_A K)) K 4 0 0 8 [(0, .ref (K.2.2.1 + a0)), (1, .int x1), (2, .int x2), (3, .int x3)] [] (ix_w z d)) {d : ix_D2} (h : f_X12_wrongToAssume_37 n z rec8 a0 x1 x3 s0 d = some (r, d1)) : ix_G p l e (ix_rm 2 41 0 0) s m args below meth c (MQ below (ix_Post K (some (.int r)) (ix_w z d1)) args s 0 0 (ix_A K)) K 4 0 0 37 [(0, .ref (K.2.2.1 + a0)), (1, .int x1), (3, .int x3)] [.int s0] (ix_w z d) := by
  unfold f_X12_wrongToAssume_37 at h
  refine ix_istore_n (i := 2) (L1 := [(2, .int s0), (0, .ref (K.2.2.1 + a0)), (1, .int x1), (3, .int x3)]) X (ix_tb_at tb_X12_wrongToAssume 21 rfl) rfl (Nat.le_of_ble_eq_true rfl) rfl (pc1 := 38) rfl ?_
  obtain ⟨x3_15, e_16, h⟩ := ix_lt_ex h
  refine ix_iinc (i := 3) (j := 3) (v := x3_15) (L1 := [(3, .int x3_15), (2, .int s0), (0, .ref (K.2.2.1 + a0)), (1, .int x1)]) X (ix_tb_at tb_X12_wrongToAssume 22 rfl) rfl (by rw [oi_1]; exact e_16.symm) (Nat.le_of_ble_eq_true rfl) rfl (pc1 := 41) rfl ?_
  refine ix_goto (tgt := 8) X (ix_tb_at tb_X12_wrongToAssume 23 rfl) (by decide) ?_
  refine ix_sub (L1 := [(0, .ref (K.2.2.1 + a0)), (1, .int x1), (2, .int s0), (3, .int x3_15)]) [2, 3, 1, 0] rfl ?_
  exact hrec8 s0 x3_15 d h
set_option maxRecDepth 20000 in
theorem tb_X12_wrongToAssume_8 {l : Launch} {p : Program} {e : Env} {s : State} {m : MethodId} {args : Array Value} {below : List Frame} {meth : Method} {c : Code} {K : ix_Cx} (hKp : ix_Kp K) {n : Nat} {z : ix_Z} (X : ix_X p s m args c K cX12_wrongToAssume RX12 4) (hr : meth.sig.returnType = (some .int)) (hlk : meth.locks = false)  {a0 : Nat} {x1 : Int32} {rec8 : Int32 → Int32 → ix_D2 → Option (Int32 × ix_D2)} {r : Int32} {d1 : ix_D2} (hrec8 : ∀ (x2 : Int32) (x3 : Int32) (d : ix_D2), rec8 x2 x3 d = some (r, d1) → ix_G p l e (ix_rm 2 41 0 0) s m args below meth c (MQ below (ix_Post K (some (.int r)) (ix_w z d1)) args s 0 0 (ix_A K)) K 4 0 0 8 [(0, .ref (K.2.2.1 + a0)), (1, .int x1), (2, .int x2), (3, .int x3)] [] (ix_w z d)) {x2 : Int32} {x3 : Int32} {d : ix_D2} (h : b_X12_wrongToAssume_8 n z  a0 x1 rec8 x2 x3 d = some (r, d1)) : ix_G p l e (ix_rm 2 41 0 0) s m args below meth c (MQ below (ix_Post K (some (.int r)) (ix_w z d1)) args s 0 0 (ix_A K)) K 4 0 0 8 [(0, .ref (K.2.2.1 + a0)), (1, .int x1), (2, .int x2), (3, .int x3)] [] (ix_w z d) := by
  unfold b_X12_wrongToAssume_8 at h
  refine ix_iload_n (i := 3) (j := 3) X (ix_tb_at tb_X12_wrongToAssume 6 rfl) rfl rfl (pc1 := 9) rfl ?_
  refine ix_aload_n (i := 0) (j := 0) X (ix_tb_at tb_X12_wrongToAssume 7 rfl) rfl rfl (pc1 := 10) rfl ?_
  obtain ⟨k_5, h⟩ := ix_ck_some h
  refine iz_getI X fl_RX12_427 k_5 (ix_tb_at tb_X12_wrongToAssume 8 rfl) (pc1 := 13) rfl ?_
  refine ix_icmp_ge (tgt := 44) X (ix_tb_at tb_X12_wrongToAssume 9 rfl) (by decide) (pc1 := 16) rfl (fun q_6 => ?_) (fun q_6 => ?_)
  · have h := ix_ift q_6 h
    refine ix_sub (L1 := [(0, .ref (K.2.2.1 + a0)), (2, .int x2)]) [0, 2] rfl ?_
    exact t_X12_wrongToAssume_44 hKp X hr hlk  h
  · have h := ix_iff q_6 h
    refine ix_iload_n (i := 2) (j := 2) X (ix_tb_at tb_X12_wrongToAssume 10 rfl) rfl rfl (pc1 := 17) rfl ?_
    refine ix_if_ne (tgt := 44) X (ix_tb_at tb_X12_wrongToAssume 11 rfl) (by decide) (pc1 := 20) rfl (fun q_10 => ?_) (fun q_10 => ?_)
    · have h := ix_iff q_10 h
      refine ix_sub (L1 := [(0, .ref (K.2.2.1 + a0)), (2, .int x2)]) [0, 2] rfl ?_
      exact t_X12_wrongToAssume_44 hKp X hr hlk  h
    · have h := ix_ift q_10 h
      refine ix_aload_n (i := 0) (j := 0) X (ix_tb_at tb_X12_wrongToAssume 12 rfl) rfl rfl (pc1 := 21) rfl ?_
      obtain ⟨b_11, q_12, h⟩ := ix_bd1_ex h
      refine iz_getR X fl_RX12_71 k_5 q_12 (ix_tb_at tb_X12_wrongToAssume 13 rfl) (pc1 := 24) rfl ?_
      refine ix_iload_n (i := 3) (j := 3) X (ix_tb_at tb_X12_wrongToAssume 14 rfl) rfl rfl (pc1 := 25) rfl ?_
      obtain ⟨k_13, h⟩ := ix_ck_some h
      refine iz_iald X k_13 (ix_tb_at tb_X12_wrongToAssume 15 rfl) (pc1 := 26) rfl ?_
      refine ix_iload_n (i := 1) (j := 1) X (ix_tb_at tb_X12_wrongToAssume 16 rfl) rfl rfl (pc1 := 27) rfl ?_
      refine ix_icmp_ne (tgt := 36) X (ix_tb_at tb_X12_wrongToAssume 17 rfl) (by decide) (pc1 := 30) rfl (fun q_14 => ?_) (fun q_14 => ?_)
      · have h := ix_iff q_14 h
        refine ix_iconst (v := 0) X (ix_tb_at tb_X12_wrongToAssume 20 rfl) (by decide) (pc1 := 37) rfl ?_
        refine ix_sub (L1 := [(0, .ref (K.2.2.1 + a0)), (1, .int x1), (3, .int x3)]) [0, 1, 3] rfl ?_
        exact t_X12_wrongToAssume_37 hKp X hr hlk hrec8 h
      · have h := ix_ift q_14 h
        refine ix_sipush (v := (-1002)) X (ix_tb_at tb_X12_wrongToAssume 18 rfl) (by decide) (pc1 := 33) rfl ?_
        refine ix_goto (tgt := 37) X (ix_tb_at tb_X12_wrongToAssume 19 rfl) (by decide) ?_
        refine ix_sub (L1 := [(0, .ref (K.2.2.1 + a0)), (1, .int x1), (3, .int x3)]) [0, 1, 3] rfl ?_
        exact t_X12_wrongToAssume_37 hKp X hr hlk hrec8 h
theorem t_X12_wrongToAssume_8 {l : Launch} {p : Program} {e : Env} {s : State} {m : MethodId} {args : Array Value} {below : List Frame} {meth : Method} {c : Code} {K : ix_Cx} (hKp : ix_Kp K) {n : Nat} {z : ix_Z} (X : ix_X p s m args c K cX12_wrongToAssume RX12 4) (hr : meth.sig.returnType = (some .int)) (hlk : meth.locks = false)  {a0 : Nat} {x1 : Int32} {r : Int32} {d1 : ix_D2}  {x2 : Int32} {x3 : Int32} {d : ix_D2} (h : f_X12_wrongToAssume_8 n z  a0 x1 x2 x3 d = some (r, d1)) : ix_G p l e (ix_rm 2 41 0 0) s m args below meth c (MQ below (ix_Post K (some (.int r)) (ix_w z d1)) args s 0 0 (ix_A K)) K 4 0 0 8 [(0, .ref (K.2.2.1 + a0)), (1, .int x1), (2, .int x2), (3, .int x3)] [] (ix_w z d) := by
  have key : ∀ (f : Nat) (x2 : Int32) (x3 : Int32) (d : ix_D2), ix_fix (b_X12_wrongToAssume_8 n z  a0 x1) (fun _ _ _ => none) f x2 x3 d = some (r, d1) → ix_G p l e (ix_rm 2 41 0 0) s m args below meth c (MQ below (ix_Post K (some (.int r)) (ix_w z d1)) args s 0 0 (ix_A K)) K 4 0 0 8 [(0, .ref (K.2.2.1 + a0)), (1, .int x1), (2, .int x2), (3, .int x3)] [] (ix_w z d) := by
    intro f
    induction f with
    | zero =>
      intro x2 x3 d h
      have h : (none : Option (Int32 × ix_D2)) = some (r, d1) := h
      cases h
    | succ f ih =>
      intro x2 x3 d h
      exact tb_X12_wrongToAssume_8 hKp X hr hlk (rec8 := ix_fix (b_X12_wrongToAssume_8 n z  a0 x1) (fun _ _ _ => none) f)  ih h
  exact key n x2 x3 d h
set_option maxRecDepth 20000 in
theorem c_X12_wrongToAssume {l : Launch} {K : ix_Cx} (hKp : ix_Kp K) {n : Nat} {z : ix_Z} {a0 : Nat} {x1 : Int32} {d : ix_D2} {r : Int32} {d1 : ix_D2} (h : f_X12_wrongToAssume n z a0 x1 d = some (r, d1)) : ix_M l K yX12_wrongToAssume cX12_wrongToAssume 4 (some .int) 2 41 0 0 [.ref (K.2.2.1 + a0), .int x1] (ix_w z d) (some (.int r)) (ix_w z d1) := by
  refine ix_met mf_X12_wrongToAssume hKp (Nat.le_of_ble_eq_true rfl) ?_
  intro p e s m args below meth c hr hlk hnm X
  have X : ix_X p s m args c K cX12_wrongToAssume RX12 4 := X
  show ix_G p l e (ix_rm 2 41 0 0) s m args below meth c (MQ below (ix_Post K (some (.int r)) (ix_w z d1)) args s 0 0 (ix_A K)) K 4 0 0 0 [(0, .ref (K.2.2.1 + a0)), (1, .int x1)] [] (ix_w z d)
  unfold f_X12_wrongToAssume at h
  refine ix_aload_n (i := 0) (j := 0) X (ix_tb_at tb_X12_wrongToAssume 0 rfl) rfl rfl (pc1 := 1) rfl ?_
  refine ix_iload_n (i := 1) (j := 1) X (ix_tb_at tb_X12_wrongToAssume 1 rfl) rfl rfl (pc1 := 2) rfl ?_
  obtain ⟨k_3, h⟩ := ix_ck_some h
  obtain ⟨r_4, d_1, h_2, h⟩ := ix_bd2_ex h
  refine ix_callV (As := [.int x1]) (rest := []) (ci := 11) (T := TX12) (nf := 116) X mf_X12_wrongItem mi_X12_wrongItem ms_X12_wrongItem rfl (Nat.le_of_ble_eq_true rfl) ml_RX12_295 ⟨Nat.le_of_ble_eq_true rfl, Nat.le_of_ble_eq_true rfl⟩ ⟨Nat.le_of_ble_eq_true rfl, Nat.le_of_ble_eq_true rfl⟩ rfl (Nat.le_of_ble_eq_true rfl) (ix_tb_at tb_X12_wrongToAssume 2 rfl) ⟨k_3.1, List.mem_singleton.mp k_3.2⟩ (c_X12_wrongItem hKp h_2) rfl (pc1 := 5) rfl ?_
  refine ix_istore_n (i := 2) (L1 := [(2, .int r_4), (0, .ref (K.2.2.1 + a0)), (1, .int x1)]) X (ix_tb_at tb_X12_wrongToAssume 3 rfl) rfl (Nat.le_of_ble_eq_true rfl) rfl (pc1 := 6) rfl ?_
  refine ix_iconst (v := 0) X (ix_tb_at tb_X12_wrongToAssume 4 rfl) (by decide) (pc1 := 7) rfl ?_
  refine ix_istore_n (i := 3) (L1 := [(3, .int 0), (2, .int r_4), (0, .ref (K.2.2.1 + a0)), (1, .int x1)]) X (ix_tb_at tb_X12_wrongToAssume 5 rfl) rfl (Nat.le_of_ble_eq_true rfl) rfl (pc1 := 8) rfl ?_
  refine ix_sub (L1 := [(0, .ref (K.2.2.1 + a0)), (1, .int x1), (2, .int r_4), (3, .int 0)]) [2, 3, 1, 0] rfl ?_
  exact t_X12_wrongToAssume_8 hKp X hr hlk  h
def tab_X12_assume : List (Nat × Instr × Nat) := [(0, .aload_n 0, 1), (1, .iload_n 1, 1), (2, .invokevirtual 430, 3), (5, .istore_n 2, 1), (6, .iload_n 2, 1), (7, .ifCond .ge 9, 3), (10, .aload_n 0, 1), (11, .iload_n 2, 1), (12, .invokevirtual 242, 3), (15, .ireturn, 1), (16, .aload_n 0, 1), (17, .getfield 71, 3), (20, .aload_n 0, 1), (21, .getfield 427, 3), (24, .iload_n 1, 1), (25, .iastore, 1), (26, .aload_n 0, 1), (27, .dup, 1), (28, .getfield 427, 3), (31, .iconst 1, 1), (32, .iadd, 1), (33, .putfield 427, 3), (36, .aload_n 0, 1), (37, .iconst 0, 1), (38, .putfield 249, 3), (41, .aload_n 0, 1), (42, .getfield 427, 3), (45, .ireturn, 1)]
theorem tb_X12_assume : ix_tab cX12_assume tab_X12_assume := by
  unfold ix_tab
  decide +kernel
noncomputable def f_X12_assume (n : Nat) (z : ix_Z) (a0 : Nat) (x1 : Int32) (d : ix_D2) : Option (Int32 × ix_D2) :=
  ix_ck (ix_ok z [11] a0) (ix_bd2 (f_X12_wrongToAssume n z a0 x1 d) (fun r_4 d_1 => ix_if (0 ≤ r_4) (ix_bd1 (z.1 a0 28) (fun b_6 => ix_ck (ix_ix z 20 b_6 (d_1.1 a0 29)) (ix_lt (ix_di d_1 b_6 (ix_n (d_1.1 a0 29)) x1) (fun d_9 => ix_lt (ix_di d_9 a0 29 ((d_9.1 a0 29) + 1)) (fun d_11 => ix_lt (ix_di d_11 a0 57 0) (fun d_13 => some (d_13.1 a0 29, d_13))))))) (ix_bd2 (f_X12_fail n z a0 r_4 d_1) (fun r_17 d_15 => some (r_17, d_15)))))
set_option maxRecDepth 20000 in
theorem c_X12_assume {l : Launch} {K : ix_Cx} (hKp : ix_Kp K) {n : Nat} {z : ix_Z} {a0 : Nat} {x1 : Int32} {d : ix_D2} {r : Int32} {d1 : ix_D2} (h : f_X12_assume n z a0 x1 d = some (r, d1)) : ix_M l K yX12_assume cX12_assume 3 (some .int) 3 64 0 0 [.ref (K.2.2.1 + a0), .int x1] (ix_w z d) (some (.int r)) (ix_w z d1) := by
  refine ix_met mf_X12_assume hKp (Nat.le_of_ble_eq_true rfl) ?_
  intro p e s m args below meth c hr hlk hnm X
  have X : ix_X p s m args c K cX12_assume RX12 3 := X
  show ix_G p l e (ix_rm 3 64 0 0) s m args below meth c (MQ below (ix_Post K (some (.int r)) (ix_w z d1)) args s 0 0 (ix_A K)) K 3 0 0 0 [(0, .ref (K.2.2.1 + a0)), (1, .int x1)] [] (ix_w z d)
  unfold f_X12_assume at h
  refine ix_aload_n (i := 0) (j := 0) X (ix_tb_at tb_X12_assume 0 rfl) rfl rfl (pc1 := 1) rfl ?_
  refine ix_iload_n (i := 1) (j := 1) X (ix_tb_at tb_X12_assume 1 rfl) rfl rfl (pc1 := 2) rfl ?_
  obtain ⟨k_3, h⟩ := ix_ck_some h
  obtain ⟨r_4, d_1, h_2, h⟩ := ix_bd2_ex h
  refine ix_callV (As := [.int x1]) (rest := []) (ci := 11) (T := TX12) (nf := 116) X mf_X12_wrongToAssume mi_X12_wrongToAssume ms_X12_wrongToAssume rfl (Nat.le_of_ble_eq_true rfl) ml_RX12_430 ⟨Nat.le_of_ble_eq_true rfl, Nat.le_of_ble_eq_true rfl⟩ ⟨Nat.le_of_ble_eq_true rfl, Nat.le_of_ble_eq_true rfl⟩ rfl (Nat.le_of_ble_eq_true rfl) (ix_tb_at tb_X12_assume 2 rfl) ⟨k_3.1, List.mem_singleton.mp k_3.2⟩ (c_X12_wrongToAssume hKp h_2) rfl (pc1 := 5) rfl ?_
  refine ix_istore_n (i := 2) (L1 := [(2, .int r_4), (0, .ref (K.2.2.1 + a0)), (1, .int x1)]) X (ix_tb_at tb_X12_assume 3 rfl) rfl (Nat.le_of_ble_eq_true rfl) rfl (pc1 := 6) rfl ?_
  refine ix_iload_n (i := 2) (j := 0) X (ix_tb_at tb_X12_assume 4 rfl) rfl rfl (pc1 := 7) rfl ?_
  refine ix_if_ge (tgt := 16) X (ix_tb_at tb_X12_assume 5 rfl) (by decide) (pc1 := 10) rfl (fun q_5 => ?_) (fun q_5 => ?_)
  · have h := ix_ift q_5 h
    refine ix_aload_n (i := 0) (j := 1) X (ix_tb_at tb_X12_assume 10 rfl) rfl rfl (pc1 := 17) rfl ?_
    obtain ⟨b_6, q_7, h⟩ := ix_bd1_ex h
    refine iz_getR X fl_RX12_71 k_3 q_7 (ix_tb_at tb_X12_assume 11 rfl) (pc1 := 20) rfl ?_
    refine ix_aload_n (i := 0) (j := 1) X (ix_tb_at tb_X12_assume 12 rfl) rfl rfl (pc1 := 21) rfl ?_
    refine iz_getI X fl_RX12_427 k_3 (ix_tb_at tb_X12_assume 13 rfl) (pc1 := 24) rfl ?_
    refine ix_iload_n (i := 1) (j := 2) X (ix_tb_at tb_X12_assume 14 rfl) rfl rfl (pc1 := 25) rfl ?_
    obtain ⟨k_8, h⟩ := ix_ck_some h
    obtain ⟨d_9, e_10, h⟩ := ix_lt_ex h
    refine iz_iast X k_8 (ix_tb_at tb_X12_assume 15 rfl) e_10 (pc1 := 26) rfl ?_
    refine ix_aload_n (i := 0) (j := 1) X (ix_tb_at tb_X12_assume 16 rfl) rfl rfl (pc1 := 27) rfl ?_
    refine ix_dup X (ix_tb_at tb_X12_assume 17 rfl) rfl (pc1 := 28) rfl ?_
    refine iz_getI X fl_RX12_427 k_3 (ix_tb_at tb_X12_assume 18 rfl) (pc1 := 31) rfl ?_
    refine ix_iconst (v := 1) X (ix_tb_at tb_X12_assume 19 rfl) (by decide) (pc1 := 32) rfl ?_
    refine ix_iadd X (ix_tb_at tb_X12_assume 20 rfl) (pc1 := 33) rfl ?_
    obtain ⟨d_11, e_12, h⟩ := ix_lt_ex h
    refine iz_putI X fp_RX12_427 k_3 (ix_tb_at tb_X12_assume 21 rfl) e_12 (pc1 := 36) rfl ?_
    refine ix_aload_n (i := 0) (j := 1) X (ix_tb_at tb_X12_assume 22 rfl) rfl rfl (pc1 := 37) rfl ?_
    refine ix_iconst (v := 0) X (ix_tb_at tb_X12_assume 23 rfl) (by decide) (pc1 := 38) rfl ?_
    obtain ⟨d_13, e_14, h⟩ := ix_lt_ex h
    refine iz_putZ X fp_RX12_249 k_3 (ix_tb_at tb_X12_assume 24 rfl) (by decide) e_14 (pc1 := 41) rfl ?_
    refine ix_aload_n (i := 0) (j := 1) X (ix_tb_at tb_X12_assume 25 rfl) rfl rfl (pc1 := 42) rfl ?_
    refine iz_getI X fl_RX12_427 k_3 (ix_tb_at tb_X12_assume 26 rfl) (pc1 := 45) rfl ?_
    exact ix_iret X hr hlk (ix_r2 (f := fun r => some (.int r)) (g := ix_w z) h) (ix_tb_at tb_X12_assume 27 rfl)
  · have h := ix_iff q_5 h
    refine ix_aload_n (i := 0) (j := 1) X (ix_tb_at tb_X12_assume 6 rfl) rfl rfl (pc1 := 11) rfl ?_
    refine ix_iload_n (i := 2) (j := 0) X (ix_tb_at tb_X12_assume 7 rfl) rfl rfl (pc1 := 12) rfl ?_
    obtain ⟨r_17, d_15, h_16, h⟩ := ix_bd2_ex h
    refine ix_callV (As := [.int r_4]) (rest := []) (ci := 11) (T := TX12) (nf := 116) X mf_X12_fail mi_X12_fail ms_X12_fail rfl (Nat.le_of_ble_eq_true rfl) ml_RX12_242 ⟨Nat.le_of_ble_eq_true rfl, Nat.le_of_ble_eq_true rfl⟩ ⟨Nat.le_of_ble_eq_true rfl, Nat.le_of_ble_eq_true rfl⟩ rfl (Nat.le_of_ble_eq_true rfl) (ix_tb_at tb_X12_assume 8 rfl) ⟨k_3.1, List.mem_singleton.mp k_3.2⟩ (c_X12_fail hKp h_16) rfl (pc1 := 15) rfl ?_
    exact ix_iret X hr hlk (ix_r2 (f := fun r => some (.int r)) (g := ix_w z) h) (ix_tb_at tb_X12_assume 9 rfl)
def tab_X12_free : List (Nat × Instr × Nat) := [(0, .aload_n 0, 1), (1, .getfield 427, 3), (4, .istore_n 1, 1), (5, .aload_n 0, 1), (6, .iconst 0, 1), (7, .putfield 427, 3), (10, .aload_n 0, 1), (11, .iconst 0, 1), (12, .putfield 249, 3), (15, .iload_n 1, 1), (16, .ireturn, 1)]
theorem tb_X12_free : ix_tab cX12_free tab_X12_free := by
  unfold ix_tab
  decide +kernel
noncomputable def f_X12_free (n : Nat) (z : ix_Z) (a0 : Nat) (d : ix_D2) : Option (Int32 × ix_D2) :=
  ix_ck (ix_ok z [11] a0) (ix_lt (d.1 a0 29) (fun x1_2 => ix_lt (ix_di d a0 29 0) (fun d_4 => ix_lt (ix_di d_4 a0 57 0) (fun d_6 => some (x1_2, d_6)))))
set_option maxRecDepth 20000 in
theorem c_X12_free {l : Launch} {K : ix_Cx} (hKp : ix_Kp K) {n : Nat} {z : ix_Z} {a0 : Nat} {d : ix_D2} {r : Int32} {d1 : ix_D2} (h : f_X12_free n z a0 d = some (r, d1)) : ix_M l K yX12_free cX12_free 2 (some .int) 0 0 0 0 [.ref (K.2.2.1 + a0)] (ix_w z d) (some (.int r)) (ix_w z d1) := by
  refine ix_met mf_X12_free hKp (Nat.le_of_ble_eq_true rfl) ?_
  intro p e s m args below meth c hr hlk hnm X
  have X : ix_X p s m args c K cX12_free RX12 2 := X
  show ix_G p l e (ix_rm 0 0 0 0) s m args below meth c (MQ below (ix_Post K (some (.int r)) (ix_w z d1)) args s 0 0 (ix_A K)) K 2 0 0 0 [(0, .ref (K.2.2.1 + a0))] [] (ix_w z d)
  unfold f_X12_free at h
  refine ix_aload_n (i := 0) (j := 0) X (ix_tb_at tb_X12_free 0 rfl) rfl rfl (pc1 := 1) rfl ?_
  obtain ⟨k_1, h⟩ := ix_ck_some h
  refine iz_getI X fl_RX12_427 k_1 (ix_tb_at tb_X12_free 1 rfl) (pc1 := 4) rfl ?_
  obtain ⟨x1_2, e_3, h⟩ := ix_lt_ex h
  refine ix_nmi e_3 ?_
  refine ix_istore_n (i := 1) (L1 := [(1, .int x1_2), (0, .ref (K.2.2.1 + a0))]) X (ix_tb_at tb_X12_free 2 rfl) rfl (Nat.le_of_ble_eq_true rfl) rfl (pc1 := 5) rfl ?_
  refine ix_aload_n (i := 0) (j := 1) X (ix_tb_at tb_X12_free 3 rfl) rfl rfl (pc1 := 6) rfl ?_
  refine ix_iconst (v := 0) X (ix_tb_at tb_X12_free 4 rfl) (by decide) (pc1 := 7) rfl ?_
  obtain ⟨d_4, e_5, h⟩ := ix_lt_ex h
  refine iz_putI X fp_RX12_427 k_1 (ix_tb_at tb_X12_free 5 rfl) e_5 (pc1 := 10) rfl ?_
  refine ix_aload_n (i := 0) (j := 1) X (ix_tb_at tb_X12_free 6 rfl) rfl rfl (pc1 := 11) rfl ?_
  refine ix_iconst (v := 0) X (ix_tb_at tb_X12_free 7 rfl) (by decide) (pc1 := 12) rfl ?_
  obtain ⟨d_6, e_7, h⟩ := ix_lt_ex h
  refine iz_putZ X fp_RX12_249 k_1 (ix_tb_at tb_X12_free 8 rfl) (by decide) e_7 (pc1 := 15) rfl ?_
  refine ix_iload_n (i := 1) (j := 0) X (ix_tb_at tb_X12_free 9 rfl) rfl rfl (pc1 := 16) rfl ?_
  exact ix_iret X hr hlk (ix_r2 (f := fun r => some (.int r)) (g := ix_w z) h) (ix_tb_at tb_X12_free 10 rfl)
def tab_X12_isName : List (Nat × Instr × Nat) := [(0, .iload_n 1, 1), (1, .iconst 1, 1), (2, .aload_n 0, 1), (3, .getfield 246, 3), (6, .invokestatic 238, 3), (9, .ireturn, 1)]
theorem tb_X12_isName : ix_tab cX12_isName tab_X12_isName := by
  unfold ix_tab
  decide +kernel
noncomputable def f_X12_isName (n : Nat) (z : ix_Z) (a0 : Nat) (x1 : Int32) (d : ix_D2) : Option (Int32 × ix_D2) :=
  ix_ck (ix_ok z [11] a0) (ix_bd2 (f_X12_in n z x1 1 (d.1 a0 1) d) (fun r_4 d_2 => ix_ck (r_4 = 0 ∨ r_4 = 1) (some (r_4, d_2))))
set_option maxRecDepth 20000 in
theorem c_X12_isName {l : Launch} {K : ix_Cx} (hKp : ix_Kp K) {n : Nat} {z : ix_Z} {a0 : Nat} {x1 : Int32} {d : ix_D2} {r : Int32} {d1 : ix_D2} (h : f_X12_isName n z a0 x1 d = some (r, d1)) : ix_M l K yX12_isName cX12_isName 2 (some .boolean) 1 22 0 0 [.ref (K.2.2.1 + a0), .int x1] (ix_w z d) (some (.int r)) (ix_w z d1) := by
  refine ix_met mf_X12_isName hKp (Nat.le_of_ble_eq_true rfl) ?_
  intro p e s m args below meth c hr hlk hnm X
  have X : ix_X p s m args c K cX12_isName RX12 2 := X
  show ix_G p l e (ix_rm 1 22 0 0) s m args below meth c (MQ below (ix_Post K (some (.int r)) (ix_w z d1)) args s 0 0 (ix_A K)) K 2 0 0 0 [(0, .ref (K.2.2.1 + a0)), (1, .int x1)] [] (ix_w z d)
  unfold f_X12_isName at h
  refine ix_iload_n (i := 1) (j := 1) X (ix_tb_at tb_X12_isName 0 rfl) rfl rfl (pc1 := 1) rfl ?_
  refine ix_iconst (v := 1) X (ix_tb_at tb_X12_isName 1 rfl) (by decide) (pc1 := 2) rfl ?_
  refine ix_aload_n (i := 0) (j := 0) X (ix_tb_at tb_X12_isName 2 rfl) rfl rfl (pc1 := 3) rfl ?_
  obtain ⟨k_1, h⟩ := ix_ck_some h
  refine iz_getI X fl_RX12_246 k_1 (ix_tb_at tb_X12_isName 3 rfl) (pc1 := 6) rfl ?_
  obtain ⟨r_4, d_2, h_3, h⟩ := ix_bd2_ex h
  refine ix_callS (As := [.int x1, .int 1, .int (d.1 a0 1)]) (rest := []) X mf_X12_in st_X12_in ml_RX12_238 ⟨Nat.le_of_ble_eq_true rfl, Nat.le_of_ble_eq_true rfl⟩ ⟨Nat.le_of_ble_eq_true rfl, Nat.le_of_ble_eq_true rfl⟩ rfl (Nat.le_of_ble_eq_true rfl) (ix_tb_at tb_X12_isName 4 rfl) (c_X12_in hKp h_3) rfl (pc1 := 9) rfl ?_
  obtain ⟨k_5, h⟩ := ix_ck_some h
  exact ix_zret X hr hlk k_5 (ix_r2 (f := fun r => some (.int r)) (g := ix_w z) h) (ix_tb_at tb_X12_isName 5 rfl)
def tab_X12_weight : List (Nat × Instr × Nat) := [(0, .aload_n 0, 1), (1, .iload_n 1, 1), (2, .invokevirtual 433, 3), (5, .ifCond .eq 14, 3), (8, .iload_n 2, 1), (9, .iconst 0, 1), (10, .sipush 1000, 3), (13, .invokestatic 238, 3), (16, .ifCond .ne 11, 3), (19, .aload_n 0, 1), (20, .sipush (-1001), 3), (23, .invokevirtual 242, 3), (26, .ireturn, 1), (27, .aload_n 0, 1), (28, .getfield 7, 3), (31, .iload_n 1, 1), (32, .iaload, 1), (33, .istore_n 3, 1), (34, .aload_n 0, 1), (35, .getfield 7, 3), (38, .iload_n 1, 1), (39, .iload_n 2, 1), (40, .iastore, 1), (41, .aload_n 0, 1), (42, .iconst 0, 1), (43, .putfield 249, 3), (46, .iload_n 3, 1), (47, .ireturn, 1)]
theorem tb_X12_weight : ix_tab cX12_weight tab_X12_weight := by
  unfold ix_tab
  decide +kernel
noncomputable def f_X12_weight_19 (n : Nat) (z : ix_Z)  (a0 : Nat) (d : ix_D2) : Option (Int32 × ix_D2) :=
  ix_ck (ix_ok z [11] a0) (ix_bd2 (f_X12_fail n z a0 ((-1001)) d) (fun r_9 d_6 => some (r_9, d_6)))
noncomputable def f_X12_weight (n : Nat) (z : ix_Z) (a0 : Nat) (x1 : Int32) (x2 : Int32) (d : ix_D2) : Option (Int32 × ix_D2) :=
  ix_ck (ix_ok z [11] a0) (ix_bd2 (f_X12_isName n z a0 x1 d) (fun r_4 d_1 => ix_if (r_4 = 0) (f_X12_weight_19 n z  a0 d_1) (ix_bd2 (f_X12_in n z x2 0 1000 d_1) (fun r_12 d_10 => ix_if (r_12 = 0) (f_X12_weight_19 n z  a0 d_10) (ix_bd1 (z.1 a0 2) (fun b_14 => ix_ck (ix_ix z 20 b_14 x1) (ix_lt (d_10.1 b_14 (ix_n x1)) (fun x3_17 => ix_lt (ix_di d_10 b_14 (ix_n x1) x2) (fun d_19 => ix_lt (ix_di d_19 a0 57 0) (fun d_21 => some (x3_17, d_21)))))))))))
set_option maxRecDepth 20000 in
theorem t_X12_weight_19 {l : Launch} {p : Program} {e : Env} {s : State} {m : MethodId} {args : Array Value} {below : List Frame} {meth : Method} {c : Code} {K : ix_Cx} (hKp : ix_Kp K) {n : Nat} {z : ix_Z} (X : ix_X p s m args c K cX12_weight RX12 4) (hr : meth.sig.returnType = (some .int)) (hlk : meth.locks = false)  {a0 : Nat} {r : Int32} {d1 : ix_D2}  {d : ix_D2} (h : f_X12_weight_19 n z  a0 d = some (r, d1)) : ix_G p l e (ix_rm 2 43 0 0) s m args below meth c (MQ below (ix_Post K (some (.int r)) (ix_w z d1)) args s 0 0 (ix_A K)) K 4 0 0 19 [(0, .ref (K.2.2.1 + a0))] [] (ix_w z d) := by
  unfold f_X12_weight_19 at h
  refine ix_aload_n (i := 0) (j := 0) X (ix_tb_at tb_X12_weight 9 rfl) rfl rfl (pc1 := 20) rfl ?_
  refine ix_sipush (v := (-1001)) X (ix_tb_at tb_X12_weight 10 rfl) (by decide) (pc1 := 23) rfl ?_
  obtain ⟨k_8, h⟩ := ix_ck_some h
  obtain ⟨r_9, d_6, h_7, h⟩ := ix_bd2_ex h
  refine ix_callV (As := [.int ((-1001))]) (rest := []) (ci := 11) (T := TX12) (nf := 116) X mf_X12_fail mi_X12_fail ms_X12_fail rfl (Nat.le_of_ble_eq_true rfl) ml_RX12_242 ⟨Nat.le_of_ble_eq_true rfl, Nat.le_of_ble_eq_true rfl⟩ ⟨Nat.le_of_ble_eq_true rfl, Nat.le_of_ble_eq_true rfl⟩ rfl (Nat.le_of_ble_eq_true rfl) (ix_tb_at tb_X12_weight 11 rfl) ⟨k_8.1, List.mem_singleton.mp k_8.2⟩ (c_X12_fail hKp h_7) rfl (pc1 := 26) rfl ?_
  exact ix_iret X hr hlk (ix_r2 (f := fun r => some (.int r)) (g := ix_w z) h) (ix_tb_at tb_X12_weight 12 rfl)
set_option maxRecDepth 20000 in
theorem c_X12_weight {l : Launch} {K : ix_Cx} (hKp : ix_Kp K) {n : Nat} {z : ix_Z} {a0 : Nat} {x1 : Int32} {x2 : Int32} {d : ix_D2} {r : Int32} {d1 : ix_D2} (h : f_X12_weight n z a0 x1 x2 d = some (r, d1)) : ix_M l K yX12_weight cX12_weight 4 (some .int) 2 43 0 0 [.ref (K.2.2.1 + a0), .int x1, .int x2] (ix_w z d) (some (.int r)) (ix_w z d1) := by
  refine ix_met mf_X12_weight hKp (Nat.le_of_ble_eq_true rfl) ?_
  intro p e s m args below meth c hr hlk hnm X
  have X : ix_X p s m args c K cX12_weight RX12 4 := X
  show ix_G p l e (ix_rm 2 43 0 0) s m args below meth c (MQ below (ix_Post K (some (.int r)) (ix_w z d1)) args s 0 0 (ix_A K)) K 4 0 0 0 [(0, .ref (K.2.2.1 + a0)), (1, .int x1), (2, .int x2)] [] (ix_w z d)
  unfold f_X12_weight at h
  refine ix_aload_n (i := 0) (j := 0) X (ix_tb_at tb_X12_weight 0 rfl) rfl rfl (pc1 := 1) rfl ?_
  refine ix_iload_n (i := 1) (j := 1) X (ix_tb_at tb_X12_weight 1 rfl) rfl rfl (pc1 := 2) rfl ?_
  obtain ⟨k_3, h⟩ := ix_ck_some h
  obtain ⟨r_4, d_1, h_2, h⟩ := ix_bd2_ex h
  refine ix_callV (As := [.int x1]) (rest := []) (ci := 11) (T := TX12) (nf := 116) X mf_X12_isName mi_X12_isName ms_X12_isName rfl (Nat.le_of_ble_eq_true rfl) ml_RX12_433 ⟨Nat.le_of_ble_eq_true rfl, Nat.le_of_ble_eq_true rfl⟩ ⟨Nat.le_of_ble_eq_true rfl, Nat.le_of_ble_eq_true rfl⟩ rfl (Nat.le_of_ble_eq_true rfl) (ix_tb_at tb_X12_weight 2 rfl) ⟨k_3.1, List.mem_singleton.mp k_3.2⟩ (c_X12_isName hKp h_2) rfl (pc1 := 5) rfl ?_
  refine ix_if_eq (tgt := 19) X (ix_tb_at tb_X12_weight 3 rfl) (by decide) (pc1 := 8) rfl (fun q_5 => ?_) (fun q_5 => ?_)
  · have h := ix_ift q_5 h
    refine ix_sub (L1 := [(0, .ref (K.2.2.1 + a0))]) [0] rfl ?_
    exact t_X12_weight_19 hKp X hr hlk  h
  · have h := ix_iff q_5 h
    refine ix_iload_n (i := 2) (j := 2) X (ix_tb_at tb_X12_weight 4 rfl) rfl rfl (pc1 := 9) rfl ?_
    refine ix_iconst (v := 0) X (ix_tb_at tb_X12_weight 5 rfl) (by decide) (pc1 := 10) rfl ?_
    refine ix_sipush (v := 1000) X (ix_tb_at tb_X12_weight 6 rfl) (by decide) (pc1 := 13) rfl ?_
    obtain ⟨r_12, d_10, h_11, h⟩ := ix_bd2_ex h
    refine ix_callS (As := [.int x2, .int 0, .int 1000]) (rest := []) X mf_X12_in st_X12_in ml_RX12_238 ⟨Nat.le_of_ble_eq_true rfl, Nat.le_of_ble_eq_true rfl⟩ ⟨Nat.le_of_ble_eq_true rfl, Nat.le_of_ble_eq_true rfl⟩ rfl (Nat.le_of_ble_eq_true rfl) (ix_tb_at tb_X12_weight 7 rfl) (c_X12_in hKp h_11) rfl (pc1 := 16) rfl ?_
    refine ix_if_ne (tgt := 27) X (ix_tb_at tb_X12_weight 8 rfl) (by decide) (pc1 := 19) rfl (fun q_13 => ?_) (fun q_13 => ?_)
    · have h := ix_iff q_13 h
      refine ix_aload_n (i := 0) (j := 0) X (ix_tb_at tb_X12_weight 13 rfl) rfl rfl (pc1 := 28) rfl ?_
      obtain ⟨b_14, q_15, h⟩ := ix_bd1_ex h
      refine iz_getR X fl_RX12_7 k_3 q_15 (ix_tb_at tb_X12_weight 14 rfl) (pc1 := 31) rfl ?_
      refine ix_iload_n (i := 1) (j := 1) X (ix_tb_at tb_X12_weight 15 rfl) rfl rfl (pc1 := 32) rfl ?_
      obtain ⟨k_16, h⟩ := ix_ck_some h
      refine iz_iald X k_16 (ix_tb_at tb_X12_weight 16 rfl) (pc1 := 33) rfl ?_
      obtain ⟨x3_17, e_18, h⟩ := ix_lt_ex h
      refine ix_nmi e_18 ?_
      refine ix_istore_n (i := 3) (L1 := [(3, .int x3_17), (0, .ref (K.2.2.1 + a0)), (1, .int x1), (2, .int x2)]) X (ix_tb_at tb_X12_weight 17 rfl) rfl (Nat.le_of_ble_eq_true rfl) rfl (pc1 := 34) rfl ?_
      refine ix_aload_n (i := 0) (j := 1) X (ix_tb_at tb_X12_weight 18 rfl) rfl rfl (pc1 := 35) rfl ?_
      refine iz_getR X fl_RX12_7 k_3 q_15 (ix_tb_at tb_X12_weight 19 rfl) (pc1 := 38) rfl ?_
      refine ix_iload_n (i := 1) (j := 2) X (ix_tb_at tb_X12_weight 20 rfl) rfl rfl (pc1 := 39) rfl ?_
      refine ix_iload_n (i := 2) (j := 3) X (ix_tb_at tb_X12_weight 21 rfl) rfl rfl (pc1 := 40) rfl ?_
      obtain ⟨d_19, e_20, h⟩ := ix_lt_ex h
      refine iz_iast X k_16 (ix_tb_at tb_X12_weight 22 rfl) e_20 (pc1 := 41) rfl ?_
      refine ix_aload_n (i := 0) (j := 1) X (ix_tb_at tb_X12_weight 23 rfl) rfl rfl (pc1 := 42) rfl ?_
      refine ix_iconst (v := 0) X (ix_tb_at tb_X12_weight 24 rfl) (by decide) (pc1 := 43) rfl ?_
      obtain ⟨d_21, e_22, h⟩ := ix_lt_ex h
      refine iz_putZ X fp_RX12_249 k_3 (ix_tb_at tb_X12_weight 25 rfl) (by decide) e_22 (pc1 := 46) rfl ?_
      refine ix_iload_n (i := 3) (j := 0) X (ix_tb_at tb_X12_weight 26 rfl) rfl rfl (pc1 := 47) rfl ?_
      exact ix_iret X hr hlk (ix_r2 (f := fun r => some (.int r)) (g := ix_w z) h) (ix_tb_at tb_X12_weight 27 rfl)
    · have h := ix_ift q_13 h
      refine ix_sub (L1 := [(0, .ref (K.2.2.1 + a0))]) [0] rfl ?_
      exact t_X12_weight_19 hKp X hr hlk  h
def tab_X12_weighs : List (Nat × Instr × Nat) := [(0, .aload_n 0, 1), (1, .iload_n 1, 1), (2, .invokevirtual 433, 3), (5, .ifCond .ne 12, 3), (8, .aload_n 0, 1), (9, .sipush (-1001), 3), (12, .invokevirtual 242, 3), (15, .i2l, 1), (16, .lreturn, 1), (17, .iload_n 1, 1), (18, .aload_n 0, 1), (19, .getfield 116, 3), (22, .iconst 0, 1), (23, .iaload, 1), (24, .if_icmp .gt 12, 3), (27, .aload_n 0, 1), (28, .getfield 146, 3), (31, .iload_n 1, 1), (32, .laload, 1), (33, .goto 4, 3), (36, .lconst 0, 1), (37, .lreturn, 1)]
theorem tb_X12_weighs : ix_tab cX12_weighs tab_X12_weighs := by
  unfold ix_tab
  decide +kernel
noncomputable def f_X12_weighs (n : Nat) (z : ix_Z) (a0 : Nat) (x1 : Int32) (d : ix_D2) : Option (Int64 × ix_D2) :=
  ix_ck (ix_ok z [11] a0) (ix_bd2 (f_X12_isName n z a0 x1 d) (fun r_4 d_1 => ix_if (r_4 = 0) (ix_bd2 (f_X12_fail n z a0 ((-1001)) d_1) (fun r_15 d_13 => some (r_15.toInt64, d_13))) (ix_bd1 (z.1 a0 61) (fun b_6 => ix_ck (ix_ix z 20 b_6 0) (ix_if (d_1.1 b_6 (ix_n 0) < x1) (some (0, d_1)) (ix_bd1 (z.1 a0 73) (fun b_10 => ix_ck (ix_ix z 23 b_10 x1) (some (d_1.2 b_10 (ix_n x1), d_1)))))))))
set_option maxRecDepth 20000 in
theorem c_X12_weighs {l : Launch} {K : ix_Cx} (hKp : ix_Kp K) {n : Nat} {z : ix_Z} {a0 : Nat} {x1 : Int32} {d : ix_D2} {r : Int64} {d1 : ix_D2} (h : f_X12_weighs n z a0 x1 d = some (r, d1)) : ix_M l K yX12_weighs cX12_weighs 2 (some .long) 2 43 0 0 [.ref (K.2.2.1 + a0), .int x1] (ix_w z d) (some (.long r)) (ix_w z d1) := by
  refine ix_met mf_X12_weighs hKp (Nat.le_of_ble_eq_true rfl) ?_
  intro p e s m args below meth c hr hlk hnm X
  have X : ix_X p s m args c K cX12_weighs RX12 2 := X
  show ix_G p l e (ix_rm 2 43 0 0) s m args below meth c (MQ below (ix_Post K (some (.long r)) (ix_w z d1)) args s 0 0 (ix_A K)) K 2 0 0 0 [(0, .ref (K.2.2.1 + a0)), (1, .int x1)] [] (ix_w z d)
  unfold f_X12_weighs at h
  refine ix_aload_n (i := 0) (j := 0) X (ix_tb_at tb_X12_weighs 0 rfl) rfl rfl (pc1 := 1) rfl ?_
  refine ix_iload_n (i := 1) (j := 1) X (ix_tb_at tb_X12_weighs 1 rfl) rfl rfl (pc1 := 2) rfl ?_
  obtain ⟨k_3, h⟩ := ix_ck_some h
  obtain ⟨r_4, d_1, h_2, h⟩ := ix_bd2_ex h
  refine ix_callV (As := [.int x1]) (rest := []) (ci := 11) (T := TX12) (nf := 116) X mf_X12_isName mi_X12_isName ms_X12_isName rfl (Nat.le_of_ble_eq_true rfl) ml_RX12_433 ⟨Nat.le_of_ble_eq_true rfl, Nat.le_of_ble_eq_true rfl⟩ ⟨Nat.le_of_ble_eq_true rfl, Nat.le_of_ble_eq_true rfl⟩ rfl (Nat.le_of_ble_eq_true rfl) (ix_tb_at tb_X12_weighs 2 rfl) ⟨k_3.1, List.mem_singleton.mp k_3.2⟩ (c_X12_isName hKp h_2) rfl (pc1 := 5) rfl ?_
  refine ix_if_ne (tgt := 17) X (ix_tb_at tb_X12_weighs 3 rfl) (by decide) (pc1 := 8) rfl (fun q_5 => ?_) (fun q_5 => ?_)
  · have h := ix_iff q_5 h
    refine ix_iload_n (i := 1) (j := 1) X (ix_tb_at tb_X12_weighs 9 rfl) rfl rfl (pc1 := 18) rfl ?_
    refine ix_aload_n (i := 0) (j := 0) X (ix_tb_at tb_X12_weighs 10 rfl) rfl rfl (pc1 := 19) rfl ?_
    obtain ⟨b_6, q_7, h⟩ := ix_bd1_ex h
    refine iz_getR X fl_RX12_116 k_3 q_7 (ix_tb_at tb_X12_weighs 11 rfl) (pc1 := 22) rfl ?_
    refine ix_iconst (v := 0) X (ix_tb_at tb_X12_weighs 12 rfl) (by decide) (pc1 := 23) rfl ?_
    obtain ⟨k_8, h⟩ := ix_ck_some h
    refine iz_iald X k_8 (ix_tb_at tb_X12_weighs 13 rfl) (pc1 := 24) rfl ?_
    refine ix_icmp_gt (tgt := 36) X (ix_tb_at tb_X12_weighs 14 rfl) (by decide) (pc1 := 27) rfl (fun q_9 => ?_) (fun q_9 => ?_)
    · have h := ix_ift q_9 h
      refine ix_lconst (v := 0) X (ix_tb_at tb_X12_weighs 20 rfl) (by decide) (pc1 := 37) rfl ?_
      exact ix_lret X hr hlk (ix_r2 (f := fun r => some (.long r)) (g := ix_w z) h) (ix_tb_at tb_X12_weighs 21 rfl)
    · have h := ix_iff q_9 h
      refine ix_aload_n (i := 0) (j := 0) X (ix_tb_at tb_X12_weighs 15 rfl) rfl rfl (pc1 := 28) rfl ?_
      obtain ⟨b_10, q_11, h⟩ := ix_bd1_ex h
      refine iz_getR X fl_RX12_146 k_3 q_11 (ix_tb_at tb_X12_weighs 16 rfl) (pc1 := 31) rfl ?_
      refine ix_iload_n (i := 1) (j := 1) X (ix_tb_at tb_X12_weighs 17 rfl) rfl rfl (pc1 := 32) rfl ?_
      obtain ⟨k_12, h⟩ := ix_ck_some h
      refine iz_lald X k_12 (ix_tb_at tb_X12_weighs 18 rfl) (pc1 := 33) rfl ?_
      refine ix_goto (tgt := 37) X (ix_tb_at tb_X12_weighs 19 rfl) (by decide) ?_
      exact ix_lret X hr hlk (ix_r2 (f := fun r => some (.long r)) (g := ix_w z) h) (ix_tb_at tb_X12_weighs 21 rfl)
  · have h := ix_ift q_5 h
    refine ix_aload_n (i := 0) (j := 0) X (ix_tb_at tb_X12_weighs 4 rfl) rfl rfl (pc1 := 9) rfl ?_
    refine ix_sipush (v := (-1001)) X (ix_tb_at tb_X12_weighs 5 rfl) (by decide) (pc1 := 12) rfl ?_
    obtain ⟨r_15, d_13, h_14, h⟩ := ix_bd2_ex h
    refine ix_callV (As := [.int ((-1001))]) (rest := []) (ci := 11) (T := TX12) (nf := 116) X mf_X12_fail mi_X12_fail ms_X12_fail rfl (Nat.le_of_ble_eq_true rfl) ml_RX12_242 ⟨Nat.le_of_ble_eq_true rfl, Nat.le_of_ble_eq_true rfl⟩ ⟨Nat.le_of_ble_eq_true rfl, Nat.le_of_ble_eq_true rfl⟩ rfl (Nat.le_of_ble_eq_true rfl) (ix_tb_at tb_X12_weighs 6 rfl) ⟨k_3.1, List.mem_singleton.mp k_3.2⟩ (c_X12_fail hKp h_14) rfl (pc1 := 15) rfl ?_
    refine ix_i2l X (ix_tb_at tb_X12_weighs 7 rfl) (pc1 := 16) rfl ?_
    exact ix_lret X hr hlk (ix_r2 (f := fun r => some (.long r)) (g := ix_w z) h) (ix_tb_at tb_X12_weighs 8 rfl)
def tab_X12_begin : List (Nat × Instr × Nat) := [(0, .iload_n 1, 1), (1, .iconst 0, 1), (2, .bipush 100, 2), (4, .invokestatic 238, 3), (7, .ifCond .ne 11, 3), (10, .aload_n 0, 1), (11, .sipush (-1001), 3), (14, .invokevirtual 242, 3), (17, .ireturn, 1), (18, .aload_n 0, 1), (19, .getfield 436, 3), (22, .istore_n 2, 1), (23, .aload_n 0, 1), (24, .iload_n 1, 1), (25, .putfield 436, 3), (28, .aload_n 0, 1), (29, .iconst 0, 1), (30, .putfield 249, 3), (33, .iload_n 2, 1), (34, .ireturn, 1)]
theorem tb_X12_begin : ix_tab cX12_begin tab_X12_begin := by
  unfold ix_tab
  decide +kernel
noncomputable def f_X12_begin (n : Nat) (z : ix_Z) (a0 : Nat) (x1 : Int32) (d : ix_D2) : Option (Int32 × ix_D2) :=
  ix_bd2 (f_X12_in n z x1 0 100 d) (fun r_3 d_1 => ix_if (r_3 = 0) (ix_ck (ix_ok z [11] a0) (ix_bd2 (f_X12_fail n z a0 ((-1001)) d_1) (fun r_15 d_12 => some (r_15, d_12)))) (ix_ck (ix_ok z [11] a0) (ix_lt (d_1.1 a0 30) (fun x2_6 => ix_lt (ix_di d_1 a0 30 x1) (fun d_8 => ix_lt (ix_di d_8 a0 57 0) (fun d_10 => some (x2_6, d_10)))))))
set_option maxRecDepth 20000 in
theorem c_X12_begin {l : Launch} {K : ix_Cx} (hKp : ix_Kp K) {n : Nat} {z : ix_Z} {a0 : Nat} {x1 : Int32} {d : ix_D2} {r : Int32} {d1 : ix_D2} (h : f_X12_begin n z a0 x1 d = some (r, d1)) : ix_M l K yX12_begin cX12_begin 3 (some .int) 1 22 0 0 [.ref (K.2.2.1 + a0), .int x1] (ix_w z d) (some (.int r)) (ix_w z d1) := by
  refine ix_met mf_X12_begin hKp (Nat.le_of_ble_eq_true rfl) ?_
  intro p e s m args below meth c hr hlk hnm X
  have X : ix_X p s m args c K cX12_begin RX12 3 := X
  show ix_G p l e (ix_rm 1 22 0 0) s m args below meth c (MQ below (ix_Post K (some (.int r)) (ix_w z d1)) args s 0 0 (ix_A K)) K 3 0 0 0 [(0, .ref (K.2.2.1 + a0)), (1, .int x1)] [] (ix_w z d)
  unfold f_X12_begin at h
  refine ix_iload_n (i := 1) (j := 1) X (ix_tb_at tb_X12_begin 0 rfl) rfl rfl (pc1 := 1) rfl ?_
  refine ix_iconst (v := 0) X (ix_tb_at tb_X12_begin 1 rfl) (by decide) (pc1 := 2) rfl ?_
  refine ix_bipush (v := 100) X (ix_tb_at tb_X12_begin 2 rfl) (by decide) (pc1 := 4) rfl ?_
  obtain ⟨r_3, d_1, h_2, h⟩ := ix_bd2_ex h
  refine ix_callS (As := [.int x1, .int 0, .int 100]) (rest := []) X mf_X12_in st_X12_in ml_RX12_238 ⟨Nat.le_of_ble_eq_true rfl, Nat.le_of_ble_eq_true rfl⟩ ⟨Nat.le_of_ble_eq_true rfl, Nat.le_of_ble_eq_true rfl⟩ rfl (Nat.le_of_ble_eq_true rfl) (ix_tb_at tb_X12_begin 3 rfl) (c_X12_in hKp h_2) rfl (pc1 := 7) rfl ?_
  refine ix_if_ne (tgt := 18) X (ix_tb_at tb_X12_begin 4 rfl) (by decide) (pc1 := 10) rfl (fun q_4 => ?_) (fun q_4 => ?_)
  · have h := ix_iff q_4 h
    refine ix_aload_n (i := 0) (j := 0) X (ix_tb_at tb_X12_begin 9 rfl) rfl rfl (pc1 := 19) rfl ?_
    obtain ⟨k_5, h⟩ := ix_ck_some h
    refine iz_getI X fl_RX12_436 k_5 (ix_tb_at tb_X12_begin 10 rfl) (pc1 := 22) rfl ?_
    obtain ⟨x2_6, e_7, h⟩ := ix_lt_ex h
    refine ix_nmi e_7 ?_
    refine ix_istore_n (i := 2) (L1 := [(2, .int x2_6), (0, .ref (K.2.2.1 + a0)), (1, .int x1)]) X (ix_tb_at tb_X12_begin 11 rfl) rfl (Nat.le_of_ble_eq_true rfl) rfl (pc1 := 23) rfl ?_
    refine ix_aload_n (i := 0) (j := 1) X (ix_tb_at tb_X12_begin 12 rfl) rfl rfl (pc1 := 24) rfl ?_
    refine ix_iload_n (i := 1) (j := 2) X (ix_tb_at tb_X12_begin 13 rfl) rfl rfl (pc1 := 25) rfl ?_
    obtain ⟨d_8, e_9, h⟩ := ix_lt_ex h
    refine iz_putI X fp_RX12_436 k_5 (ix_tb_at tb_X12_begin 14 rfl) e_9 (pc1 := 28) rfl ?_
    refine ix_aload_n (i := 0) (j := 1) X (ix_tb_at tb_X12_begin 15 rfl) rfl rfl (pc1 := 29) rfl ?_
    refine ix_iconst (v := 0) X (ix_tb_at tb_X12_begin 16 rfl) (by decide) (pc1 := 30) rfl ?_
    obtain ⟨d_10, e_11, h⟩ := ix_lt_ex h
    refine iz_putZ X fp_RX12_249 k_5 (ix_tb_at tb_X12_begin 17 rfl) (by decide) e_11 (pc1 := 33) rfl ?_
    refine ix_iload_n (i := 2) (j := 0) X (ix_tb_at tb_X12_begin 18 rfl) rfl rfl (pc1 := 34) rfl ?_
    exact ix_iret X hr hlk (ix_r2 (f := fun r => some (.int r)) (g := ix_w z) h) (ix_tb_at tb_X12_begin 19 rfl)
  · have h := ix_ift q_4 h
    refine ix_aload_n (i := 0) (j := 0) X (ix_tb_at tb_X12_begin 5 rfl) rfl rfl (pc1 := 11) rfl ?_
    refine ix_sipush (v := (-1001)) X (ix_tb_at tb_X12_begin 6 rfl) (by decide) (pc1 := 14) rfl ?_
    obtain ⟨k_14, h⟩ := ix_ck_some h
    obtain ⟨r_15, d_12, h_13, h⟩ := ix_bd2_ex h
    refine ix_callV (As := [.int ((-1001))]) (rest := []) (ci := 11) (T := TX12) (nf := 116) X mf_X12_fail mi_X12_fail ms_X12_fail rfl (Nat.le_of_ble_eq_true rfl) ml_RX12_242 ⟨Nat.le_of_ble_eq_true rfl, Nat.le_of_ble_eq_true rfl⟩ ⟨Nat.le_of_ble_eq_true rfl, Nat.le_of_ble_eq_true rfl⟩ rfl (Nat.le_of_ble_eq_true rfl) (ix_tb_at tb_X12_begin 7 rfl) ⟨k_14.1, List.mem_singleton.mp k_14.2⟩ (c_X12_fail hKp h_13) rfl (pc1 := 17) rfl ?_
    exact ix_iret X hr hlk (ix_r2 (f := fun r => some (.int r)) (g := ix_w z) h) (ix_tb_at tb_X12_begin 8 rfl)
def tab_X12_forget : List (Nat × Instr × Nat) := [(0, .iload_n 1, 1), (1, .iconst 0, 1), (2, .sipush 800, 3), (5, .invokestatic 238, 3), (8, .ifCond .ne 11, 3), (11, .aload_n 0, 1), (12, .sipush (-1001), 3), (15, .invokevirtual 242, 3), (18, .ireturn, 1), (19, .aload_n 0, 1), (20, .getfield 439, 3), (23, .istore_n 2, 1), (24, .aload_n 0, 1), (25, .iload_n 1, 1), (26, .putfield 439, 3), (29, .aload_n 0, 1), (30, .iconst 0, 1), (31, .putfield 249, 3), (34, .iload_n 2, 1), (35, .ireturn, 1)]
theorem tb_X12_forget : ix_tab cX12_forget tab_X12_forget := by
  unfold ix_tab
  decide +kernel
noncomputable def f_X12_forget (n : Nat) (z : ix_Z) (a0 : Nat) (x1 : Int32) (d : ix_D2) : Option (Int32 × ix_D2) :=
  ix_bd2 (f_X12_in n z x1 0 800 d) (fun r_3 d_1 => ix_if (r_3 = 0) (ix_ck (ix_ok z [11] a0) (ix_bd2 (f_X12_fail n z a0 ((-1001)) d_1) (fun r_15 d_12 => some (r_15, d_12)))) (ix_ck (ix_ok z [11] a0) (ix_lt (d_1.1 a0 31) (fun x2_6 => ix_lt (ix_di d_1 a0 31 x1) (fun d_8 => ix_lt (ix_di d_8 a0 57 0) (fun d_10 => some (x2_6, d_10)))))))
set_option maxRecDepth 20000 in
theorem c_X12_forget {l : Launch} {K : ix_Cx} (hKp : ix_Kp K) {n : Nat} {z : ix_Z} {a0 : Nat} {x1 : Int32} {d : ix_D2} {r : Int32} {d1 : ix_D2} (h : f_X12_forget n z a0 x1 d = some (r, d1)) : ix_M l K yX12_forget cX12_forget 3 (some .int) 1 22 0 0 [.ref (K.2.2.1 + a0), .int x1] (ix_w z d) (some (.int r)) (ix_w z d1) := by
  refine ix_met mf_X12_forget hKp (Nat.le_of_ble_eq_true rfl) ?_
  intro p e s m args below meth c hr hlk hnm X
  have X : ix_X p s m args c K cX12_forget RX12 3 := X
  show ix_G p l e (ix_rm 1 22 0 0) s m args below meth c (MQ below (ix_Post K (some (.int r)) (ix_w z d1)) args s 0 0 (ix_A K)) K 3 0 0 0 [(0, .ref (K.2.2.1 + a0)), (1, .int x1)] [] (ix_w z d)
  unfold f_X12_forget at h
  refine ix_iload_n (i := 1) (j := 1) X (ix_tb_at tb_X12_forget 0 rfl) rfl rfl (pc1 := 1) rfl ?_
  refine ix_iconst (v := 0) X (ix_tb_at tb_X12_forget 1 rfl) (by decide) (pc1 := 2) rfl ?_
  refine ix_sipush (v := 800) X (ix_tb_at tb_X12_forget 2 rfl) (by decide) (pc1 := 5) rfl ?_
  obtain ⟨r_3, d_1, h_2, h⟩ := ix_bd2_ex h
  refine ix_callS (As := [.int x1, .int 0, .int 800]) (rest := []) X mf_X12_in st_X12_in ml_RX12_238 ⟨Nat.le_of_ble_eq_true rfl, Nat.le_of_ble_eq_true rfl⟩ ⟨Nat.le_of_ble_eq_true rfl, Nat.le_of_ble_eq_true rfl⟩ rfl (Nat.le_of_ble_eq_true rfl) (ix_tb_at tb_X12_forget 3 rfl) (c_X12_in hKp h_2) rfl (pc1 := 8) rfl ?_
  refine ix_if_ne (tgt := 19) X (ix_tb_at tb_X12_forget 4 rfl) (by decide) (pc1 := 11) rfl (fun q_4 => ?_) (fun q_4 => ?_)
  · have h := ix_iff q_4 h
    refine ix_aload_n (i := 0) (j := 0) X (ix_tb_at tb_X12_forget 9 rfl) rfl rfl (pc1 := 20) rfl ?_
    obtain ⟨k_5, h⟩ := ix_ck_some h
    refine iz_getI X fl_RX12_439 k_5 (ix_tb_at tb_X12_forget 10 rfl) (pc1 := 23) rfl ?_
    obtain ⟨x2_6, e_7, h⟩ := ix_lt_ex h
    refine ix_nmi e_7 ?_
    refine ix_istore_n (i := 2) (L1 := [(2, .int x2_6), (0, .ref (K.2.2.1 + a0)), (1, .int x1)]) X (ix_tb_at tb_X12_forget 11 rfl) rfl (Nat.le_of_ble_eq_true rfl) rfl (pc1 := 24) rfl ?_
    refine ix_aload_n (i := 0) (j := 1) X (ix_tb_at tb_X12_forget 12 rfl) rfl rfl (pc1 := 25) rfl ?_
    refine ix_iload_n (i := 1) (j := 2) X (ix_tb_at tb_X12_forget 13 rfl) rfl rfl (pc1 := 26) rfl ?_
    obtain ⟨d_8, e_9, h⟩ := ix_lt_ex h
    refine iz_putI X fp_RX12_439 k_5 (ix_tb_at tb_X12_forget 14 rfl) e_9 (pc1 := 29) rfl ?_
    refine ix_aload_n (i := 0) (j := 1) X (ix_tb_at tb_X12_forget 15 rfl) rfl rfl (pc1 := 30) rfl ?_
    refine ix_iconst (v := 0) X (ix_tb_at tb_X12_forget 16 rfl) (by decide) (pc1 := 31) rfl ?_
    obtain ⟨d_10, e_11, h⟩ := ix_lt_ex h
    refine iz_putZ X fp_RX12_249 k_5 (ix_tb_at tb_X12_forget 17 rfl) (by decide) e_11 (pc1 := 34) rfl ?_
    refine ix_iload_n (i := 2) (j := 0) X (ix_tb_at tb_X12_forget 18 rfl) rfl rfl (pc1 := 35) rfl ?_
    exact ix_iret X hr hlk (ix_r2 (f := fun r => some (.int r)) (g := ix_w z) h) (ix_tb_at tb_X12_forget 19 rfl)
  · have h := ix_ift q_4 h
    refine ix_aload_n (i := 0) (j := 0) X (ix_tb_at tb_X12_forget 5 rfl) rfl rfl (pc1 := 12) rfl ?_
    refine ix_sipush (v := (-1001)) X (ix_tb_at tb_X12_forget 6 rfl) (by decide) (pc1 := 15) rfl ?_
    obtain ⟨k_14, h⟩ := ix_ck_some h
    obtain ⟨r_15, d_12, h_13, h⟩ := ix_bd2_ex h
    refine ix_callV (As := [.int ((-1001))]) (rest := []) (ci := 11) (T := TX12) (nf := 116) X mf_X12_fail mi_X12_fail ms_X12_fail rfl (Nat.le_of_ble_eq_true rfl) ml_RX12_242 ⟨Nat.le_of_ble_eq_true rfl, Nat.le_of_ble_eq_true rfl⟩ ⟨Nat.le_of_ble_eq_true rfl, Nat.le_of_ble_eq_true rfl⟩ rfl (Nat.le_of_ble_eq_true rfl) (ix_tb_at tb_X12_forget 7 rfl) ⟨k_14.1, List.mem_singleton.mp k_14.2⟩ (c_X12_fail hKp h_13) rfl (pc1 := 18) rfl ?_
    exact ix_iret X hr hlk (ix_r2 (f := fun r => some (.int r)) (g := ix_w z) h) (ix_tb_at tb_X12_forget 8 rfl)
def tab_X12_stateOf : List (Nat × Instr × Nat) := [(0, .aload_n 0, 1), (1, .getfield 134, 3), (4, .sipush 301, 3), (7, .iload_n 1, 1), (8, .imul, 1), (9, .iload_n 2, 1), (10, .invokestatic 289, 3), (13, .iadd, 1), (14, .iaload, 1), (15, .istore_n 3, 1), (16, .iload_n 3, 1), (17, .iconst 2, 1), (18, .if_icmp .ne 7, 3), (21, .iconst 2, 1), (22, .goto 14, 3), (25, .iload_n 2, 1), (26, .ifCond .le 7, 3), (29, .iload_n 3, 1), (30, .goto 6, 3), (33, .iconst 1, 1), (34, .iload_n 3, 1), (35, .isub, 1), (36, .ireturn, 1)]
theorem tb_X12_stateOf : ix_tab cX12_stateOf tab_X12_stateOf := by
  unfold ix_tab
  decide +kernel
noncomputable def f_X12_stateOf (n : Nat) (z : ix_Z) (a0 : Nat) (x1 : Int32) (x2 : Int32) (d : ix_D2) : Option (Int32 × ix_D2) :=
  ix_ck (ix_ok z [11] a0) (ix_bd1 (z.1 a0 69) (fun b_2 => ix_bd2 (f_X12_nameOf n z x2 d) (fun r_6 d_4 => ix_ck (ix_ix z 20 b_2 ((301 * x1) + r_6)) (ix_lt (d_4.1 b_2 (ix_n ((301 * x1) + r_6))) (fun x3_8 => ix_if (x3_8 = 2) (some (2, d_4)) (ix_if (x2 ≤ 0) (some (1 - x3_8, d_4)) (some (x3_8, d_4))))))))
set_option maxRecDepth 20000 in
theorem c_X12_stateOf {l : Launch} {K : ix_Cx} (hKp : ix_Kp K) {n : Nat} {z : ix_Z} {a0 : Nat} {x1 : Int32} {x2 : Int32} {d : ix_D2} {r : Int32} {d1 : ix_D2} (h : f_X12_stateOf n z a0 x1 x2 d = some (r, d1)) : ix_M l K yX12_stateOf cX12_stateOf 4 (some .int) 1 20 0 0 [.ref (K.2.2.1 + a0), .int x1, .int x2] (ix_w z d) (some (.int r)) (ix_w z d1) := by
  refine ix_met mf_X12_stateOf hKp (Nat.le_of_ble_eq_true rfl) ?_
  intro p e s m args below meth c hr hlk hnm X
  have X : ix_X p s m args c K cX12_stateOf RX12 4 := X
  show ix_G p l e (ix_rm 1 20 0 0) s m args below meth c (MQ below (ix_Post K (some (.int r)) (ix_w z d1)) args s 0 0 (ix_A K)) K 4 0 0 0 [(0, .ref (K.2.2.1 + a0)), (1, .int x1), (2, .int x2)] [] (ix_w z d)
  unfold f_X12_stateOf at h
  refine ix_aload_n (i := 0) (j := 0) X (ix_tb_at tb_X12_stateOf 0 rfl) rfl rfl (pc1 := 1) rfl ?_
  obtain ⟨k_1, h⟩ := ix_ck_some h
  obtain ⟨b_2, q_3, h⟩ := ix_bd1_ex h
  refine iz_getR X fl_RX12_134 k_1 q_3 (ix_tb_at tb_X12_stateOf 1 rfl) (pc1 := 4) rfl ?_
  refine ix_sipush (v := 301) X (ix_tb_at tb_X12_stateOf 2 rfl) (by decide) (pc1 := 7) rfl ?_
  refine ix_iload_n (i := 1) (j := 1) X (ix_tb_at tb_X12_stateOf 3 rfl) rfl rfl (pc1 := 8) rfl ?_
  refine ix_imul X (ix_tb_at tb_X12_stateOf 4 rfl) (pc1 := 9) rfl ?_
  refine ix_iload_n (i := 2) (j := 2) X (ix_tb_at tb_X12_stateOf 5 rfl) rfl rfl (pc1 := 10) rfl ?_
  obtain ⟨r_6, d_4, h_5, h⟩ := ix_bd2_ex h
  refine ix_callS (As := [.int x2]) (rest := [.int (301 * x1), .ref (K.2.2.1 + b_2)]) X mf_X12_nameOf st_X12_nameOf ml_RX12_289 ⟨Nat.le_of_ble_eq_true rfl, Nat.le_of_ble_eq_true rfl⟩ ⟨Nat.le_of_ble_eq_true rfl, Nat.le_of_ble_eq_true rfl⟩ rfl (Nat.le_of_ble_eq_true rfl) (ix_tb_at tb_X12_stateOf 6 rfl) (c_X12_nameOf hKp h_5) rfl (pc1 := 13) rfl ?_
  refine ix_iadd X (ix_tb_at tb_X12_stateOf 7 rfl) (pc1 := 14) rfl ?_
  obtain ⟨k_7, h⟩ := ix_ck_some h
  refine iz_iald X k_7 (ix_tb_at tb_X12_stateOf 8 rfl) (pc1 := 15) rfl ?_
  obtain ⟨x3_8, e_9, h⟩ := ix_lt_ex h
  refine ix_nmi e_9 ?_
  refine ix_istore_n (i := 3) (L1 := [(3, .int x3_8), (0, .ref (K.2.2.1 + a0)), (1, .int x1), (2, .int x2)]) X (ix_tb_at tb_X12_stateOf 9 rfl) rfl (Nat.le_of_ble_eq_true rfl) rfl (pc1 := 16) rfl ?_
  refine ix_iload_n (i := 3) (j := 0) X (ix_tb_at tb_X12_stateOf 10 rfl) rfl rfl (pc1 := 17) rfl ?_
  refine ix_iconst (v := 2) X (ix_tb_at tb_X12_stateOf 11 rfl) (by decide) (pc1 := 18) rfl ?_
  refine ix_icmp_ne (tgt := 25) X (ix_tb_at tb_X12_stateOf 12 rfl) (by decide) (pc1 := 21) rfl (fun q_10 => ?_) (fun q_10 => ?_)
  · have h := ix_iff q_10 h
    refine ix_iload_n (i := 2) (j := 3) X (ix_tb_at tb_X12_stateOf 15 rfl) rfl rfl (pc1 := 26) rfl ?_
    refine ix_if_le (tgt := 33) X (ix_tb_at tb_X12_stateOf 16 rfl) (by decide) (pc1 := 29) rfl (fun q_11 => ?_) (fun q_11 => ?_)
    · have h := ix_ift q_11 h
      refine ix_iconst (v := 1) X (ix_tb_at tb_X12_stateOf 19 rfl) (by decide) (pc1 := 34) rfl ?_
      refine ix_iload_n (i := 3) (j := 0) X (ix_tb_at tb_X12_stateOf 20 rfl) rfl rfl (pc1 := 35) rfl ?_
      refine ix_isub X (ix_tb_at tb_X12_stateOf 21 rfl) (pc1 := 36) rfl ?_
      exact ix_iret X hr hlk (ix_r2 (f := fun r => some (.int r)) (g := ix_w z) h) (ix_tb_at tb_X12_stateOf 22 rfl)
    · have h := ix_iff q_11 h
      refine ix_iload_n (i := 3) (j := 0) X (ix_tb_at tb_X12_stateOf 17 rfl) rfl rfl (pc1 := 30) rfl ?_
      refine ix_goto (tgt := 36) X (ix_tb_at tb_X12_stateOf 18 rfl) (by decide) ?_
      exact ix_iret X hr hlk (ix_r2 (f := fun r => some (.int r)) (g := ix_w z) h) (ix_tb_at tb_X12_stateOf 22 rfl)
  · have h := ix_ift q_10 h
    refine ix_iconst (v := 2) X (ix_tb_at tb_X12_stateOf 13 rfl) (by decide) (pc1 := 22) rfl ?_
    refine ix_goto (tgt := 36) X (ix_tb_at tb_X12_stateOf 14 rfl) (by decide) ?_
    exact ix_iret X hr hlk (ix_r2 (f := fun r => some (.int r)) (g := ix_w z) h) (ix_tb_at tb_X12_stateOf 22 rfl)
def tab_X12_look : List (Nat × Instr × Nat) := [(0, .aload_n 0, 1), (1, .iload_n 1, 1), (2, .iload_n 2, 1), (3, .invokevirtual 377, 3), (6, .istore_n 3, 1), (7, .iconst 0, 1), (8, .istore 4, 2), (10, .iconst 0, 1), (11, .istore 5, 2), (13, .iload 5, 2), (15, .iload_n 3, 1), (16, .if_icmp .ge 80, 3), (19, .iload 4, 2), (21, .iconst 2, 1), (22, .if_icmp .ge 74, 3), (25, .aload_n 0, 1), (26, .iload_n 1, 1), (27, .iload_n 2, 1), (28, .iload 5, 2), (30, .invokevirtual 381, 3), (33, .istore 6, 2), (35, .aload_n 0, 1), (36, .iload_n 1, 1), (37, .iload 6, 2), (39, .invokevirtual 445, 3), (42, .istore 7, 2), (44, .aload_n 0, 1), (45, .iload 7, 2), (47, .iconst 2, 1), (48, .if_icmp .ne 8, 3), (51, .iload 6, 2), (53, .goto 7, 3), (56, .aload_n 0, 1), (57, .getfield 448, 3), (60, .putfield 448, 3), (63, .iload 7, 2), (65, .iconst 1, 1), (66, .if_icmp .ne 7, 3), (69, .iconst 2, 1), (70, .goto 18, 3), (73, .iload 7, 2), (75, .iconst 2, 1), (76, .if_icmp .ne 10, 3), (79, .iload 4, 2), (81, .iconst 1, 1), (82, .iadd, 1), (83, .goto 5, 3), (86, .iload 4, 2), (88, .istore 4, 2), (90, .iinc 5 1, 3), (93, .goto (-80), 3), (96, .iload 4, 2), (98, .ireturn, 1)]
theorem tb_X12_look : ix_tab cX12_look tab_X12_look := by
  unfold ix_tab
  decide +kernel
noncomputable def f_X12_look_88 (n : Nat) (z : ix_Z) (rec13 : Int32 → Int32 → ix_D2 → Option (Int32 × ix_D2)) (a0 : Nat) (x1 : Int32) (x2 : Int32) (x3 : Int32) (x5 : Int32) (s0 : Int32) (d : ix_D2) : Option (Int32 × ix_D2) :=
  ix_lt (x5 + 1) (fun x5_20 => rec13 s0 x5_20 d)
noncomputable def f_X12_look_60 (n : Nat) (z : ix_Z) (rec13 : Int32 → Int32 → ix_D2 → Option (Int32 × ix_D2)) (a0 : Nat) (x1 : Int32) (x2 : Int32) (x3 : Int32) (x4 : Int32) (x5 : Int32) (x7 : Int32) (s0 : Int32) (s1 : Nat) (d : ix_D2) : Option (Int32 × ix_D2) :=
  ix_ck (ix_ok z [11] s1) (ix_lt (ix_di d s1 97 s0) (fun d_16 => ix_if (x7 = 1) (f_X12_look_88 n z rec13 a0 x1 x2 x3 x5 2 d_16) (ix_if (x7 = 2) (f_X12_look_88 n z rec13 a0 x1 x2 x3 x5 (x4 + 1) d_16) (f_X12_look_88 n z rec13 a0 x1 x2 x3 x5 x4 d_16))))
noncomputable def b_X12_look_13 (n : Nat) (z : ix_Z)  (a0 : Nat) (x1 : Int32) (x2 : Int32) (x3 : Int32) (rec13 : Int32 → Int32 → ix_D2 → Option (Int32 × ix_D2)) (x4 : Int32) (x5 : Int32) (d : ix_D2) : Option (Int32 × ix_D2) :=
  ix_if (x3 ≤ x5) (some (x4, d)) (ix_if (2 ≤ x4) (some (x4, d)) (ix_ck (ix_ok z [11] a0) (ix_bd2 (f_X12_itemOf n z a0 x1 x2 x5 d) (fun r_10 d_7 => ix_bd2 (f_X12_stateOf n z a0 x1 r_10 d_7) (fun r_13 d_11 => ix_if (r_13 = 2) (f_X12_look_60 n z rec13 a0 x1 x2 x3 x4 x5 r_13 r_10 a0 d_11) (f_X12_look_60 n z rec13 a0 x1 x2 x3 x4 x5 r_13 (d_11.1 a0 97) a0 d_11))))))
noncomputable def f_X12_look_13 (n : Nat) (z : ix_Z)  (a0 : Nat) (x1 : Int32) (x2 : Int32) (x3 : Int32) (x4 : Int32) (x5 : Int32) (d : ix_D2) : Option (Int32 × ix_D2) := ix_fix (b_X12_look_13 n z  a0 x1 x2 x3) (fun _ _ _ => none) n x4 x5 d
noncomputable def f_X12_look (n : Nat) (z : ix_Z) (a0 : Nat) (x1 : Int32) (x2 : Int32) (d : ix_D2) : Option (Int32 × ix_D2) :=
  ix_ck (ix_ok z [11] a0) (ix_bd2 (f_X12_sizeOf n z a0 x1 x2 d) (fun r_4 d_1 => f_X12_look_13 n z  a0 x1 x2 r_4 0 0 d_1))
set_option maxRecDepth 20000 in
theorem t_X12_look_88 {l : Launch} {p : Program} {e : Env} {s : State} {m : MethodId} {args : Array Value} {below : List Frame} {meth : Method} {c : Code} {K : ix_Cx} (hKp : ix_Kp K) {n : Nat} {z : ix_Z} (X : ix_X p s m args c K cX12_look RX12 8) (hr : meth.sig.returnType = (some .int)) (hlk : meth.locks = false) {rec13 : Int32 → Int32 → ix_D2 → Option (Int32 × ix_D2)} {a0 : Nat} {x1 : Int32} {x2 : Int32} {x3 : Int32} {x5 : Int32} {s0 : Int32} {r : Int32} {d1 : ix_D2} (hrec13 : ∀ (x4 : Int32) (x5 : Int32) (d : ix_D2), rec13 x4 x5 d = some (r, d1) → ix_G p l e (ix_rm 2 43 0 0) s m args below meth c (MQ below (ix_Post K (some (.int r)) (ix_w z d1)) args s 0 0 (ix_A K)) K 8 0 0 13 [(0, .ref (K.2.2.1 + a0)), (1, .int x1), (2, .int x2), (3, .int x3), (4, .int x4), (5, .int x5)] [] (ix_w z d)) {d : ix_D2} (h : f_X12_look_88 n z rec13 a0 x1 x2 x3 x5 s0 d = some (r, d1)) : ix_G p l e (ix_rm 2 43 0 0) s m args below meth c (MQ below (ix_Post K (some (.int r)) (ix_w z d1)) args s 0 0 (ix_A K)) K 8 0 0 88 [(0, .ref (K.2.2.1 + a0)), (1, .int x1), (2, .int x2), (3, .int x3), (5, .int x5)] [.int s0] (ix_w z d) := by
  unfold f_X12_look_88 at h
  refine ix_istore (i := 4) (L1 := [(4, .int s0), (0, .ref (K.2.2.1 + a0)), (1, .int x1), (2, .int x2), (3, .int x3), (5, .int x5)]) X (ix_tb_at tb_X12_look 48 rfl) (Nat.le_of_ble_eq_true rfl) rfl (pc1 := 90) rfl ?_
  obtain ⟨x5_20, e_21, h⟩ := ix_lt_ex h
  refine ix_iinc (i := 5) (j := 5) (v := x5_20) (L1 := [(5, .int x5_20), (4, .int s0), (0, .ref (K.2.2.1 + a0)), (1, .int x1), (2, .int x2), (3, .int x3)]) X (ix_tb_at tb_X12_look 49 rfl) rfl (by rw [oi_1]; exact e_21.symm) (Nat.le_of_ble_eq_true rfl) rfl (pc1 := 93) rfl ?_
  refine ix_goto (tgt := 13) X (ix_tb_at tb_X12_look 50 rfl) (by decide) ?_
  refine ix_sub (L1 := [(0, .ref (K.2.2.1 + a0)), (1, .int x1), (2, .int x2), (3, .int x3), (4, .int s0), (5, .int x5_20)]) [2, 3, 4, 5, 1, 0] rfl ?_
  exact hrec13 s0 x5_20 d h
set_option maxRecDepth 20000 in
theorem t_X12_look_60 {l : Launch} {p : Program} {e : Env} {s : State} {m : MethodId} {args : Array Value} {below : List Frame} {meth : Method} {c : Code} {K : ix_Cx} (hKp : ix_Kp K) {n : Nat} {z : ix_Z} (X : ix_X p s m args c K cX12_look RX12 8) (hr : meth.sig.returnType = (some .int)) (hlk : meth.locks = false) {rec13 : Int32 → Int32 → ix_D2 → Option (Int32 × ix_D2)} {a0 : Nat} {x1 : Int32} {x2 : Int32} {x3 : Int32} {x4 : Int32} {x5 : Int32} {x7 : Int32} {s0 : Int32} {s1 : Nat} {r : Int32} {d1 : ix_D2} (hrec13 : ∀ (x4 : Int32) (x5 : Int32) (d : ix_D2), rec13 x4 x5 d = some (r, d1) → ix_G p l e (ix_rm 2 43 0 0) s m args below meth c (MQ below (ix_Post K (some (.int r)) (ix_w z d1)) args s 0 0 (ix_A K)) K 8 0 0 13 [(0, .ref (K.2.2.1 + a0)), (1, .int x1), (2, .int x2), (3, .int x3), (4, .int x4), (5, .int x5)] [] (ix_w z d)) {d : ix_D2} (h : f_X12_look_60 n z rec13 a0 x1 x2 x3 x4 x5 x7 s0 s1 d = some (r, d1)) : ix_G p l e (ix_rm 2 43 0 0) s m args below meth c (MQ below (ix_Post K (some (.int r)) (ix_w z d1)) args s 0 0 (ix_A K)) K 8 0 0 60 [(0, .ref (K.2.2.1 + a0)), (1, .int x1), (2, .int x2), (3, .int x3), (4, .int x4), (5, .int x5), (7, .int x7)] [.int s0, .ref (K.2.2.1 + s1)] (ix_w z d) := by
  unfold f_X12_look_60 at h
  obtain ⟨k_15, h⟩ := ix_ck_some h
  obtain ⟨d_16, e_17, h⟩ := ix_lt_ex h
  refine iz_putI X fp_RX12_448 k_15 (ix_tb_at tb_X12_look 34 rfl) e_17 (pc1 := 63) rfl ?_
  refine ix_iload (i := 7) (j := 6) X (ix_tb_at tb_X12_look 35 rfl) rfl (pc1 := 65) rfl ?_
  refine ix_iconst (v := 1) X (ix_tb_at tb_X12_look 36 rfl) (by decide) (pc1 := 66) rfl ?_
  refine ix_icmp_ne (tgt := 73) X (ix_tb_at tb_X12_look 37 rfl) (by decide) (pc1 := 69) rfl (fun q_18 => ?_) (fun q_18 => ?_)
  · have h := ix_iff q_18 h
    refine ix_iload (i := 7) (j := 6) X (ix_tb_at tb_X12_look 40 rfl) rfl (pc1 := 75) rfl ?_
    refine ix_iconst (v := 2) X (ix_tb_at tb_X12_look 41 rfl) (by decide) (pc1 := 76) rfl ?_
    refine ix_icmp_ne (tgt := 86) X (ix_tb_at tb_X12_look 42 rfl) (by decide) (pc1 := 79) rfl (fun q_19 => ?_) (fun q_19 => ?_)
    · have h := ix_iff q_19 h
      refine ix_iload (i := 4) (j := 4) X (ix_tb_at tb_X12_look 47 rfl) rfl (pc1 := 88) rfl ?_
      refine ix_sub (L1 := [(0, .ref (K.2.2.1 + a0)), (1, .int x1), (2, .int x2), (3, .int x3), (5, .int x5)]) [0, 1, 2, 3, 5] rfl ?_
      exact t_X12_look_88 hKp X hr hlk hrec13 h
    · have h := ix_ift q_19 h
      refine ix_iload (i := 4) (j := 4) X (ix_tb_at tb_X12_look 43 rfl) rfl (pc1 := 81) rfl ?_
      refine ix_iconst (v := 1) X (ix_tb_at tb_X12_look 44 rfl) (by decide) (pc1 := 82) rfl ?_
      refine ix_iadd X (ix_tb_at tb_X12_look 45 rfl) (pc1 := 83) rfl ?_
      refine ix_goto (tgt := 88) X (ix_tb_at tb_X12_look 46 rfl) (by decide) ?_
      refine ix_sub (L1 := [(0, .ref (K.2.2.1 + a0)), (1, .int x1), (2, .int x2), (3, .int x3), (5, .int x5)]) [0, 1, 2, 3, 5] rfl ?_
      exact t_X12_look_88 hKp X hr hlk hrec13 h
  · have h := ix_ift q_18 h
    refine ix_iconst (v := 2) X (ix_tb_at tb_X12_look 38 rfl) (by decide) (pc1 := 70) rfl ?_
    refine ix_goto (tgt := 88) X (ix_tb_at tb_X12_look 39 rfl) (by decide) ?_
    refine ix_sub (L1 := [(0, .ref (K.2.2.1 + a0)), (1, .int x1), (2, .int x2), (3, .int x3), (5, .int x5)]) [0, 1, 2, 3, 5] rfl ?_
    exact t_X12_look_88 hKp X hr hlk hrec13 h
set_option maxRecDepth 20000 in
theorem tb_X12_look_13 {l : Launch} {p : Program} {e : Env} {s : State} {m : MethodId} {args : Array Value} {below : List Frame} {meth : Method} {c : Code} {K : ix_Cx} (hKp : ix_Kp K) {n : Nat} {z : ix_Z} (X : ix_X p s m args c K cX12_look RX12 8) (hr : meth.sig.returnType = (some .int)) (hlk : meth.locks = false)  {a0 : Nat} {x1 : Int32} {x2 : Int32} {x3 : Int32} {rec13 : Int32 → Int32 → ix_D2 → Option (Int32 × ix_D2)} {r : Int32} {d1 : ix_D2} (hrec13 : ∀ (x4 : Int32) (x5 : Int32) (d : ix_D2), rec13 x4 x5 d = some (r, d1) → ix_G p l e (ix_rm 2 43 0 0) s m args below meth c (MQ below (ix_Post K (some (.int r)) (ix_w z d1)) args s 0 0 (ix_A K)) K 8 0 0 13 [(0, .ref (K.2.2.1 + a0)), (1, .int x1), (2, .int x2), (3, .int x3), (4, .int x4), (5, .int x5)] [] (ix_w z d)) {x4 : Int32} {x5 : Int32} {d : ix_D2} (h : b_X12_look_13 n z  a0 x1 x2 x3 rec13 x4 x5 d = some (r, d1)) : ix_G p l e (ix_rm 2 43 0 0) s m args below meth c (MQ below (ix_Post K (some (.int r)) (ix_w z d1)) args s 0 0 (ix_A K)) K 8 0 0 13 [(0, .ref (K.2.2.1 + a0)), (1, .int x1), (2, .int x2), (3, .int x3), (4, .int x4), (5, .int x5)] [] (ix_w z d) := by
  unfold b_X12_look_13 at h
  refine ix_iload (i := 5) (j := 5) X (ix_tb_at tb_X12_look 9 rfl) rfl (pc1 := 15) rfl ?_
  refine ix_iload_n (i := 3) (j := 3) X (ix_tb_at tb_X12_look 10 rfl) rfl rfl (pc1 := 16) rfl ?_
  refine ix_icmp_ge (tgt := 96) X (ix_tb_at tb_X12_look 11 rfl) (by decide) (pc1 := 19) rfl (fun q_5 => ?_) (fun q_5 => ?_)
  · have h := ix_ift q_5 h
    refine ix_iload (i := 4) (j := 4) X (ix_tb_at tb_X12_look 51 rfl) rfl (pc1 := 98) rfl ?_
    exact ix_iret X hr hlk (ix_r2 (f := fun r => some (.int r)) (g := ix_w z) h) (ix_tb_at tb_X12_look 52 rfl)
  · have h := ix_iff q_5 h
    refine ix_iload (i := 4) (j := 4) X (ix_tb_at tb_X12_look 12 rfl) rfl (pc1 := 21) rfl ?_
    refine ix_iconst (v := 2) X (ix_tb_at tb_X12_look 13 rfl) (by decide) (pc1 := 22) rfl ?_
    refine ix_icmp_ge (tgt := 96) X (ix_tb_at tb_X12_look 14 rfl) (by decide) (pc1 := 25) rfl (fun q_6 => ?_) (fun q_6 => ?_)
    · have h := ix_ift q_6 h
      refine ix_iload (i := 4) (j := 4) X (ix_tb_at tb_X12_look 51 rfl) rfl (pc1 := 98) rfl ?_
      exact ix_iret X hr hlk (ix_r2 (f := fun r => some (.int r)) (g := ix_w z) h) (ix_tb_at tb_X12_look 52 rfl)
    · have h := ix_iff q_6 h
      refine ix_aload_n (i := 0) (j := 0) X (ix_tb_at tb_X12_look 15 rfl) rfl rfl (pc1 := 26) rfl ?_
      refine ix_iload_n (i := 1) (j := 1) X (ix_tb_at tb_X12_look 16 rfl) rfl rfl (pc1 := 27) rfl ?_
      refine ix_iload_n (i := 2) (j := 2) X (ix_tb_at tb_X12_look 17 rfl) rfl rfl (pc1 := 28) rfl ?_
      refine ix_iload (i := 5) (j := 5) X (ix_tb_at tb_X12_look 18 rfl) rfl (pc1 := 30) rfl ?_
      obtain ⟨k_9, h⟩ := ix_ck_some h
      obtain ⟨r_10, d_7, h_8, h⟩ := ix_bd2_ex h
      refine ix_callV (As := [.int x1, .int x2, .int x5]) (rest := []) (ci := 11) (T := TX12) (nf := 116) X mf_X12_itemOf mi_X12_itemOf ms_X12_itemOf rfl (Nat.le_of_ble_eq_true rfl) ml_RX12_381 ⟨Nat.le_of_ble_eq_true rfl, Nat.le_of_ble_eq_true rfl⟩ ⟨Nat.le_of_ble_eq_true rfl, Nat.le_of_ble_eq_true rfl⟩ rfl (Nat.le_of_ble_eq_true rfl) (ix_tb_at tb_X12_look 19 rfl) ⟨k_9.1, List.mem_singleton.mp k_9.2⟩ (c_X12_itemOf hKp h_8) rfl (pc1 := 33) rfl ?_
      refine ix_istore (i := 6) (L1 := [(6, .int r_10), (0, .ref (K.2.2.1 + a0)), (1, .int x1), (2, .int x2), (3, .int x3), (4, .int x4), (5, .int x5)]) X (ix_tb_at tb_X12_look 20 rfl) (Nat.le_of_ble_eq_true rfl) rfl (pc1 := 35) rfl ?_
      refine ix_aload_n (i := 0) (j := 1) X (ix_tb_at tb_X12_look 21 rfl) rfl rfl (pc1 := 36) rfl ?_
      refine ix_iload_n (i := 1) (j := 2) X (ix_tb_at tb_X12_look 22 rfl) rfl rfl (pc1 := 37) rfl ?_
      refine ix_iload (i := 6) (j := 0) X (ix_tb_at tb_X12_look 23 rfl) rfl (pc1 := 39) rfl ?_
      obtain ⟨r_13, d_11, h_12, h⟩ := ix_bd2_ex h
      refine ix_callV (As := [.int x1, .int r_10]) (rest := []) (ci := 11) (T := TX12) (nf := 116) X mf_X12_stateOf mi_X12_stateOf ms_X12_stateOf rfl (Nat.le_of_ble_eq_true rfl) ml_RX12_445 ⟨Nat.le_of_ble_eq_true rfl, Nat.le_of_ble_eq_true rfl⟩ ⟨Nat.le_of_ble_eq_true rfl, Nat.le_of_ble_eq_true rfl⟩ rfl (Nat.le_of_ble_eq_true rfl) (ix_tb_at tb_X12_look 24 rfl) ⟨k_9.1, List.mem_singleton.mp k_9.2⟩ (c_X12_stateOf hKp h_12) rfl (pc1 := 42) rfl ?_
      refine ix_istore (i := 7) (L1 := [(7, .int r_13), (6, .int r_10), (0, .ref (K.2.2.1 + a0)), (1, .int x1), (2, .int x2), (3, .int x3), (4, .int x4), (5, .int x5)]) X (ix_tb_at tb_X12_look 25 rfl) (Nat.le_of_ble_eq_true rfl) rfl (pc1 := 44) rfl ?_
      refine ix_aload_n (i := 0) (j := 2) X (ix_tb_at tb_X12_look 26 rfl) rfl rfl (pc1 := 45) rfl ?_
      refine ix_iload (i := 7) (j := 0) X (ix_tb_at tb_X12_look 27 rfl) rfl (pc1 := 47) rfl ?_
      refine ix_iconst (v := 2) X (ix_tb_at tb_X12_look 28 rfl) (by decide) (pc1 := 48) rfl ?_
      refine ix_icmp_ne (tgt := 56) X (ix_tb_at tb_X12_look 29 rfl) (by decide) (pc1 := 51) rfl (fun q_14 => ?_) (fun q_14 => ?_)
      · have h := ix_iff q_14 h
        refine ix_aload_n (i := 0) (j := 2) X (ix_tb_at tb_X12_look 32 rfl) rfl rfl (pc1 := 57) rfl ?_
        refine iz_getI X fl_RX12_448 k_9 (ix_tb_at tb_X12_look 33 rfl) (pc1 := 60) rfl ?_
        refine ix_sub (L1 := [(0, .ref (K.2.2.1 + a0)), (1, .int x1), (2, .int x2), (3, .int x3), (4, .int x4), (5, .int x5), (7, .int r_13)]) [2, 3, 4, 5, 6, 7, 0] rfl ?_
        exact t_X12_look_60 hKp X hr hlk hrec13 h
      · have h := ix_ift q_14 h
        refine ix_iload (i := 6) (j := 1) X (ix_tb_at tb_X12_look 30 rfl) rfl (pc1 := 53) rfl ?_
        refine ix_goto (tgt := 60) X (ix_tb_at tb_X12_look 31 rfl) (by decide) ?_
        refine ix_sub (L1 := [(0, .ref (K.2.2.1 + a0)), (1, .int x1), (2, .int x2), (3, .int x3), (4, .int x4), (5, .int x5), (7, .int r_13)]) [2, 3, 4, 5, 6, 7, 0] rfl ?_
        exact t_X12_look_60 hKp X hr hlk hrec13 h
theorem t_X12_look_13 {l : Launch} {p : Program} {e : Env} {s : State} {m : MethodId} {args : Array Value} {below : List Frame} {meth : Method} {c : Code} {K : ix_Cx} (hKp : ix_Kp K) {n : Nat} {z : ix_Z} (X : ix_X p s m args c K cX12_look RX12 8) (hr : meth.sig.returnType = (some .int)) (hlk : meth.locks = false)  {a0 : Nat} {x1 : Int32} {x2 : Int32} {x3 : Int32} {r : Int32} {d1 : ix_D2}  {x4 : Int32} {x5 : Int32} {d : ix_D2} (h : f_X12_look_13 n z  a0 x1 x2 x3 x4 x5 d = some (r, d1)) : ix_G p l e (ix_rm 2 43 0 0) s m args below meth c (MQ below (ix_Post K (some (.int r)) (ix_w z d1)) args s 0 0 (ix_A K)) K 8 0 0 13 [(0, .ref (K.2.2.1 + a0)), (1, .int x1), (2, .int x2), (3, .int x3), (4, .int x4), (5, .int x5)] [] (ix_w z d) := by
  have key : ∀ (f : Nat) (x4 : Int32) (x5 : Int32) (d : ix_D2), ix_fix (b_X12_look_13 n z  a0 x1 x2 x3) (fun _ _ _ => none) f x4 x5 d = some (r, d1) → ix_G p l e (ix_rm 2 43 0 0) s m args below meth c (MQ below (ix_Post K (some (.int r)) (ix_w z d1)) args s 0 0 (ix_A K)) K 8 0 0 13 [(0, .ref (K.2.2.1 + a0)), (1, .int x1), (2, .int x2), (3, .int x3), (4, .int x4), (5, .int x5)] [] (ix_w z d) := by
    intro f
    induction f with
    | zero =>
      intro x4 x5 d h
      have h : (none : Option (Int32 × ix_D2)) = some (r, d1) := h
      cases h
    | succ f ih =>
      intro x4 x5 d h
      exact tb_X12_look_13 hKp X hr hlk (rec13 := ix_fix (b_X12_look_13 n z  a0 x1 x2 x3) (fun _ _ _ => none) f)  ih h
  exact key n x4 x5 d h
set_option maxRecDepth 20000 in
theorem c_X12_look {l : Launch} {K : ix_Cx} (hKp : ix_Kp K) {n : Nat} {z : ix_Z} {a0 : Nat} {x1 : Int32} {x2 : Int32} {d : ix_D2} {r : Int32} {d1 : ix_D2} (h : f_X12_look n z a0 x1 x2 d = some (r, d1)) : ix_M l K yX12_look cX12_look 8 (some .int) 2 43 0 0 [.ref (K.2.2.1 + a0), .int x1, .int x2] (ix_w z d) (some (.int r)) (ix_w z d1) := by
  refine ix_met mf_X12_look hKp (Nat.le_of_ble_eq_true rfl) ?_
  intro p e s m args below meth c hr hlk hnm X
  have X : ix_X p s m args c K cX12_look RX12 8 := X
  show ix_G p l e (ix_rm 2 43 0 0) s m args below meth c (MQ below (ix_Post K (some (.int r)) (ix_w z d1)) args s 0 0 (ix_A K)) K 8 0 0 0 [(0, .ref (K.2.2.1 + a0)), (1, .int x1), (2, .int x2)] [] (ix_w z d)
  unfold f_X12_look at h
  refine ix_aload_n (i := 0) (j := 0) X (ix_tb_at tb_X12_look 0 rfl) rfl rfl (pc1 := 1) rfl ?_
  refine ix_iload_n (i := 1) (j := 1) X (ix_tb_at tb_X12_look 1 rfl) rfl rfl (pc1 := 2) rfl ?_
  refine ix_iload_n (i := 2) (j := 2) X (ix_tb_at tb_X12_look 2 rfl) rfl rfl (pc1 := 3) rfl ?_
  obtain ⟨k_3, h⟩ := ix_ck_some h
  obtain ⟨r_4, d_1, h_2, h⟩ := ix_bd2_ex h
  refine ix_callV (As := [.int x1, .int x2]) (rest := []) (ci := 11) (T := TX12) (nf := 116) X mf_X12_sizeOf mi_X12_sizeOf ms_X12_sizeOf rfl (Nat.le_of_ble_eq_true rfl) ml_RX12_377 ⟨Nat.le_of_ble_eq_true rfl, Nat.le_of_ble_eq_true rfl⟩ ⟨Nat.le_of_ble_eq_true rfl, Nat.le_of_ble_eq_true rfl⟩ rfl (Nat.le_of_ble_eq_true rfl) (ix_tb_at tb_X12_look 3 rfl) ⟨k_3.1, List.mem_singleton.mp k_3.2⟩ (c_X12_sizeOf hKp h_2) rfl (pc1 := 6) rfl ?_
  refine ix_istore_n (i := 3) (L1 := [(3, .int r_4), (0, .ref (K.2.2.1 + a0)), (1, .int x1), (2, .int x2)]) X (ix_tb_at tb_X12_look 4 rfl) rfl (Nat.le_of_ble_eq_true rfl) rfl (pc1 := 7) rfl ?_
  refine ix_iconst (v := 0) X (ix_tb_at tb_X12_look 5 rfl) (by decide) (pc1 := 8) rfl ?_
  refine ix_istore (i := 4) (L1 := [(4, .int 0), (3, .int r_4), (0, .ref (K.2.2.1 + a0)), (1, .int x1), (2, .int x2)]) X (ix_tb_at tb_X12_look 6 rfl) (Nat.le_of_ble_eq_true rfl) rfl (pc1 := 10) rfl ?_
  refine ix_iconst (v := 0) X (ix_tb_at tb_X12_look 7 rfl) (by decide) (pc1 := 11) rfl ?_
  refine ix_istore (i := 5) (L1 := [(5, .int 0), (4, .int 0), (3, .int r_4), (0, .ref (K.2.2.1 + a0)), (1, .int x1), (2, .int x2)]) X (ix_tb_at tb_X12_look 8 rfl) (Nat.le_of_ble_eq_true rfl) rfl (pc1 := 13) rfl ?_
  refine ix_sub (L1 := [(0, .ref (K.2.2.1 + a0)), (1, .int x1), (2, .int x2), (3, .int r_4), (4, .int 0), (5, .int 0)]) [3, 4, 5, 2, 1, 0] rfl ?_
  exact t_X12_look_13 hKp X hr hlk  h
def tab_X12_goOver : List (Nat × Instr × Nat) := [(0, .aload_n 0, 1), (1, .iload_n 1, 1), (2, .iload_n 2, 1), (3, .invokevirtual 451, 3), (6, .istore_n 3, 1), (7, .iload_n 3, 1), (8, .iconst 1, 1), (9, .if_icmp .ne 23, 3), (12, .aload_n 0, 1), (13, .getfield 454, 3), (16, .ifCond .ge 16, 3), (19, .aload_n 0, 1), (20, .iload_n 2, 1), (21, .putfield 454, 3), (24, .aload_n 0, 1), (25, .aload_n 0, 1), (26, .getfield 448, 3), (29, .putfield 457, 3), (32, .aload_n 0, 1), (33, .iload_n 3, 1), (34, .ifCond .ne 7, 3), (37, .iload_n 2, 1), (38, .goto 6, 3), (41, .sipush (-1005), 3), (44, .putfield 460, 3), (47, .iload_n 3, 1), (48, .ifCond .eq 7, 3), (51, .iconst 1, 1), (52, .goto 4, 3), (55, .iconst 0, 1), (56, .ireturn, 1)]
theorem tb_X12_goOver : ix_tab cX12_goOver tab_X12_goOver := by
  unfold ix_tab
  decide +kernel
noncomputable def f_X12_goOver_44 (n : Nat) (z : ix_Z)  (x3 : Int32) (s0 : Int32) (s1 : Nat) (d : ix_D2) : Option (Int32 × ix_D2) :=
  ix_ck (ix_ok z [11] s1) (ix_lt (ix_di d s1 98 s0) (fun d_8 => ix_if (x3 = 0) (some (0, d_8)) (some (1, d_8))))
noncomputable def f_X12_goOver_32 (n : Nat) (z : ix_Z)  (a0 : Nat) (x2 : Int32) (x3 : Int32) (d : ix_D2) : Option (Int32 × ix_D2) :=
  ix_if (x3 = 0) (f_X12_goOver_44 n z  x3 x2 a0 d) (f_X12_goOver_44 n z  x3 ((-1005)) a0 d)
noncomputable def f_X12_goOver (n : Nat) (z : ix_Z) (a0 : Nat) (x1 : Int32) (x2 : Int32) (d : ix_D2) : Option (Int32 × ix_D2) :=
  ix_ck (ix_ok z [11] a0) (ix_bd2 (f_X12_look n z a0 x1 x2 d) (fun r_4 d_1 => ix_if (r_4 = 1) (ix_if (0 ≤ d_1.1 a0 99) (f_X12_goOver_32 n z  a0 x2 r_4 d_1) (ix_lt (ix_di d_1 a0 99 x2) (fun d_12 => ix_lt (ix_di d_12 a0 100 (d_12.1 a0 97)) (fun d_14 => f_X12_goOver_32 n z  a0 x2 r_4 d_14)))) (f_X12_goOver_32 n z  a0 x2 r_4 d_1)))
set_option maxRecDepth 20000 in
theorem t_X12_goOver_44 {l : Launch} {p : Program} {e : Env} {s : State} {m : MethodId} {args : Array Value} {below : List Frame} {meth : Method} {c : Code} {K : ix_Cx} (hKp : ix_Kp K) {n : Nat} {z : ix_Z} (X : ix_X p s m args c K cX12_goOver RX12 4) (hr : meth.sig.returnType = (some .boolean)) (hlk : meth.locks = false)  {x3 : Int32} {s0 : Int32} {s1 : Nat} {r : Int32} {d1 : ix_D2}  {d : ix_D2} (h : f_X12_goOver_44 n z  x3 s0 s1 d = some (r, d1)) : ix_G p l e (ix_rm 3 70 0 0) s m args below meth c (MQ below (ix_Post K (some (.int r)) (ix_w z d1)) args s 0 0 (ix_A K)) K 4 0 0 44 [(3, .int x3)] [.int s0, .ref (K.2.2.1 + s1)] (ix_w z d) := by
  unfold f_X12_goOver_44 at h
  obtain ⟨k_7, h⟩ := ix_ck_some h
  obtain ⟨d_8, e_9, h⟩ := ix_lt_ex h
  refine iz_putI X fp_RX12_460 k_7 (ix_tb_at tb_X12_goOver 24 rfl) e_9 (pc1 := 47) rfl ?_
  refine ix_iload_n (i := 3) (j := 0) X (ix_tb_at tb_X12_goOver 25 rfl) rfl rfl (pc1 := 48) rfl ?_
  refine ix_if_eq (tgt := 55) X (ix_tb_at tb_X12_goOver 26 rfl) (by decide) (pc1 := 51) rfl (fun q_10 => ?_) (fun q_10 => ?_)
  · have h := ix_ift q_10 h
    refine ix_iconst (v := 0) X (ix_tb_at tb_X12_goOver 29 rfl) (by decide) (pc1 := 56) rfl ?_
    exact ix_zret X hr hlk (by decide) (ix_r2 (f := fun r => some (.int r)) (g := ix_w z) h) (ix_tb_at tb_X12_goOver 30 rfl)
  · have h := ix_iff q_10 h
    refine ix_iconst (v := 1) X (ix_tb_at tb_X12_goOver 27 rfl) (by decide) (pc1 := 52) rfl ?_
    refine ix_goto (tgt := 56) X (ix_tb_at tb_X12_goOver 28 rfl) (by decide) ?_
    exact ix_zret X hr hlk (by decide) (ix_r2 (f := fun r => some (.int r)) (g := ix_w z) h) (ix_tb_at tb_X12_goOver 30 rfl)
set_option maxRecDepth 20000 in
theorem t_X12_goOver_32 {l : Launch} {p : Program} {e : Env} {s : State} {m : MethodId} {args : Array Value} {below : List Frame} {meth : Method} {c : Code} {K : ix_Cx} (hKp : ix_Kp K) {n : Nat} {z : ix_Z} (X : ix_X p s m args c K cX12_goOver RX12 4) (hr : meth.sig.returnType = (some .boolean)) (hlk : meth.locks = false)  {a0 : Nat} {x2 : Int32} {x3 : Int32} {r : Int32} {d1 : ix_D2}  {d : ix_D2} (h : f_X12_goOver_32 n z  a0 x2 x3 d = some (r, d1)) : ix_G p l e (ix_rm 3 70 0 0) s m args below meth c (MQ below (ix_Post K (some (.int r)) (ix_w z d1)) args s 0 0 (ix_A K)) K 4 0 0 32 [(0, .ref (K.2.2.1 + a0)), (2, .int x2), (3, .int x3)] [] (ix_w z d) := by
  unfold f_X12_goOver_32 at h
  refine ix_aload_n (i := 0) (j := 0) X (ix_tb_at tb_X12_goOver 18 rfl) rfl rfl (pc1 := 33) rfl ?_
  refine ix_iload_n (i := 3) (j := 2) X (ix_tb_at tb_X12_goOver 19 rfl) rfl rfl (pc1 := 34) rfl ?_
  refine ix_if_ne (tgt := 41) X (ix_tb_at tb_X12_goOver 20 rfl) (by decide) (pc1 := 37) rfl (fun q_6 => ?_) (fun q_6 => ?_)
  · have h := ix_iff q_6 h
    refine ix_sipush (v := (-1005)) X (ix_tb_at tb_X12_goOver 23 rfl) (by decide) (pc1 := 44) rfl ?_
    refine ix_sub (L1 := [(3, .int x3)]) [2] rfl ?_
    exact t_X12_goOver_44 hKp X hr hlk  h
  · have h := ix_ift q_6 h
    refine ix_iload_n (i := 2) (j := 1) X (ix_tb_at tb_X12_goOver 21 rfl) rfl rfl (pc1 := 38) rfl ?_
    refine ix_goto (tgt := 44) X (ix_tb_at tb_X12_goOver 22 rfl) (by decide) ?_
    refine ix_sub (L1 := [(3, .int x3)]) [2] rfl ?_
    exact t_X12_goOver_44 hKp X hr hlk  h
set_option maxRecDepth 20000 in
theorem c_X12_goOver {l : Launch} {K : ix_Cx} (hKp : ix_Kp K) {n : Nat} {z : ix_Z} {a0 : Nat} {x1 : Int32} {x2 : Int32} {d : ix_D2} {r : Int32} {d1 : ix_D2} (h : f_X12_goOver n z a0 x1 x2 d = some (r, d1)) : ix_M l K yX12_goOver cX12_goOver 4 (some .boolean) 3 70 0 0 [.ref (K.2.2.1 + a0), .int x1, .int x2] (ix_w z d) (some (.int r)) (ix_w z d1) := by
  refine ix_met mf_X12_goOver hKp (Nat.le_of_ble_eq_true rfl) ?_
  intro p e s m args below meth c hr hlk hnm X
  have X : ix_X p s m args c K cX12_goOver RX12 4 := X
  show ix_G p l e (ix_rm 3 70 0 0) s m args below meth c (MQ below (ix_Post K (some (.int r)) (ix_w z d1)) args s 0 0 (ix_A K)) K 4 0 0 0 [(0, .ref (K.2.2.1 + a0)), (1, .int x1), (2, .int x2)] [] (ix_w z d)
  unfold f_X12_goOver at h
  refine ix_aload_n (i := 0) (j := 0) X (ix_tb_at tb_X12_goOver 0 rfl) rfl rfl (pc1 := 1) rfl ?_
  refine ix_iload_n (i := 1) (j := 1) X (ix_tb_at tb_X12_goOver 1 rfl) rfl rfl (pc1 := 2) rfl ?_
  refine ix_iload_n (i := 2) (j := 2) X (ix_tb_at tb_X12_goOver 2 rfl) rfl rfl (pc1 := 3) rfl ?_
  obtain ⟨k_3, h⟩ := ix_ck_some h
  obtain ⟨r_4, d_1, h_2, h⟩ := ix_bd2_ex h
  refine ix_callV (As := [.int x1, .int x2]) (rest := []) (ci := 11) (T := TX12) (nf := 116) X mf_X12_look mi_X12_look ms_X12_look rfl (Nat.le_of_ble_eq_true rfl) ml_RX12_451 ⟨Nat.le_of_ble_eq_true rfl, Nat.le_of_ble_eq_true rfl⟩ ⟨Nat.le_of_ble_eq_true rfl, Nat.le_of_ble_eq_true rfl⟩ rfl (Nat.le_of_ble_eq_true rfl) (ix_tb_at tb_X12_goOver 3 rfl) ⟨k_3.1, List.mem_singleton.mp k_3.2⟩ (c_X12_look hKp h_2) rfl (pc1 := 6) rfl ?_
  refine ix_istore_n (i := 3) (L1 := [(3, .int r_4), (0, .ref (K.2.2.1 + a0)), (1, .int x1), (2, .int x2)]) X (ix_tb_at tb_X12_goOver 4 rfl) rfl (Nat.le_of_ble_eq_true rfl) rfl (pc1 := 7) rfl ?_
  refine ix_iload_n (i := 3) (j := 0) X (ix_tb_at tb_X12_goOver 5 rfl) rfl rfl (pc1 := 8) rfl ?_
  refine ix_iconst (v := 1) X (ix_tb_at tb_X12_goOver 6 rfl) (by decide) (pc1 := 9) rfl ?_
  refine ix_icmp_ne (tgt := 32) X (ix_tb_at tb_X12_goOver 7 rfl) (by decide) (pc1 := 12) rfl (fun q_5 => ?_) (fun q_5 => ?_)
  · have h := ix_iff q_5 h
    refine ix_sub (L1 := [(0, .ref (K.2.2.1 + a0)), (2, .int x2), (3, .int r_4)]) [1, 3, 0] rfl ?_
    exact t_X12_goOver_32 hKp X hr hlk  h
  · have h := ix_ift q_5 h
    refine ix_aload_n (i := 0) (j := 1) X (ix_tb_at tb_X12_goOver 8 rfl) rfl rfl (pc1 := 13) rfl ?_
    refine iz_getI X fl_RX12_454 k_3 (ix_tb_at tb_X12_goOver 9 rfl) (pc1 := 16) rfl ?_
    refine ix_if_ge (tgt := 32) X (ix_tb_at tb_X12_goOver 10 rfl) (by decide) (pc1 := 19) rfl (fun q_11 => ?_) (fun q_11 => ?_)
    · have h := ix_ift q_11 h
      refine ix_sub (L1 := [(0, .ref (K.2.2.1 + a0)), (2, .int x2), (3, .int r_4)]) [1, 3, 0] rfl ?_
      exact t_X12_goOver_32 hKp X hr hlk  h
    · have h := ix_iff q_11 h
      refine ix_aload_n (i := 0) (j := 1) X (ix_tb_at tb_X12_goOver 11 rfl) rfl rfl (pc1 := 20) rfl ?_
      refine ix_iload_n (i := 2) (j := 3) X (ix_tb_at tb_X12_goOver 12 rfl) rfl rfl (pc1 := 21) rfl ?_
      obtain ⟨d_12, e_13, h⟩ := ix_lt_ex h
      refine iz_putI X fp_RX12_454 k_3 (ix_tb_at tb_X12_goOver 13 rfl) e_13 (pc1 := 24) rfl ?_
      refine ix_aload_n (i := 0) (j := 1) X (ix_tb_at tb_X12_goOver 14 rfl) rfl rfl (pc1 := 25) rfl ?_
      refine ix_aload_n (i := 0) (j := 1) X (ix_tb_at tb_X12_goOver 15 rfl) rfl rfl (pc1 := 26) rfl ?_
      refine iz_getI X fl_RX12_448 k_3 (ix_tb_at tb_X12_goOver 16 rfl) (pc1 := 29) rfl ?_
      obtain ⟨d_14, e_15, h⟩ := ix_lt_ex h
      refine iz_putI X fp_RX12_457 k_3 (ix_tb_at tb_X12_goOver 17 rfl) e_15 (pc1 := 32) rfl ?_
      refine ix_sub (L1 := [(0, .ref (K.2.2.1 + a0)), (2, .int x2), (3, .int r_4)]) [1, 3, 0] rfl ?_
      exact t_X12_goOver_32 hKp X hr hlk  h
def tab_X12_find : List (Nat × Instr × Nat) := [(0, .aload_n 0, 1), (1, .sipush (-1005), 3), (4, .putfield 460, 3), (7, .aload_n 0, 1), (8, .sipush (-1005), 3), (11, .putfield 454, 3), (14, .iconst 1, 1), (15, .istore_n 2, 1), (16, .iconst 0, 1), (17, .istore_n 3, 1), (18, .iload_n 3, 1), (19, .aload_n 0, 1), (20, .getfield 119, 3), (23, .iload_n 1, 1), (24, .iaload, 1), (25, .if_icmp .ge 43, 3), (28, .iload_n 2, 1), (29, .ifCond .eq 39, 3), (32, .aload_n 0, 1), (33, .getfield 122, 3), (36, .sipush 500, 3), (39, .iload_n 1, 1), (40, .imul, 1), (41, .iload_n 3, 1), (42, .iadd, 1), (43, .baload, 1), (44, .ifCond .eq 12, 3), (47, .aload_n 0, 1), (48, .iload_n 1, 1), (49, .iload_n 3, 1), (50, .invokevirtual 463, 3), (53, .ifCond .eq 7, 3), (56, .iconst 1, 1), (57, .goto 4, 3), (60, .iconst 0, 1), (61, .istore_n 2, 1), (62, .iinc 3 1, 3), (65, .goto (-47), 3), (68, .iconst 0, 1), (69, .istore_n 3, 1), (70, .iload_n 3, 1), (71, .aload_n 0, 1), (72, .getfield 467, 3), (75, .if_icmp .ge 36, 3), (78, .iload_n 1, 1), (79, .iconst 1, 1), (80, .if_icmp .eq 10, 3), (83, .aload_n 0, 1), (84, .getfield 470, 3), (87, .ifCond .eq 24, 3), (90, .iload_n 2, 1), (91, .ifCond .eq 20, 3), (94, .aload_n 0, 1), (95, .iload_n 1, 1), (96, .sipush 1000, 3), (99, .iload_n 3, 1), (100, .iadd, 1), (101, .invokevirtual 463, 3), (104, .istore_n 2, 1), (105, .iinc 3 1, 3), (108, .goto (-38), 3), (111, .iconst 0, 1), (112, .istore_n 3, 1), (113, .iload_n 3, 1), (114, .aload_n 0, 1), (115, .getfield 171, 3), (118, .iload_n 1, 1), (119, .iaload, 1), (120, .if_icmp .ge 47, 3), (123, .iload_n 2, 1), (124, .ifCond .eq 43, 3), (127, .aload_n 0, 1), (128, .getfield 174, 3), (131, .sipush 800, 3), (134, .iload_n 1, 1), (135, .imul, 1), (136, .iload_n 3, 1), (137, .iadd, 1), (138, .baload, 1), (139, .ifCond .eq 16, 3), (142, .aload_n 0, 1), (143, .iload_n 1, 1), (144, .sipush 2000, 3), (147, .iload_n 3, 1), (148, .iadd, 1), (149, .invokevirtual 463, 3), (152, .ifCond .eq 7, 3), (155, .iconst 1, 1), (156, .goto 4, 3), (159, .iconst 0, 1), (160, .istore_n 2, 1), (161, .iinc 3 1, 3), (164, .goto (-51), 3), (167, .return_, 1)]
theorem tb_X12_find : ix_tab cX12_find tab_X12_find := by
  unfold ix_tab
  decide +kernel
noncomputable def f_X12_find_160 (n : Nat) (z : ix_Z) (rec113 : Int32 → Int32 → ix_D2 → Option (ix_D2)) (a0 : Nat) (x1 : Int32) (x3 : Int32) (s0 : Int32) (d : ix_D2) : Option (ix_D2) :=
  ix_lt (x3 + 1) (fun x3_23 => rec113 s0 x3_23 d)
noncomputable def f_X12_find_155 (n : Nat) (z : ix_Z) (rec113 : Int32 → Int32 → ix_D2 → Option (ix_D2)) (a0 : Nat) (x1 : Int32) (x3 : Int32) (d : ix_D2) : Option (ix_D2) :=
  f_X12_find_160 n z rec113 a0 x1 x3 1 d
noncomputable def b_X12_find_113 (n : Nat) (z : ix_Z)  (a0 : Nat) (x1 : Int32) (rec113 : Int32 → Int32 → ix_D2 → Option (ix_D2)) (x2 : Int32) (x3 : Int32) (d : ix_D2) : Option (ix_D2) :=
  ix_ck (ix_ok z [11] a0) (ix_bd1 (z.1 a0 81) (fun b_14 => ix_ck (ix_ix z 20 b_14 x1) (ix_if (d.1 b_14 (ix_n x1) ≤ x3) (some d) (ix_if (x2 = 0) (some d) (ix_bd1 (z.1 a0 82) (fun b_19 => ix_ck (ix_ix z 22 b_19 ((800 * x1) + x3)) (ix_if (d.1 b_19 (ix_n ((800 * x1) + x3)) = 0) (f_X12_find_155 n z rec113 a0 x1 x3 d) (ix_bd2 (f_X12_goOver n z a0 x1 (2000 + x3) d) (fun r_27 d_25 => ix_if (r_27 = 0) (f_X12_find_160 n z rec113 a0 x1 x3 0 d_25) (f_X12_find_155 n z rec113 a0 x1 x3 d_25))))))))))
noncomputable def f_X12_find_113 (n : Nat) (z : ix_Z)  (a0 : Nat) (x1 : Int32) (x2 : Int32) (x3 : Int32) (d : ix_D2) : Option (ix_D2) := ix_fix (b_X12_find_113 n z  a0 x1) (fun _ _ _ => none) n x2 x3 d
noncomputable def f_X12_find_111 (n : Nat) (z : ix_Z)  (a0 : Nat) (x1 : Int32) (x2 : Int32) (d : ix_D2) : Option (ix_D2) :=
  f_X12_find_113 n z  a0 x1 x2 0 d
noncomputable def f_X12_find_90 (n : Nat) (z : ix_Z) (rec70 : Int32 → Int32 → ix_D2 → Option (ix_D2)) (a0 : Nat) (x1 : Int32) (x2 : Int32) (x3 : Int32) (d : ix_D2) : Option (ix_D2) :=
  ix_if (x2 = 0) (f_X12_find_111 n z  a0 x1 x2 d) (ix_ck (ix_ok z [11] a0) (ix_bd2 (f_X12_goOver n z a0 x1 (1000 + x3) d) (fun r_34 d_31 => ix_lt (x3 + 1) (fun x3_35 => rec70 r_34 x3_35 d_31))))
noncomputable def b_X12_find_70 (n : Nat) (z : ix_Z)  (a0 : Nat) (x1 : Int32) (rec70 : Int32 → Int32 → ix_D2 → Option (ix_D2)) (x2 : Int32) (x3 : Int32) (d : ix_D2) : Option (ix_D2) :=
  ix_ck (ix_ok z [11] a0) (ix_if (d.1 a0 67 ≤ x3) (f_X12_find_111 n z  a0 x1 x2 d) (ix_if (x1 = 1) (f_X12_find_90 n z rec70 a0 x1 x2 x3 d) (ix_if (d.1 a0 58 = 0) (f_X12_find_111 n z  a0 x1 x2 d) (f_X12_find_90 n z rec70 a0 x1 x2 x3 d))))
noncomputable def f_X12_find_70 (n : Nat) (z : ix_Z)  (a0 : Nat) (x1 : Int32) (x2 : Int32) (x3 : Int32) (d : ix_D2) : Option (ix_D2) := ix_fix (b_X12_find_70 n z  a0 x1) (fun _ _ _ => none) n x2 x3 d
noncomputable def f_X12_find_68 (n : Nat) (z : ix_Z)  (a0 : Nat) (x1 : Int32) (x2 : Int32) (d : ix_D2) : Option (ix_D2) :=
  f_X12_find_70 n z  a0 x1 x2 0 d
noncomputable def f_X12_find_61 (n : Nat) (z : ix_Z) (rec18 : Int32 → Int32 → ix_D2 → Option (ix_D2)) (a0 : Nat) (x1 : Int32) (x3 : Int32) (s0 : Int32) (d : ix_D2) : Option (ix_D2) :=
  ix_lt (x3 + 1) (fun x3_43 => rec18 s0 x3_43 d)
noncomputable def f_X12_find_56 (n : Nat) (z : ix_Z) (rec18 : Int32 → Int32 → ix_D2 → Option (ix_D2)) (a0 : Nat) (x1 : Int32) (x3 : Int32) (d : ix_D2) : Option (ix_D2) :=
  f_X12_find_61 n z rec18 a0 x1 x3 1 d
noncomputable def b_X12_find_18 (n : Nat) (z : ix_Z)  (a0 : Nat) (x1 : Int32) (rec18 : Int32 → Int32 → ix_D2 → Option (ix_D2)) (x2 : Int32) (x3 : Int32) (d : ix_D2) : Option (ix_D2) :=
  ix_ck (ix_ok z [11] a0) (ix_bd1 (z.1 a0 62) (fun b_7 => ix_ck (ix_ix z 20 b_7 x1) (ix_if (d.1 b_7 (ix_n x1) ≤ x3) (f_X12_find_68 n z  a0 x1 x2 d) (ix_if (x2 = 0) (f_X12_find_68 n z  a0 x1 x2 d) (ix_bd1 (z.1 a0 63) (fun b_39 => ix_ck (ix_ix z 22 b_39 ((500 * x1) + x3)) (ix_if (d.1 b_39 (ix_n ((500 * x1) + x3)) = 0) (f_X12_find_56 n z rec18 a0 x1 x3 d) (ix_bd2 (f_X12_goOver n z a0 x1 x3 d) (fun r_47 d_45 => ix_if (r_47 = 0) (f_X12_find_61 n z rec18 a0 x1 x3 0 d_45) (f_X12_find_56 n z rec18 a0 x1 x3 d_45))))))))))
noncomputable def f_X12_find_18 (n : Nat) (z : ix_Z)  (a0 : Nat) (x1 : Int32) (x2 : Int32) (x3 : Int32) (d : ix_D2) : Option (ix_D2) := ix_fix (b_X12_find_18 n z  a0 x1) (fun _ _ _ => none) n x2 x3 d
noncomputable def f_X12_find (n : Nat) (z : ix_Z) (a0 : Nat) (x1 : Int32) (d : ix_D2) : Option (ix_D2) :=
  ix_ck (ix_ok z [11] a0) (ix_lt (ix_di d a0 98 ((-1005))) (fun d_2 => ix_lt (ix_di d_2 a0 99 ((-1005))) (fun d_4 => f_X12_find_18 n z  a0 x1 1 0 d_4)))
set_option maxRecDepth 20000 in
theorem t_X12_find_160 {l : Launch} {p : Program} {e : Env} {s : State} {m : MethodId} {args : Array Value} {below : List Frame} {meth : Method} {c : Code} {K : ix_Cx} (hKp : ix_Kp K) {n : Nat} {z : ix_Z} (X : ix_X p s m args c K cX12_find RX12 4) (hr : meth.sig.returnType = (none : Option Jvm.ClassFile.FieldType)) (hlk : meth.locks = false) {rec113 : Int32 → Int32 → ix_D2 → Option (ix_D2)} {a0 : Nat} {x1 : Int32} {x3 : Int32} {s0 : Int32} {d1 : ix_D2} (hrec113 : ∀ (x2 : Int32) (x3 : Int32) (d : ix_D2), rec113 x2 x3 d = some d1 → ix_G p l e (ix_rm 4 93 0 0) s m args below meth c (MQ below (ix_Post K none (ix_w z d1)) args s 0 0 (ix_A K)) K 4 0 0 113 [(0, .ref (K.2.2.1 + a0)), (1, .int x1), (2, .int x2), (3, .int x3)] [] (ix_w z d)) {d : ix_D2} (h : f_X12_find_160 n z rec113 a0 x1 x3 s0 d = some d1) : ix_G p l e (ix_rm 4 93 0 0) s m args below meth c (MQ below (ix_Post K none (ix_w z d1)) args s 0 0 (ix_A K)) K 4 0 0 160 [(0, .ref (K.2.2.1 + a0)), (1, .int x1), (3, .int x3)] [.int s0] (ix_w z d) := by
  unfold f_X12_find_160 at h
  refine ix_istore_n (i := 2) (L1 := [(2, .int s0), (0, .ref (K.2.2.1 + a0)), (1, .int x1), (3, .int x3)]) X (ix_tb_at tb_X12_find 90 rfl) rfl (Nat.le_of_ble_eq_true rfl) rfl (pc1 := 161) rfl ?_
  obtain ⟨x3_23, e_24, h⟩ := ix_lt_ex h
  refine ix_iinc (i := 3) (j := 3) (v := x3_23) (L1 := [(3, .int x3_23), (2, .int s0), (0, .ref (K.2.2.1 + a0)), (1, .int x1)]) X (ix_tb_at tb_X12_find 91 rfl) rfl (by rw [oi_1]; exact e_24.symm) (Nat.le_of_ble_eq_true rfl) rfl (pc1 := 164) rfl ?_
  refine ix_goto (tgt := 113) X (ix_tb_at tb_X12_find 92 rfl) (by decide) ?_
  refine ix_sub (L1 := [(0, .ref (K.2.2.1 + a0)), (1, .int x1), (2, .int s0), (3, .int x3_23)]) [2, 3, 1, 0] rfl ?_
  exact hrec113 s0 x3_23 d h
set_option maxRecDepth 20000 in
theorem t_X12_find_155 {l : Launch} {p : Program} {e : Env} {s : State} {m : MethodId} {args : Array Value} {below : List Frame} {meth : Method} {c : Code} {K : ix_Cx} (hKp : ix_Kp K) {n : Nat} {z : ix_Z} (X : ix_X p s m args c K cX12_find RX12 4) (hr : meth.sig.returnType = (none : Option Jvm.ClassFile.FieldType)) (hlk : meth.locks = false) {rec113 : Int32 → Int32 → ix_D2 → Option (ix_D2)} {a0 : Nat} {x1 : Int32} {x3 : Int32} {d1 : ix_D2} (hrec113 : ∀ (x2 : Int32) (x3 : Int32) (d : ix_D2), rec113 x2 x3 d = some d1 → ix_G p l e (ix_rm 4 93 0 0) s m args below meth c (MQ below (ix_Post K none (ix_w z d1)) args s 0 0 (ix_A K)) K 4 0 0 113 [(0, .ref (K.2.2.1 + a0)), (1, .int x1), (2, .int x2), (3, .int x3)] [] (ix_w z d)) {d : ix_D2} (h : f_X12_find_155 n z rec113 a0 x1 x3 d = some d1) : ix_G p l e (ix_rm 4 93 0 0) s m args below meth c (MQ below (ix_Post K none (ix_w z d1)) args s 0 0 (ix_A K)) K 4 0 0 155 [(0, .ref (K.2.2.1 + a0)), (1, .int x1), (3, .int x3)] [] (ix_w z d) := by
  unfold f_X12_find_155 at h
  refine ix_iconst (v := 1) X (ix_tb_at tb_X12_find 87 rfl) (by decide) (pc1 := 156) rfl ?_
  refine ix_goto (tgt := 160) X (ix_tb_at tb_X12_find 88 rfl) (by decide) ?_
  refine ix_sub (L1 := [(0, .ref (K.2.2.1 + a0)), (1, .int x1), (3, .int x3)]) [0, 1, 2] rfl ?_
  exact t_X12_find_160 hKp X hr hlk hrec113 h
set_option maxRecDepth 20000 in
theorem tb_X12_find_113 {l : Launch} {p : Program} {e : Env} {s : State} {m : MethodId} {args : Array Value} {below : List Frame} {meth : Method} {c : Code} {K : ix_Cx} (hKp : ix_Kp K) {n : Nat} {z : ix_Z} (X : ix_X p s m args c K cX12_find RX12 4) (hr : meth.sig.returnType = (none : Option Jvm.ClassFile.FieldType)) (hlk : meth.locks = false)  {a0 : Nat} {x1 : Int32} {rec113 : Int32 → Int32 → ix_D2 → Option (ix_D2)} {d1 : ix_D2} (hrec113 : ∀ (x2 : Int32) (x3 : Int32) (d : ix_D2), rec113 x2 x3 d = some d1 → ix_G p l e (ix_rm 4 93 0 0) s m args below meth c (MQ below (ix_Post K none (ix_w z d1)) args s 0 0 (ix_A K)) K 4 0 0 113 [(0, .ref (K.2.2.1 + a0)), (1, .int x1), (2, .int x2), (3, .int x3)] [] (ix_w z d)) {x2 : Int32} {x3 : Int32} {d : ix_D2} (h : b_X12_find_113 n z  a0 x1 rec113 x2 x3 d = some d1) : ix_G p l e (ix_rm 4 93 0 0) s m args below meth c (MQ below (ix_Post K none (ix_w z d1)) args s 0 0 (ix_A K)) K 4 0 0 113 [(0, .ref (K.2.2.1 + a0)), (1, .int x1), (2, .int x2), (3, .int x3)] [] (ix_w z d) := by
  unfold b_X12_find_113 at h
  refine ix_iload_n (i := 3) (j := 3) X (ix_tb_at tb_X12_find 63 rfl) rfl rfl (pc1 := 114) rfl ?_
  refine ix_aload_n (i := 0) (j := 0) X (ix_tb_at tb_X12_find 64 rfl) rfl rfl (pc1 := 115) rfl ?_
  obtain ⟨k_13, h⟩ := ix_ck_some h
  obtain ⟨b_14, q_15, h⟩ := ix_bd1_ex h
  refine iz_getR X fl_RX12_171 k_13 q_15 (ix_tb_at tb_X12_find 65 rfl) (pc1 := 118) rfl ?_
  refine ix_iload_n (i := 1) (j := 1) X (ix_tb_at tb_X12_find 66 rfl) rfl rfl (pc1 := 119) rfl ?_
  obtain ⟨k_16, h⟩ := ix_ck_some h
  refine iz_iald X k_16 (ix_tb_at tb_X12_find 67 rfl) (pc1 := 120) rfl ?_
  refine ix_icmp_ge (tgt := 167) X (ix_tb_at tb_X12_find 68 rfl) (by decide) (pc1 := 123) rfl (fun q_17 => ?_) (fun q_17 => ?_)
  · have h := ix_ift q_17 h
    exact ix_vret X hr hlk (ix_r1 (g := ix_w z) h) (ix_tb_at tb_X12_find 93 rfl)
  · have h := ix_iff q_17 h
    refine ix_iload_n (i := 2) (j := 2) X (ix_tb_at tb_X12_find 69 rfl) rfl rfl (pc1 := 124) rfl ?_
    refine ix_if_eq (tgt := 167) X (ix_tb_at tb_X12_find 70 rfl) (by decide) (pc1 := 127) rfl (fun q_18 => ?_) (fun q_18 => ?_)
    · have h := ix_ift q_18 h
      exact ix_vret X hr hlk (ix_r1 (g := ix_w z) h) (ix_tb_at tb_X12_find 93 rfl)
    · have h := ix_iff q_18 h
      refine ix_aload_n (i := 0) (j := 0) X (ix_tb_at tb_X12_find 71 rfl) rfl rfl (pc1 := 128) rfl ?_
      obtain ⟨b_19, q_20, h⟩ := ix_bd1_ex h
      refine iz_getR X fl_RX12_174 k_13 q_20 (ix_tb_at tb_X12_find 72 rfl) (pc1 := 131) rfl ?_
      refine ix_sipush (v := 800) X (ix_tb_at tb_X12_find 73 rfl) (by decide) (pc1 := 134) rfl ?_
      refine ix_iload_n (i := 1) (j := 1) X (ix_tb_at tb_X12_find 74 rfl) rfl rfl (pc1 := 135) rfl ?_
      refine ix_imul X (ix_tb_at tb_X12_find 75 rfl) (pc1 := 136) rfl ?_
      refine ix_iload_n (i := 3) (j := 3) X (ix_tb_at tb_X12_find 76 rfl) rfl rfl (pc1 := 137) rfl ?_
      refine ix_iadd X (ix_tb_at tb_X12_find 77 rfl) (pc1 := 138) rfl ?_
      obtain ⟨k_21, h⟩ := ix_ck_some h
      refine iz_zald X k_21 (ix_tb_at tb_X12_find 78 rfl) (pc1 := 139) rfl ?_
      refine ix_if_eq (tgt := 155) X (ix_tb_at tb_X12_find 79 rfl) (by decide) (pc1 := 142) rfl (fun q_22 => ?_) (fun q_22 => ?_)
      · have h := ix_ift q_22 h
        refine ix_sub (L1 := [(0, .ref (K.2.2.1 + a0)), (1, .int x1), (3, .int x3)]) [0, 1, 3] rfl ?_
        exact t_X12_find_155 hKp X hr hlk hrec113 h
      · have h := ix_iff q_22 h
        refine ix_aload_n (i := 0) (j := 0) X (ix_tb_at tb_X12_find 80 rfl) rfl rfl (pc1 := 143) rfl ?_
        refine ix_iload_n (i := 1) (j := 1) X (ix_tb_at tb_X12_find 81 rfl) rfl rfl (pc1 := 144) rfl ?_
        refine ix_sipush (v := 2000) X (ix_tb_at tb_X12_find 82 rfl) (by decide) (pc1 := 147) rfl ?_
        refine ix_iload_n (i := 3) (j := 3) X (ix_tb_at tb_X12_find 83 rfl) rfl rfl (pc1 := 148) rfl ?_
        refine ix_iadd X (ix_tb_at tb_X12_find 84 rfl) (pc1 := 149) rfl ?_
        obtain ⟨r_27, d_25, h_26, h⟩ := ix_bd2_ex h
        refine ix_callV (As := [.int x1, .int (2000 + x3)]) (rest := []) (ci := 11) (T := TX12) (nf := 116) X mf_X12_goOver mi_X12_goOver ms_X12_goOver rfl (Nat.le_of_ble_eq_true rfl) ml_RX12_463 ⟨Nat.le_of_ble_eq_true rfl, Nat.le_of_ble_eq_true rfl⟩ ⟨Nat.le_of_ble_eq_true rfl, Nat.le_of_ble_eq_true rfl⟩ rfl (Nat.le_of_ble_eq_true rfl) (ix_tb_at tb_X12_find 85 rfl) ⟨k_13.1, List.mem_singleton.mp k_13.2⟩ (c_X12_goOver hKp h_26) rfl (pc1 := 152) rfl ?_
        refine ix_if_eq (tgt := 159) X (ix_tb_at tb_X12_find 86 rfl) (by decide) (pc1 := 155) rfl (fun q_28 => ?_) (fun q_28 => ?_)
        · have h := ix_ift q_28 h
          refine ix_iconst (v := 0) X (ix_tb_at tb_X12_find 89 rfl) (by decide) (pc1 := 160) rfl ?_
          refine ix_sub (L1 := [(0, .ref (K.2.2.1 + a0)), (1, .int x1), (3, .int x3)]) [0, 1, 3] rfl ?_
          exact t_X12_find_160 hKp X hr hlk hrec113 h
        · have h := ix_iff q_28 h
          refine ix_sub (L1 := [(0, .ref (K.2.2.1 + a0)), (1, .int x1), (3, .int x3)]) [0, 1, 3] rfl ?_
          exact t_X12_find_155 hKp X hr hlk hrec113 h
theorem t_X12_find_113 {l : Launch} {p : Program} {e : Env} {s : State} {m : MethodId} {args : Array Value} {below : List Frame} {meth : Method} {c : Code} {K : ix_Cx} (hKp : ix_Kp K) {n : Nat} {z : ix_Z} (X : ix_X p s m args c K cX12_find RX12 4) (hr : meth.sig.returnType = (none : Option Jvm.ClassFile.FieldType)) (hlk : meth.locks = false)  {a0 : Nat} {x1 : Int32} {d1 : ix_D2}  {x2 : Int32} {x3 : Int32} {d : ix_D2} (h : f_X12_find_113 n z  a0 x1 x2 x3 d = some d1) : ix_G p l e (ix_rm 4 93 0 0) s m args below meth c (MQ below (ix_Post K none (ix_w z d1)) args s 0 0 (ix_A K)) K 4 0 0 113 [(0, .ref (K.2.2.1 + a0)), (1, .int x1), (2, .int x2), (3, .int x3)] [] (ix_w z d) := by
  have key : ∀ (f : Nat) (x2 : Int32) (x3 : Int32) (d : ix_D2), ix_fix (b_X12_find_113 n z  a0 x1) (fun _ _ _ => none) f x2 x3 d = some d1 → ix_G p l e (ix_rm 4 93 0 0) s m args below meth c (MQ below (ix_Post K none (ix_w z d1)) args s 0 0 (ix_A K)) K 4 0 0 113 [(0, .ref (K.2.2.1 + a0)), (1, .int x1), (2, .int x2), (3, .int x3)] [] (ix_w z d) := by
    intro f
    induction f with
    | zero =>
      intro x2 x3 d h
      have h : (none : Option (ix_D2)) = some d1 := h
      cases h
    | succ f ih =>
      intro x2 x3 d h
      exact tb_X12_find_113 hKp X hr hlk (rec113 := ix_fix (b_X12_find_113 n z  a0 x1) (fun _ _ _ => none) f)  ih h
  exact key n x2 x3 d h
set_option maxRecDepth 20000 in
theorem t_X12_find_111 {l : Launch} {p : Program} {e : Env} {s : State} {m : MethodId} {args : Array Value} {below : List Frame} {meth : Method} {c : Code} {K : ix_Cx} (hKp : ix_Kp K) {n : Nat} {z : ix_Z} (X : ix_X p s m args c K cX12_find RX12 4) (hr : meth.sig.returnType = (none : Option Jvm.ClassFile.FieldType)) (hlk : meth.locks = false)  {a0 : Nat} {x1 : Int32} {x2 : Int32} {d1 : ix_D2}  {d : ix_D2} (h : f_X12_find_111 n z  a0 x1 x2 d = some d1) : ix_G p l e (ix_rm 4 93 0 0) s m args below meth c (MQ below (ix_Post K none (ix_w z d1)) args s 0 0 (ix_A K)) K 4 0 0 111 [(0, .ref (K.2.2.1 + a0)), (1, .int x1), (2, .int x2)] [] (ix_w z d) := by
  unfold f_X12_find_111 at h
  refine ix_iconst (v := 0) X (ix_tb_at tb_X12_find 61 rfl) (by decide) (pc1 := 112) rfl ?_
  refine ix_istore_n (i := 3) (L1 := [(3, .int 0), (0, .ref (K.2.2.1 + a0)), (1, .int x1), (2, .int x2)]) X (ix_tb_at tb_X12_find 62 rfl) rfl (Nat.le_of_ble_eq_true rfl) rfl (pc1 := 113) rfl ?_
  refine ix_sub (L1 := [(0, .ref (K.2.2.1 + a0)), (1, .int x1), (2, .int x2), (3, .int 0)]) [1, 2, 3, 0] rfl ?_
  exact t_X12_find_113 hKp X hr hlk  h
set_option maxRecDepth 20000 in
theorem t_X12_find_90 {l : Launch} {p : Program} {e : Env} {s : State} {m : MethodId} {args : Array Value} {below : List Frame} {meth : Method} {c : Code} {K : ix_Cx} (hKp : ix_Kp K) {n : Nat} {z : ix_Z} (X : ix_X p s m args c K cX12_find RX12 4) (hr : meth.sig.returnType = (none : Option Jvm.ClassFile.FieldType)) (hlk : meth.locks = false) {rec70 : Int32 → Int32 → ix_D2 → Option (ix_D2)} {a0 : Nat} {x1 : Int32} {x2 : Int32} {x3 : Int32} {d1 : ix_D2} (hrec70 : ∀ (x2 : Int32) (x3 : Int32) (d : ix_D2), rec70 x2 x3 d = some d1 → ix_G p l e (ix_rm 4 93 0 0) s m args below meth c (MQ below (ix_Post K none (ix_w z d1)) args s 0 0 (ix_A K)) K 4 0 0 70 [(0, .ref (K.2.2.1 + a0)), (1, .int x1), (2, .int x2), (3, .int x3)] [] (ix_w z d)) {d : ix_D2} (h : f_X12_find_90 n z rec70 a0 x1 x2 x3 d = some d1) : ix_G p l e (ix_rm 4 93 0 0) s m args below meth c (MQ below (ix_Post K none (ix_w z d1)) args s 0 0 (ix_A K)) K 4 0 0 90 [(0, .ref (K.2.2.1 + a0)), (1, .int x1), (2, .int x2), (3, .int x3)] [] (ix_w z d) := by
  unfold f_X12_find_90 at h
  refine ix_iload_n (i := 2) (j := 2) X (ix_tb_at tb_X12_find 50 rfl) rfl rfl (pc1 := 91) rfl ?_
  refine ix_if_eq (tgt := 111) X (ix_tb_at tb_X12_find 51 rfl) (by decide) (pc1 := 94) rfl (fun q_30 => ?_) (fun q_30 => ?_)
  · have h := ix_ift q_30 h
    refine ix_sub (L1 := [(0, .ref (K.2.2.1 + a0)), (1, .int x1), (2, .int x2)]) [0, 1, 2] rfl ?_
    exact t_X12_find_111 hKp X hr hlk  h
  · have h := ix_iff q_30 h
    refine ix_aload_n (i := 0) (j := 0) X (ix_tb_at tb_X12_find 52 rfl) rfl rfl (pc1 := 95) rfl ?_
    refine ix_iload_n (i := 1) (j := 1) X (ix_tb_at tb_X12_find 53 rfl) rfl rfl (pc1 := 96) rfl ?_
    refine ix_sipush (v := 1000) X (ix_tb_at tb_X12_find 54 rfl) (by decide) (pc1 := 99) rfl ?_
    refine ix_iload_n (i := 3) (j := 3) X (ix_tb_at tb_X12_find 55 rfl) rfl rfl (pc1 := 100) rfl ?_
    refine ix_iadd X (ix_tb_at tb_X12_find 56 rfl) (pc1 := 101) rfl ?_
    obtain ⟨k_33, h⟩ := ix_ck_some h
    obtain ⟨r_34, d_31, h_32, h⟩ := ix_bd2_ex h
    refine ix_callV (As := [.int x1, .int (1000 + x3)]) (rest := []) (ci := 11) (T := TX12) (nf := 116) X mf_X12_goOver mi_X12_goOver ms_X12_goOver rfl (Nat.le_of_ble_eq_true rfl) ml_RX12_463 ⟨Nat.le_of_ble_eq_true rfl, Nat.le_of_ble_eq_true rfl⟩ ⟨Nat.le_of_ble_eq_true rfl, Nat.le_of_ble_eq_true rfl⟩ rfl (Nat.le_of_ble_eq_true rfl) (ix_tb_at tb_X12_find 57 rfl) ⟨k_33.1, List.mem_singleton.mp k_33.2⟩ (c_X12_goOver hKp h_32) rfl (pc1 := 104) rfl ?_
    refine ix_istore_n (i := 2) (L1 := [(2, .int r_34), (0, .ref (K.2.2.1 + a0)), (1, .int x1), (3, .int x3)]) X (ix_tb_at tb_X12_find 58 rfl) rfl (Nat.le_of_ble_eq_true rfl) rfl (pc1 := 105) rfl ?_
    obtain ⟨x3_35, e_36, h⟩ := ix_lt_ex h
    refine ix_iinc (i := 3) (j := 3) (v := x3_35) (L1 := [(3, .int x3_35), (2, .int r_34), (0, .ref (K.2.2.1 + a0)), (1, .int x1)]) X (ix_tb_at tb_X12_find 59 rfl) rfl (by rw [oi_1]; exact e_36.symm) (Nat.le_of_ble_eq_true rfl) rfl (pc1 := 108) rfl ?_
    refine ix_goto (tgt := 70) X (ix_tb_at tb_X12_find 60 rfl) (by decide) ?_
    refine ix_sub (L1 := [(0, .ref (K.2.2.1 + a0)), (1, .int x1), (2, .int r_34), (3, .int x3_35)]) [2, 3, 1, 0] rfl ?_
    exact hrec70 r_34 x3_35 d_31 h
set_option maxRecDepth 20000 in
theorem tb_X12_find_70 {l : Launch} {p : Program} {e : Env} {s : State} {m : MethodId} {args : Array Value} {below : List Frame} {meth : Method} {c : Code} {K : ix_Cx} (hKp : ix_Kp K) {n : Nat} {z : ix_Z} (X : ix_X p s m args c K cX12_find RX12 4) (hr : meth.sig.returnType = (none : Option Jvm.ClassFile.FieldType)) (hlk : meth.locks = false)  {a0 : Nat} {x1 : Int32} {rec70 : Int32 → Int32 → ix_D2 → Option (ix_D2)} {d1 : ix_D2} (hrec70 : ∀ (x2 : Int32) (x3 : Int32) (d : ix_D2), rec70 x2 x3 d = some d1 → ix_G p l e (ix_rm 4 93 0 0) s m args below meth c (MQ below (ix_Post K none (ix_w z d1)) args s 0 0 (ix_A K)) K 4 0 0 70 [(0, .ref (K.2.2.1 + a0)), (1, .int x1), (2, .int x2), (3, .int x3)] [] (ix_w z d)) {x2 : Int32} {x3 : Int32} {d : ix_D2} (h : b_X12_find_70 n z  a0 x1 rec70 x2 x3 d = some d1) : ix_G p l e (ix_rm 4 93 0 0) s m args below meth c (MQ below (ix_Post K none (ix_w z d1)) args s 0 0 (ix_A K)) K 4 0 0 70 [(0, .ref (K.2.2.1 + a0)), (1, .int x1), (2, .int x2), (3, .int x3)] [] (ix_w z d) := by
  unfold b_X12_find_70 at h
  refine ix_iload_n (i := 3) (j := 3) X (ix_tb_at tb_X12_find 40 rfl) rfl rfl (pc1 := 71) rfl ?_
  refine ix_aload_n (i := 0) (j := 0) X (ix_tb_at tb_X12_find 41 rfl) rfl rfl (pc1 := 72) rfl ?_
  obtain ⟨k_11, h⟩ := ix_ck_some h
  refine iz_getI X fl_RX12_467 k_11 (ix_tb_at tb_X12_find 42 rfl) (pc1 := 75) rfl ?_
  refine ix_icmp_ge (tgt := 111) X (ix_tb_at tb_X12_find 43 rfl) (by decide) (pc1 := 78) rfl (fun q_12 => ?_) (fun q_12 => ?_)
  · have h := ix_ift q_12 h
    refine ix_sub (L1 := [(0, .ref (K.2.2.1 + a0)), (1, .int x1), (2, .int x2)]) [0, 1, 2] rfl ?_
    exact t_X12_find_111 hKp X hr hlk  h
  · have h := ix_iff q_12 h
    refine ix_iload_n (i := 1) (j := 1) X (ix_tb_at tb_X12_find 44 rfl) rfl rfl (pc1 := 79) rfl ?_
    refine ix_iconst (v := 1) X (ix_tb_at tb_X12_find 45 rfl) (by decide) (pc1 := 80) rfl ?_
    refine ix_icmp_eq (tgt := 90) X (ix_tb_at tb_X12_find 46 rfl) (by decide) (pc1 := 83) rfl (fun q_29 => ?_) (fun q_29 => ?_)
    · have h := ix_ift q_29 h
      refine ix_sub (L1 := [(0, .ref (K.2.2.1 + a0)), (1, .int x1), (2, .int x2), (3, .int x3)]) [0, 1, 2, 3] rfl ?_
      exact t_X12_find_90 hKp X hr hlk hrec70 h
    · have h := ix_iff q_29 h
      refine ix_aload_n (i := 0) (j := 0) X (ix_tb_at tb_X12_find 47 rfl) rfl rfl (pc1 := 84) rfl ?_
      refine iz_getI X fl_RX12_470 k_11 (ix_tb_at tb_X12_find 48 rfl) (pc1 := 87) rfl ?_
      refine ix_if_eq (tgt := 111) X (ix_tb_at tb_X12_find 49 rfl) (by decide) (pc1 := 90) rfl (fun q_37 => ?_) (fun q_37 => ?_)
      · have h := ix_ift q_37 h
        refine ix_sub (L1 := [(0, .ref (K.2.2.1 + a0)), (1, .int x1), (2, .int x2)]) [0, 1, 2] rfl ?_
        exact t_X12_find_111 hKp X hr hlk  h
      · have h := ix_iff q_37 h
        refine ix_sub (L1 := [(0, .ref (K.2.2.1 + a0)), (1, .int x1), (2, .int x2), (3, .int x3)]) [0, 1, 2, 3] rfl ?_
        exact t_X12_find_90 hKp X hr hlk hrec70 h
theorem t_X12_find_70 {l : Launch} {p : Program} {e : Env} {s : State} {m : MethodId} {args : Array Value} {below : List Frame} {meth : Method} {c : Code} {K : ix_Cx} (hKp : ix_Kp K) {n : Nat} {z : ix_Z} (X : ix_X p s m args c K cX12_find RX12 4) (hr : meth.sig.returnType = (none : Option Jvm.ClassFile.FieldType)) (hlk : meth.locks = false)  {a0 : Nat} {x1 : Int32} {d1 : ix_D2}  {x2 : Int32} {x3 : Int32} {d : ix_D2} (h : f_X12_find_70 n z  a0 x1 x2 x3 d = some d1) : ix_G p l e (ix_rm 4 93 0 0) s m args below meth c (MQ below (ix_Post K none (ix_w z d1)) args s 0 0 (ix_A K)) K 4 0 0 70 [(0, .ref (K.2.2.1 + a0)), (1, .int x1), (2, .int x2), (3, .int x3)] [] (ix_w z d) := by
  have key : ∀ (f : Nat) (x2 : Int32) (x3 : Int32) (d : ix_D2), ix_fix (b_X12_find_70 n z  a0 x1) (fun _ _ _ => none) f x2 x3 d = some d1 → ix_G p l e (ix_rm 4 93 0 0) s m args below meth c (MQ below (ix_Post K none (ix_w z d1)) args s 0 0 (ix_A K)) K 4 0 0 70 [(0, .ref (K.2.2.1 + a0)), (1, .int x1), (2, .int x2), (3, .int x3)] [] (ix_w z d) := by
    intro f
    induction f with
    | zero =>
      intro x2 x3 d h
      have h : (none : Option (ix_D2)) = some d1 := h
      cases h
    | succ f ih =>
      intro x2 x3 d h
      exact tb_X12_find_70 hKp X hr hlk (rec70 := ix_fix (b_X12_find_70 n z  a0 x1) (fun _ _ _ => none) f)  ih h
  exact key n x2 x3 d h
set_option maxRecDepth 20000 in
theorem t_X12_find_68 {l : Launch} {p : Program} {e : Env} {s : State} {m : MethodId} {args : Array Value} {below : List Frame} {meth : Method} {c : Code} {K : ix_Cx} (hKp : ix_Kp K) {n : Nat} {z : ix_Z} (X : ix_X p s m args c K cX12_find RX12 4) (hr : meth.sig.returnType = (none : Option Jvm.ClassFile.FieldType)) (hlk : meth.locks = false)  {a0 : Nat} {x1 : Int32} {x2 : Int32} {d1 : ix_D2}  {d : ix_D2} (h : f_X12_find_68 n z  a0 x1 x2 d = some d1) : ix_G p l e (ix_rm 4 93 0 0) s m args below meth c (MQ below (ix_Post K none (ix_w z d1)) args s 0 0 (ix_A K)) K 4 0 0 68 [(0, .ref (K.2.2.1 + a0)), (1, .int x1), (2, .int x2)] [] (ix_w z d) := by
  unfold f_X12_find_68 at h
  refine ix_iconst (v := 0) X (ix_tb_at tb_X12_find 38 rfl) (by decide) (pc1 := 69) rfl ?_
  refine ix_istore_n (i := 3) (L1 := [(3, .int 0), (0, .ref (K.2.2.1 + a0)), (1, .int x1), (2, .int x2)]) X (ix_tb_at tb_X12_find 39 rfl) rfl (Nat.le_of_ble_eq_true rfl) rfl (pc1 := 70) rfl ?_
  refine ix_sub (L1 := [(0, .ref (K.2.2.1 + a0)), (1, .int x1), (2, .int x2), (3, .int 0)]) [1, 2, 3, 0] rfl ?_
  exact t_X12_find_70 hKp X hr hlk  h
set_option maxRecDepth 20000 in
theorem t_X12_find_61 {l : Launch} {p : Program} {e : Env} {s : State} {m : MethodId} {args : Array Value} {below : List Frame} {meth : Method} {c : Code} {K : ix_Cx} (hKp : ix_Kp K) {n : Nat} {z : ix_Z} (X : ix_X p s m args c K cX12_find RX12 4) (hr : meth.sig.returnType = (none : Option Jvm.ClassFile.FieldType)) (hlk : meth.locks = false) {rec18 : Int32 → Int32 → ix_D2 → Option (ix_D2)} {a0 : Nat} {x1 : Int32} {x3 : Int32} {s0 : Int32} {d1 : ix_D2} (hrec18 : ∀ (x2 : Int32) (x3 : Int32) (d : ix_D2), rec18 x2 x3 d = some d1 → ix_G p l e (ix_rm 4 93 0 0) s m args below meth c (MQ below (ix_Post K none (ix_w z d1)) args s 0 0 (ix_A K)) K 4 0 0 18 [(0, .ref (K.2.2.1 + a0)), (1, .int x1), (2, .int x2), (3, .int x3)] [] (ix_w z d)) {d : ix_D2} (h : f_X12_find_61 n z rec18 a0 x1 x3 s0 d = some d1) : ix_G p l e (ix_rm 4 93 0 0) s m args below meth c (MQ below (ix_Post K none (ix_w z d1)) args s 0 0 (ix_A K)) K 4 0 0 61 [(0, .ref (K.2.2.1 + a0)), (1, .int x1), (3, .int x3)] [.int s0] (ix_w z d) := by
  unfold f_X12_find_61 at h
  refine ix_istore_n (i := 2) (L1 := [(2, .int s0), (0, .ref (K.2.2.1 + a0)), (1, .int x1), (3, .int x3)]) X (ix_tb_at tb_X12_find 35 rfl) rfl (Nat.le_of_ble_eq_true rfl) rfl (pc1 := 62) rfl ?_
  obtain ⟨x3_43, e_44, h⟩ := ix_lt_ex h
  refine ix_iinc (i := 3) (j := 3) (v := x3_43) (L1 := [(3, .int x3_43), (2, .int s0), (0, .ref (K.2.2.1 + a0)), (1, .int x1)]) X (ix_tb_at tb_X12_find 36 rfl) rfl (by rw [oi_1]; exact e_44.symm) (Nat.le_of_ble_eq_true rfl) rfl (pc1 := 65) rfl ?_
  refine ix_goto (tgt := 18) X (ix_tb_at tb_X12_find 37 rfl) (by decide) ?_
  refine ix_sub (L1 := [(0, .ref (K.2.2.1 + a0)), (1, .int x1), (2, .int s0), (3, .int x3_43)]) [2, 3, 1, 0] rfl ?_
  exact hrec18 s0 x3_43 d h
set_option maxRecDepth 20000 in
theorem t_X12_find_56 {l : Launch} {p : Program} {e : Env} {s : State} {m : MethodId} {args : Array Value} {below : List Frame} {meth : Method} {c : Code} {K : ix_Cx} (hKp : ix_Kp K) {n : Nat} {z : ix_Z} (X : ix_X p s m args c K cX12_find RX12 4) (hr : meth.sig.returnType = (none : Option Jvm.ClassFile.FieldType)) (hlk : meth.locks = false) {rec18 : Int32 → Int32 → ix_D2 → Option (ix_D2)} {a0 : Nat} {x1 : Int32} {x3 : Int32} {d1 : ix_D2} (hrec18 : ∀ (x2 : Int32) (x3 : Int32) (d : ix_D2), rec18 x2 x3 d = some d1 → ix_G p l e (ix_rm 4 93 0 0) s m args below meth c (MQ below (ix_Post K none (ix_w z d1)) args s 0 0 (ix_A K)) K 4 0 0 18 [(0, .ref (K.2.2.1 + a0)), (1, .int x1), (2, .int x2), (3, .int x3)] [] (ix_w z d)) {d : ix_D2} (h : f_X12_find_56 n z rec18 a0 x1 x3 d = some d1) : ix_G p l e (ix_rm 4 93 0 0) s m args below meth c (MQ below (ix_Post K none (ix_w z d1)) args s 0 0 (ix_A K)) K 4 0 0 56 [(0, .ref (K.2.2.1 + a0)), (1, .int x1), (3, .int x3)] [] (ix_w z d) := by
  unfold f_X12_find_56 at h
  refine ix_iconst (v := 1) X (ix_tb_at tb_X12_find 32 rfl) (by decide) (pc1 := 57) rfl ?_
  refine ix_goto (tgt := 61) X (ix_tb_at tb_X12_find 33 rfl) (by decide) ?_
  refine ix_sub (L1 := [(0, .ref (K.2.2.1 + a0)), (1, .int x1), (3, .int x3)]) [0, 1, 2] rfl ?_
  exact t_X12_find_61 hKp X hr hlk hrec18 h
set_option maxRecDepth 20000 in
theorem tb_X12_find_18 {l : Launch} {p : Program} {e : Env} {s : State} {m : MethodId} {args : Array Value} {below : List Frame} {meth : Method} {c : Code} {K : ix_Cx} (hKp : ix_Kp K) {n : Nat} {z : ix_Z} (X : ix_X p s m args c K cX12_find RX12 4) (hr : meth.sig.returnType = (none : Option Jvm.ClassFile.FieldType)) (hlk : meth.locks = false)  {a0 : Nat} {x1 : Int32} {rec18 : Int32 → Int32 → ix_D2 → Option (ix_D2)} {d1 : ix_D2} (hrec18 : ∀ (x2 : Int32) (x3 : Int32) (d : ix_D2), rec18 x2 x3 d = some d1 → ix_G p l e (ix_rm 4 93 0 0) s m args below meth c (MQ below (ix_Post K none (ix_w z d1)) args s 0 0 (ix_A K)) K 4 0 0 18 [(0, .ref (K.2.2.1 + a0)), (1, .int x1), (2, .int x2), (3, .int x3)] [] (ix_w z d)) {x2 : Int32} {x3 : Int32} {d : ix_D2} (h : b_X12_find_18 n z  a0 x1 rec18 x2 x3 d = some d1) : ix_G p l e (ix_rm 4 93 0 0) s m args below meth c (MQ below (ix_Post K none (ix_w z d1)) args s 0 0 (ix_A K)) K 4 0 0 18 [(0, .ref (K.2.2.1 + a0)), (1, .int x1), (2, .int x2), (3, .int x3)] [] (ix_w z d) := by
  unfold b_X12_find_18 at h
  refine ix_iload_n (i := 3) (j := 3) X (ix_tb_at tb_X12_find 10 rfl) rfl rfl (pc1 := 19) rfl ?_
  refine ix_aload_n (i := 0) (j := 0) X (ix_tb_at tb_X12_find 11 rfl) rfl rfl (pc1 := 20) rfl ?_
  obtain ⟨k_6, h⟩ := ix_ck_some h
  obtain ⟨b_7, q_8, h⟩ := ix_bd1_ex h
  refine iz_getR X fl_RX12_119 k_6 q_8 (ix_tb_at tb_X12_find 12 rfl) (pc1 := 23) rfl ?_
  refine ix_iload_n (i := 1) (j := 1) X (ix_tb_at tb_X12_find 13 rfl) rfl rfl (pc1 := 24) rfl ?_
  obtain ⟨k_9, h⟩ := ix_ck_some h
  refine iz_iald X k_9 (ix_tb_at tb_X12_find 14 rfl) (pc1 := 25) rfl ?_
  refine ix_icmp_ge (tgt := 68) X (ix_tb_at tb_X12_find 15 rfl) (by decide) (pc1 := 28) rfl (fun q_10 => ?_) (fun q_10 => ?_)
  · have h := ix_ift q_10 h
    refine ix_sub (L1 := [(0, .ref (K.2.2.1 + a0)), (1, .int x1), (2, .int x2)]) [0, 1, 2] rfl ?_
    exact t_X12_find_68 hKp X hr hlk  h
  · have h := ix_iff q_10 h
    refine ix_iload_n (i := 2) (j := 2) X (ix_tb_at tb_X12_find 16 rfl) rfl rfl (pc1 := 29) rfl ?_
    refine ix_if_eq (tgt := 68) X (ix_tb_at tb_X12_find 17 rfl) (by decide) (pc1 := 32) rfl (fun q_38 => ?_) (fun q_38 => ?_)
    · have h := ix_ift q_38 h
      refine ix_sub (L1 := [(0, .ref (K.2.2.1 + a0)), (1, .int x1), (2, .int x2)]) [0, 1, 2] rfl ?_
      exact t_X12_find_68 hKp X hr hlk  h
    · have h := ix_iff q_38 h
      refine ix_aload_n (i := 0) (j := 0) X (ix_tb_at tb_X12_find 18 rfl) rfl rfl (pc1 := 33) rfl ?_
      obtain ⟨b_39, q_40, h⟩ := ix_bd1_ex h
      refine iz_getR X fl_RX12_122 k_6 q_40 (ix_tb_at tb_X12_find 19 rfl) (pc1 := 36) rfl ?_
      refine ix_sipush (v := 500) X (ix_tb_at tb_X12_find 20 rfl) (by decide) (pc1 := 39) rfl ?_
      refine ix_iload_n (i := 1) (j := 1) X (ix_tb_at tb_X12_find 21 rfl) rfl rfl (pc1 := 40) rfl ?_
      refine ix_imul X (ix_tb_at tb_X12_find 22 rfl) (pc1 := 41) rfl ?_
      refine ix_iload_n (i := 3) (j := 3) X (ix_tb_at tb_X12_find 23 rfl) rfl rfl (pc1 := 42) rfl ?_
      refine ix_iadd X (ix_tb_at tb_X12_find 24 rfl) (pc1 := 43) rfl ?_
      obtain ⟨k_41, h⟩ := ix_ck_some h
      refine iz_zald X k_41 (ix_tb_at tb_X12_find 25 rfl) (pc1 := 44) rfl ?_
      refine ix_if_eq (tgt := 56) X (ix_tb_at tb_X12_find 26 rfl) (by decide) (pc1 := 47) rfl (fun q_42 => ?_) (fun q_42 => ?_)
      · have h := ix_ift q_42 h
        refine ix_sub (L1 := [(0, .ref (K.2.2.1 + a0)), (1, .int x1), (3, .int x3)]) [0, 1, 3] rfl ?_
        exact t_X12_find_56 hKp X hr hlk hrec18 h
      · have h := ix_iff q_42 h
        refine ix_aload_n (i := 0) (j := 0) X (ix_tb_at tb_X12_find 27 rfl) rfl rfl (pc1 := 48) rfl ?_
        refine ix_iload_n (i := 1) (j := 1) X (ix_tb_at tb_X12_find 28 rfl) rfl rfl (pc1 := 49) rfl ?_
        refine ix_iload_n (i := 3) (j := 3) X (ix_tb_at tb_X12_find 29 rfl) rfl rfl (pc1 := 50) rfl ?_
        obtain ⟨r_47, d_45, h_46, h⟩ := ix_bd2_ex h
        refine ix_callV (As := [.int x1, .int x3]) (rest := []) (ci := 11) (T := TX12) (nf := 116) X mf_X12_goOver mi_X12_goOver ms_X12_goOver rfl (Nat.le_of_ble_eq_true rfl) ml_RX12_463 ⟨Nat.le_of_ble_eq_true rfl, Nat.le_of_ble_eq_true rfl⟩ ⟨Nat.le_of_ble_eq_true rfl, Nat.le_of_ble_eq_true rfl⟩ rfl (Nat.le_of_ble_eq_true rfl) (ix_tb_at tb_X12_find 30 rfl) ⟨k_6.1, List.mem_singleton.mp k_6.2⟩ (c_X12_goOver hKp h_46) rfl (pc1 := 53) rfl ?_
        refine ix_if_eq (tgt := 60) X (ix_tb_at tb_X12_find 31 rfl) (by decide) (pc1 := 56) rfl (fun q_48 => ?_) (fun q_48 => ?_)
        · have h := ix_ift q_48 h
          refine ix_iconst (v := 0) X (ix_tb_at tb_X12_find 34 rfl) (by decide) (pc1 := 61) rfl ?_
          refine ix_sub (L1 := [(0, .ref (K.2.2.1 + a0)), (1, .int x1), (3, .int x3)]) [0, 1, 3] rfl ?_
          exact t_X12_find_61 hKp X hr hlk hrec18 h
        · have h := ix_iff q_48 h
          refine ix_sub (L1 := [(0, .ref (K.2.2.1 + a0)), (1, .int x1), (3, .int x3)]) [0, 1, 3] rfl ?_
          exact t_X12_find_56 hKp X hr hlk hrec18 h
theorem t_X12_find_18 {l : Launch} {p : Program} {e : Env} {s : State} {m : MethodId} {args : Array Value} {below : List Frame} {meth : Method} {c : Code} {K : ix_Cx} (hKp : ix_Kp K) {n : Nat} {z : ix_Z} (X : ix_X p s m args c K cX12_find RX12 4) (hr : meth.sig.returnType = (none : Option Jvm.ClassFile.FieldType)) (hlk : meth.locks = false)  {a0 : Nat} {x1 : Int32} {d1 : ix_D2}  {x2 : Int32} {x3 : Int32} {d : ix_D2} (h : f_X12_find_18 n z  a0 x1 x2 x3 d = some d1) : ix_G p l e (ix_rm 4 93 0 0) s m args below meth c (MQ below (ix_Post K none (ix_w z d1)) args s 0 0 (ix_A K)) K 4 0 0 18 [(0, .ref (K.2.2.1 + a0)), (1, .int x1), (2, .int x2), (3, .int x3)] [] (ix_w z d) := by
  have key : ∀ (f : Nat) (x2 : Int32) (x3 : Int32) (d : ix_D2), ix_fix (b_X12_find_18 n z  a0 x1) (fun _ _ _ => none) f x2 x3 d = some d1 → ix_G p l e (ix_rm 4 93 0 0) s m args below meth c (MQ below (ix_Post K none (ix_w z d1)) args s 0 0 (ix_A K)) K 4 0 0 18 [(0, .ref (K.2.2.1 + a0)), (1, .int x1), (2, .int x2), (3, .int x3)] [] (ix_w z d) := by
    intro f
    induction f with
    | zero =>
      intro x2 x3 d h
      have h : (none : Option (ix_D2)) = some d1 := h
      cases h
    | succ f ih =>
      intro x2 x3 d h
      exact tb_X12_find_18 hKp X hr hlk (rec18 := ix_fix (b_X12_find_18 n z  a0 x1) (fun _ _ _ => none) f)  ih h
  exact key n x2 x3 d h
set_option maxRecDepth 20000 in
theorem c_X12_find {l : Launch} {K : ix_Cx} (hKp : ix_Kp K) {n : Nat} {z : ix_Z} {a0 : Nat} {x1 : Int32} {d : ix_D2} {d1 : ix_D2} (h : f_X12_find n z a0 x1 d = some d1) : ix_M l K yX12_find cX12_find 4 (none : Option Jvm.ClassFile.FieldType) 4 93 0 0 [.ref (K.2.2.1 + a0), .int x1] (ix_w z d) none (ix_w z d1) := by
  refine ix_met mf_X12_find hKp (Nat.le_of_ble_eq_true rfl) ?_
  intro p e s m args below meth c hr hlk hnm X
  have X : ix_X p s m args c K cX12_find RX12 4 := X
  show ix_G p l e (ix_rm 4 93 0 0) s m args below meth c (MQ below (ix_Post K none (ix_w z d1)) args s 0 0 (ix_A K)) K 4 0 0 0 [(0, .ref (K.2.2.1 + a0)), (1, .int x1)] [] (ix_w z d)
  unfold f_X12_find at h
  refine ix_aload_n (i := 0) (j := 0) X (ix_tb_at tb_X12_find 0 rfl) rfl rfl (pc1 := 1) rfl ?_
  refine ix_sipush (v := (-1005)) X (ix_tb_at tb_X12_find 1 rfl) (by decide) (pc1 := 4) rfl ?_
  obtain ⟨k_1, h⟩ := ix_ck_some h
  obtain ⟨d_2, e_3, h⟩ := ix_lt_ex h
  refine iz_putI X fp_RX12_460 k_1 (ix_tb_at tb_X12_find 2 rfl) e_3 (pc1 := 7) rfl ?_
  refine ix_aload_n (i := 0) (j := 0) X (ix_tb_at tb_X12_find 3 rfl) rfl rfl (pc1 := 8) rfl ?_
  refine ix_sipush (v := (-1005)) X (ix_tb_at tb_X12_find 4 rfl) (by decide) (pc1 := 11) rfl ?_
  obtain ⟨d_4, e_5, h⟩ := ix_lt_ex h
  refine iz_putI X fp_RX12_454 k_1 (ix_tb_at tb_X12_find 5 rfl) e_5 (pc1 := 14) rfl ?_
  refine ix_iconst (v := 1) X (ix_tb_at tb_X12_find 6 rfl) (by decide) (pc1 := 15) rfl ?_
  refine ix_istore_n (i := 2) (L1 := [(2, .int 1), (0, .ref (K.2.2.1 + a0)), (1, .int x1)]) X (ix_tb_at tb_X12_find 7 rfl) rfl (Nat.le_of_ble_eq_true rfl) rfl (pc1 := 16) rfl ?_
  refine ix_iconst (v := 0) X (ix_tb_at tb_X12_find 8 rfl) (by decide) (pc1 := 17) rfl ?_
  refine ix_istore_n (i := 3) (L1 := [(3, .int 0), (2, .int 1), (0, .ref (K.2.2.1 + a0)), (1, .int x1)]) X (ix_tb_at tb_X12_find 9 rfl) rfl (Nat.le_of_ble_eq_true rfl) rfl (pc1 := 18) rfl ?_
  refine ix_sub (L1 := [(0, .ref (K.2.2.1 + a0)), (1, .int x1), (2, .int 1), (3, .int 0)]) [2, 3, 1, 0] rfl ?_
  exact t_X12_find_18 hKp X hr hlk  h
def tab_X12_clearSources : List (Nat × Instr × Nat) := [(0, .iconst 0, 1), (1, .istore_n 1, 1), (2, .iload_n 1, 1), (3, .bipush 8, 2), (5, .if_icmp .ge 16, 3), (8, .aload_n 0, 1), (9, .getfield 186, 3), (12, .iload_n 1, 1), (13, .lconst 0, 1), (14, .lastore, 1), (15, .iinc 1 1, 3), (18, .goto (-16), 3), (21, .return_, 1)]
theorem tb_X12_clearSources : ix_tab cX12_clearSources tab_X12_clearSources := by
  unfold ix_tab
  decide +kernel
noncomputable def b_X12_clearSources_2 (n : Nat) (z : ix_Z)  (a0 : Nat) (rec2 : Int32 → ix_D2 → Option (ix_D2)) (x1 : Int32) (d : ix_D2) : Option (ix_D2) :=
  ix_if (8 ≤ x1) (some d) (ix_ck (ix_ok z [11] a0) (ix_bd1 (z.1 a0 86) (fun b_3 => ix_ck (ix_ix z 23 b_3 x1) (ix_lt (ix_dj d b_3 (ix_n x1) 0) (fun d_6 => ix_lt (x1 + 1) (fun x1_8 => rec2 x1_8 d_6))))))
noncomputable def f_X12_clearSources_2 (n : Nat) (z : ix_Z)  (a0 : Nat) (x1 : Int32) (d : ix_D2) : Option (ix_D2) := ix_fix (b_X12_clearSources_2 n z  a0) (fun _ _ => none) n x1 d
noncomputable def f_X12_clearSources (n : Nat) (z : ix_Z) (a0 : Nat) (d : ix_D2) : Option (ix_D2) :=
  f_X12_clearSources_2 n z  a0 0 d
set_option maxRecDepth 20000 in
theorem tb_X12_clearSources_2 {l : Launch} {p : Program} {e : Env} {s : State} {m : MethodId} {args : Array Value} {below : List Frame} {meth : Method} {c : Code} {K : ix_Cx} (hKp : ix_Kp K) {n : Nat} {z : ix_Z} (X : ix_X p s m args c K cX12_clearSources RX12 2) (hr : meth.sig.returnType = (none : Option Jvm.ClassFile.FieldType)) (hlk : meth.locks = false)  {a0 : Nat} {rec2 : Int32 → ix_D2 → Option (ix_D2)} {d1 : ix_D2} (hrec2 : ∀ (x1 : Int32) (d : ix_D2), rec2 x1 d = some d1 → ix_G p l e (ix_rm 0 0 0 0) s m args below meth c (MQ below (ix_Post K none (ix_w z d1)) args s 0 0 (ix_A K)) K 2 0 0 2 [(0, .ref (K.2.2.1 + a0)), (1, .int x1)] [] (ix_w z d)) {x1 : Int32} {d : ix_D2} (h : b_X12_clearSources_2 n z  a0 rec2 x1 d = some d1) : ix_G p l e (ix_rm 0 0 0 0) s m args below meth c (MQ below (ix_Post K none (ix_w z d1)) args s 0 0 (ix_A K)) K 2 0 0 2 [(0, .ref (K.2.2.1 + a0)), (1, .int x1)] [] (ix_w z d) := by
  unfold b_X12_clearSources_2 at h
  refine ix_iload_n (i := 1) (j := 1) X (ix_tb_at tb_X12_clearSources 2 rfl) rfl rfl (pc1 := 3) rfl ?_
  refine ix_bipush (v := 8) X (ix_tb_at tb_X12_clearSources 3 rfl) (by decide) (pc1 := 5) rfl ?_
  refine ix_icmp_ge (tgt := 21) X (ix_tb_at tb_X12_clearSources 4 rfl) (by decide) (pc1 := 8) rfl (fun q_1 => ?_) (fun q_1 => ?_)
  · have h := ix_ift q_1 h
    exact ix_vret X hr hlk (ix_r1 (g := ix_w z) h) (ix_tb_at tb_X12_clearSources 12 rfl)
  · have h := ix_iff q_1 h
    refine ix_aload_n (i := 0) (j := 0) X (ix_tb_at tb_X12_clearSources 5 rfl) rfl rfl (pc1 := 9) rfl ?_
    obtain ⟨k_2, h⟩ := ix_ck_some h
    obtain ⟨b_3, q_4, h⟩ := ix_bd1_ex h
    refine iz_getR X fl_RX12_186 k_2 q_4 (ix_tb_at tb_X12_clearSources 6 rfl) (pc1 := 12) rfl ?_
    refine ix_iload_n (i := 1) (j := 1) X (ix_tb_at tb_X12_clearSources 7 rfl) rfl rfl (pc1 := 13) rfl ?_
    refine ix_lconst (v := 0) X (ix_tb_at tb_X12_clearSources 8 rfl) (by decide) (pc1 := 14) rfl ?_
    obtain ⟨k_5, h⟩ := ix_ck_some h
    obtain ⟨d_6, e_7, h⟩ := ix_lt_ex h
    refine iz_last X k_5 (ix_tb_at tb_X12_clearSources 9 rfl) e_7 (pc1 := 15) rfl ?_
    obtain ⟨x1_8, e_9, h⟩ := ix_lt_ex h
    refine ix_iinc (i := 1) (j := 1) (v := x1_8) (L1 := [(1, .int x1_8), (0, .ref (K.2.2.1 + a0))]) X (ix_tb_at tb_X12_clearSources 10 rfl) rfl (by rw [oi_1]; exact e_9.symm) (Nat.le_of_ble_eq_true rfl) rfl (pc1 := 18) rfl ?_
    refine ix_goto (tgt := 2) X (ix_tb_at tb_X12_clearSources 11 rfl) (by decide) ?_
    refine ix_sub (L1 := [(0, .ref (K.2.2.1 + a0)), (1, .int x1_8)]) [1, 0] rfl ?_
    exact hrec2 x1_8 d_6 h
theorem t_X12_clearSources_2 {l : Launch} {p : Program} {e : Env} {s : State} {m : MethodId} {args : Array Value} {below : List Frame} {meth : Method} {c : Code} {K : ix_Cx} (hKp : ix_Kp K) {n : Nat} {z : ix_Z} (X : ix_X p s m args c K cX12_clearSources RX12 2) (hr : meth.sig.returnType = (none : Option Jvm.ClassFile.FieldType)) (hlk : meth.locks = false)  {a0 : Nat} {d1 : ix_D2}  {x1 : Int32} {d : ix_D2} (h : f_X12_clearSources_2 n z  a0 x1 d = some d1) : ix_G p l e (ix_rm 0 0 0 0) s m args below meth c (MQ below (ix_Post K none (ix_w z d1)) args s 0 0 (ix_A K)) K 2 0 0 2 [(0, .ref (K.2.2.1 + a0)), (1, .int x1)] [] (ix_w z d) := by
  have key : ∀ (f : Nat) (x1 : Int32) (d : ix_D2), ix_fix (b_X12_clearSources_2 n z  a0) (fun _ _ => none) f x1 d = some d1 → ix_G p l e (ix_rm 0 0 0 0) s m args below meth c (MQ below (ix_Post K none (ix_w z d1)) args s 0 0 (ix_A K)) K 2 0 0 2 [(0, .ref (K.2.2.1 + a0)), (1, .int x1)] [] (ix_w z d) := by
    intro f
    induction f with
    | zero =>
      intro x1 d h
      have h : (none : Option (ix_D2)) = some d1 := h
      cases h
    | succ f ih =>
      intro x1 d h
      exact tb_X12_clearSources_2 hKp X hr hlk (rec2 := ix_fix (b_X12_clearSources_2 n z  a0) (fun _ _ => none) f)  ih h
  exact key n x1 d h
set_option maxRecDepth 20000 in
theorem c_X12_clearSources {l : Launch} {K : ix_Cx} (hKp : ix_Kp K) {n : Nat} {z : ix_Z} {a0 : Nat} {d : ix_D2} {d1 : ix_D2} (h : f_X12_clearSources n z a0 d = some d1) : ix_M l K yX12_clearSources cX12_clearSources 2 (none : Option Jvm.ClassFile.FieldType) 0 0 0 0 [.ref (K.2.2.1 + a0)] (ix_w z d) none (ix_w z d1) := by
  refine ix_met mf_X12_clearSources hKp (Nat.le_of_ble_eq_true rfl) ?_
  intro p e s m args below meth c hr hlk hnm X
  have X : ix_X p s m args c K cX12_clearSources RX12 2 := X
  show ix_G p l e (ix_rm 0 0 0 0) s m args below meth c (MQ below (ix_Post K none (ix_w z d1)) args s 0 0 (ix_A K)) K 2 0 0 0 [(0, .ref (K.2.2.1 + a0))] [] (ix_w z d)
  unfold f_X12_clearSources at h
  refine ix_iconst (v := 0) X (ix_tb_at tb_X12_clearSources 0 rfl) (by decide) (pc1 := 1) rfl ?_
  refine ix_istore_n (i := 1) (L1 := [(1, .int 0), (0, .ref (K.2.2.1 + a0))]) X (ix_tb_at tb_X12_clearSources 1 rfl) rfl (Nat.le_of_ble_eq_true rfl) rfl (pc1 := 2) rfl ?_
  refine ix_sub (L1 := [(0, .ref (K.2.2.1 + a0)), (1, .int 0)]) [1, 0] rfl ?_
  exact t_X12_clearSources_2 hKp X hr hlk  h
def tab_X12_addSources : List (Nat × Instr × Nat) := [(0, .iload_n 2, 1), (1, .sipush 1000, 3), (4, .if_icmp .ge 24, 3), (7, .aload_n 0, 1), (8, .getfield 186, 3), (11, .iload_n 2, 1), (12, .bipush 64, 2), (14, .idiv, 1), (15, .dup2, 1), (16, .laload, 1), (17, .lconst 1, 1), (18, .iload_n 2, 1), (19, .bipush 64, 2), (21, .irem, 1), (22, .lshl, 1), (23, .lor, 1), (24, .lastore, 1), (25, .goto 54, 3), (28, .iload_n 2, 1), (29, .sipush 2000, 3), (32, .if_icmp .lt 47, 3), (35, .iconst 0, 1), (36, .istore_n 3, 1), (37, .iload_n 3, 1), (38, .bipush 8, 2), (40, .if_icmp .ge 39, 3), (43, .aload_n 0, 1), (44, .getfield 186, 3), (47, .iload_n 3, 1), (48, .dup2, 1), (49, .laload, 1), (50, .aload_n 0, 1), (51, .getfield 180, 3), (54, .bipush 8, 2), (56, .sipush 800, 3), (59, .iload_n 1, 1), (60, .imul, 1), (61, .iload_n 2, 1), (62, .iadd, 1), (63, .sipush 2000, 3), (66, .isub, 1), (67, .imul, 1), (68, .iload_n 3, 1), (69, .iadd, 1), (70, .laload, 1), (71, .lor, 1), (72, .lastore, 1), (73, .iinc 3 1, 3), (76, .goto (-39), 3), (79, .return_, 1)]
theorem tb_X12_addSources : ix_tab cX12_addSources tab_X12_addSources := by
  unfold ix_tab
  decide +kernel
noncomputable def b_X12_addSources_37 (n : Nat) (z : ix_Z)  (a0 : Nat) (x1 : Int32) (x2 : Int32) (rec37 : Int32 → ix_D2 → Option (ix_D2)) (x3 : Int32) (d : ix_D2) : Option (ix_D2) :=
  ix_if (8 ≤ x3) (some d) (ix_ck (ix_ok z [11] a0) (ix_bd1 (z.1 a0 86) (fun b_5 => ix_ck (ix_ix z 23 b_5 x3) (ix_bd1 (z.1 a0 84) (fun b_8 => ix_ck (ix_ix z 23 b_8 ((8 * (((800 * x1) + x2) - 2000)) + x3)) (ix_lt (ix_dj d b_5 (ix_n x3) ((d.2 b_5 (ix_n x3)) ||| (d.2 b_8 (ix_n ((8 * (((800 * x1) + x2) - 2000)) + x3))))) (fun d_11 => ix_lt (x3 + 1) (fun x3_13 => rec37 x3_13 d_11))))))))
noncomputable def f_X12_addSources_37 (n : Nat) (z : ix_Z)  (a0 : Nat) (x1 : Int32) (x2 : Int32) (x3 : Int32) (d : ix_D2) : Option (ix_D2) := ix_fix (b_X12_addSources_37 n z  a0 x1 x2) (fun _ _ => none) n x3 d
noncomputable def f_X12_addSources (n : Nat) (z : ix_Z) (a0 : Nat) (x1 : Int32) (x2 : Int32) (d : ix_D2) : Option (ix_D2) :=
  ix_if (1000 ≤ x2) (ix_if (x2 < 2000) (some d) (f_X12_addSources_37 n z  a0 x1 x2 0 d)) (ix_ck (ix_ok z [11] a0) (ix_bd1 (z.1 a0 86) (fun b_16 => ix_ck (ix_ix z 23 b_16 (x2 / 64)) (ix_lt (ix_dj d b_16 (ix_n (x2 / 64)) ((d.2 b_16 (ix_n (x2 / 64))) ||| (1 <<< ((x2 - x2 / 64 * 64).toInt64 &&& 63)))) (fun d_19 => some d_19)))))
set_option maxRecDepth 20000 in
theorem tb_X12_addSources_37 {l : Launch} {p : Program} {e : Env} {s : State} {m : MethodId} {args : Array Value} {below : List Frame} {meth : Method} {c : Code} {K : ix_Cx} (hKp : ix_Kp K) {n : Nat} {z : ix_Z} (X : ix_X p s m args c K cX12_addSources RX12 4) (hr : meth.sig.returnType = (none : Option Jvm.ClassFile.FieldType)) (hlk : meth.locks = false)  {a0 : Nat} {x1 : Int32} {x2 : Int32} {rec37 : Int32 → ix_D2 → Option (ix_D2)} {d1 : ix_D2} (hrec37 : ∀ (x3 : Int32) (d : ix_D2), rec37 x3 d = some d1 → ix_G p l e (ix_rm 0 0 0 0) s m args below meth c (MQ below (ix_Post K none (ix_w z d1)) args s 0 0 (ix_A K)) K 4 0 0 37 [(0, .ref (K.2.2.1 + a0)), (1, .int x1), (2, .int x2), (3, .int x3)] [] (ix_w z d)) {x3 : Int32} {d : ix_D2} (h : b_X12_addSources_37 n z  a0 x1 x2 rec37 x3 d = some d1) : ix_G p l e (ix_rm 0 0 0 0) s m args below meth c (MQ below (ix_Post K none (ix_w z d1)) args s 0 0 (ix_A K)) K 4 0 0 37 [(0, .ref (K.2.2.1 + a0)), (1, .int x1), (2, .int x2), (3, .int x3)] [] (ix_w z d) := by
  unfold b_X12_addSources_37 at h
  refine ix_iload_n (i := 3) (j := 3) X (ix_tb_at tb_X12_addSources 23 rfl) rfl rfl (pc1 := 38) rfl ?_
  refine ix_bipush (v := 8) X (ix_tb_at tb_X12_addSources 24 rfl) (by decide) (pc1 := 40) rfl ?_
  refine ix_icmp_ge (tgt := 79) X (ix_tb_at tb_X12_addSources 25 rfl) (by decide) (pc1 := 43) rfl (fun q_3 => ?_) (fun q_3 => ?_)
  · have h := ix_ift q_3 h
    exact ix_vret X hr hlk (ix_r1 (g := ix_w z) h) (ix_tb_at tb_X12_addSources 49 rfl)
  · have h := ix_iff q_3 h
    refine ix_aload_n (i := 0) (j := 0) X (ix_tb_at tb_X12_addSources 26 rfl) rfl rfl (pc1 := 44) rfl ?_
    obtain ⟨k_4, h⟩ := ix_ck_some h
    obtain ⟨b_5, q_6, h⟩ := ix_bd1_ex h
    refine iz_getR X fl_RX12_186 k_4 q_6 (ix_tb_at tb_X12_addSources 27 rfl) (pc1 := 47) rfl ?_
    refine ix_iload_n (i := 3) (j := 3) X (ix_tb_at tb_X12_addSources 28 rfl) rfl rfl (pc1 := 48) rfl ?_
    refine ix_dup2 X (ix_tb_at tb_X12_addSources 29 rfl) rfl rfl (pc1 := 49) rfl ?_
    obtain ⟨k_7, h⟩ := ix_ck_some h
    refine iz_lald X k_7 (ix_tb_at tb_X12_addSources 30 rfl) (pc1 := 50) rfl ?_
    refine ix_aload_n (i := 0) (j := 0) X (ix_tb_at tb_X12_addSources 31 rfl) rfl rfl (pc1 := 51) rfl ?_
    obtain ⟨b_8, q_9, h⟩ := ix_bd1_ex h
    refine iz_getR X fl_RX12_180 k_4 q_9 (ix_tb_at tb_X12_addSources 32 rfl) (pc1 := 54) rfl ?_
    refine ix_bipush (v := 8) X (ix_tb_at tb_X12_addSources 33 rfl) (by decide) (pc1 := 56) rfl ?_
    refine ix_sipush (v := 800) X (ix_tb_at tb_X12_addSources 34 rfl) (by decide) (pc1 := 59) rfl ?_
    refine ix_iload_n (i := 1) (j := 1) X (ix_tb_at tb_X12_addSources 35 rfl) rfl rfl (pc1 := 60) rfl ?_
    refine ix_imul X (ix_tb_at tb_X12_addSources 36 rfl) (pc1 := 61) rfl ?_
    refine ix_iload_n (i := 2) (j := 2) X (ix_tb_at tb_X12_addSources 37 rfl) rfl rfl (pc1 := 62) rfl ?_
    refine ix_iadd X (ix_tb_at tb_X12_addSources 38 rfl) (pc1 := 63) rfl ?_
    refine ix_sipush (v := 2000) X (ix_tb_at tb_X12_addSources 39 rfl) (by decide) (pc1 := 66) rfl ?_
    refine ix_isub X (ix_tb_at tb_X12_addSources 40 rfl) (pc1 := 67) rfl ?_
    refine ix_imul X (ix_tb_at tb_X12_addSources 41 rfl) (pc1 := 68) rfl ?_
    refine ix_iload_n (i := 3) (j := 3) X (ix_tb_at tb_X12_addSources 42 rfl) rfl rfl (pc1 := 69) rfl ?_
    refine ix_iadd X (ix_tb_at tb_X12_addSources 43 rfl) (pc1 := 70) rfl ?_
    obtain ⟨k_10, h⟩ := ix_ck_some h
    refine iz_lald X k_10 (ix_tb_at tb_X12_addSources 44 rfl) (pc1 := 71) rfl ?_
    refine ix_lor X (ix_tb_at tb_X12_addSources 45 rfl) (pc1 := 72) rfl ?_
    obtain ⟨d_11, e_12, h⟩ := ix_lt_ex h
    refine iz_last X k_7 (ix_tb_at tb_X12_addSources 46 rfl) e_12 (pc1 := 73) rfl ?_
    obtain ⟨x3_13, e_14, h⟩ := ix_lt_ex h
    refine ix_iinc (i := 3) (j := 3) (v := x3_13) (L1 := [(3, .int x3_13), (0, .ref (K.2.2.1 + a0)), (1, .int x1), (2, .int x2)]) X (ix_tb_at tb_X12_addSources 47 rfl) rfl (by rw [oi_1]; exact e_14.symm) (Nat.le_of_ble_eq_true rfl) rfl (pc1 := 76) rfl ?_
    refine ix_goto (tgt := 37) X (ix_tb_at tb_X12_addSources 48 rfl) (by decide) ?_
    refine ix_sub (L1 := [(0, .ref (K.2.2.1 + a0)), (1, .int x1), (2, .int x2), (3, .int x3_13)]) [1, 2, 3, 0] rfl ?_
    exact hrec37 x3_13 d_11 h
theorem t_X12_addSources_37 {l : Launch} {p : Program} {e : Env} {s : State} {m : MethodId} {args : Array Value} {below : List Frame} {meth : Method} {c : Code} {K : ix_Cx} (hKp : ix_Kp K) {n : Nat} {z : ix_Z} (X : ix_X p s m args c K cX12_addSources RX12 4) (hr : meth.sig.returnType = (none : Option Jvm.ClassFile.FieldType)) (hlk : meth.locks = false)  {a0 : Nat} {x1 : Int32} {x2 : Int32} {d1 : ix_D2}  {x3 : Int32} {d : ix_D2} (h : f_X12_addSources_37 n z  a0 x1 x2 x3 d = some d1) : ix_G p l e (ix_rm 0 0 0 0) s m args below meth c (MQ below (ix_Post K none (ix_w z d1)) args s 0 0 (ix_A K)) K 4 0 0 37 [(0, .ref (K.2.2.1 + a0)), (1, .int x1), (2, .int x2), (3, .int x3)] [] (ix_w z d) := by
  have key : ∀ (f : Nat) (x3 : Int32) (d : ix_D2), ix_fix (b_X12_addSources_37 n z  a0 x1 x2) (fun _ _ => none) f x3 d = some d1 → ix_G p l e (ix_rm 0 0 0 0) s m args below meth c (MQ below (ix_Post K none (ix_w z d1)) args s 0 0 (ix_A K)) K 4 0 0 37 [(0, .ref (K.2.2.1 + a0)), (1, .int x1), (2, .int x2), (3, .int x3)] [] (ix_w z d) := by
    intro f
    induction f with
    | zero =>
      intro x3 d h
      have h : (none : Option (ix_D2)) = some d1 := h
      cases h
    | succ f ih =>
      intro x3 d h
      exact tb_X12_addSources_37 hKp X hr hlk (rec37 := ix_fix (b_X12_addSources_37 n z  a0 x1 x2) (fun _ _ => none) f)  ih h
  exact key n x3 d h
set_option maxRecDepth 20000 in
theorem c_X12_addSources {l : Launch} {K : ix_Cx} (hKp : ix_Kp K) {n : Nat} {z : ix_Z} {a0 : Nat} {x1 : Int32} {x2 : Int32} {d : ix_D2} {d1 : ix_D2} (h : f_X12_addSources n z a0 x1 x2 d = some d1) : ix_M l K yX12_addSources cX12_addSources 4 (none : Option Jvm.ClassFile.FieldType) 0 0 0 0 [.ref (K.2.2.1 + a0), .int x1, .int x2] (ix_w z d) none (ix_w z d1) := by
  refine ix_met mf_X12_addSources hKp (Nat.le_of_ble_eq_true rfl) ?_
  intro p e s m args below meth c hr hlk hnm X
  have X : ix_X p s m args c K cX12_addSources RX12 4 := X
  show ix_G p l e (ix_rm 0 0 0 0) s m args below meth c (MQ below (ix_Post K none (ix_w z d1)) args s 0 0 (ix_A K)) K 4 0 0 0 [(0, .ref (K.2.2.1 + a0)), (1, .int x1), (2, .int x2)] [] (ix_w z d)
  unfold f_X12_addSources at h
  refine ix_iload_n (i := 2) (j := 2) X (ix_tb_at tb_X12_addSources 0 rfl) rfl rfl (pc1 := 1) rfl ?_
  refine ix_sipush (v := 1000) X (ix_tb_at tb_X12_addSources 1 rfl) (by decide) (pc1 := 4) rfl ?_
  refine ix_icmp_ge (tgt := 28) X (ix_tb_at tb_X12_addSources 2 rfl) (by decide) (pc1 := 7) rfl (fun q_1 => ?_) (fun q_1 => ?_)
  · have h := ix_ift q_1 h
    refine ix_iload_n (i := 2) (j := 2) X (ix_tb_at tb_X12_addSources 18 rfl) rfl rfl (pc1 := 29) rfl ?_
    refine ix_sipush (v := 2000) X (ix_tb_at tb_X12_addSources 19 rfl) (by decide) (pc1 := 32) rfl ?_
    refine ix_icmp_lt (tgt := 79) X (ix_tb_at tb_X12_addSources 20 rfl) (by decide) (pc1 := 35) rfl (fun q_2 => ?_) (fun q_2 => ?_)
    · have h := ix_ift q_2 h
      exact ix_vret X hr hlk (ix_r1 (g := ix_w z) h) (ix_tb_at tb_X12_addSources 49 rfl)
    · have h := ix_iff q_2 h
      refine ix_iconst (v := 0) X (ix_tb_at tb_X12_addSources 21 rfl) (by decide) (pc1 := 36) rfl ?_
      refine ix_istore_n (i := 3) (L1 := [(3, .int 0), (0, .ref (K.2.2.1 + a0)), (1, .int x1), (2, .int x2)]) X (ix_tb_at tb_X12_addSources 22 rfl) rfl (Nat.le_of_ble_eq_true rfl) rfl (pc1 := 37) rfl ?_
      refine ix_sub (L1 := [(0, .ref (K.2.2.1 + a0)), (1, .int x1), (2, .int x2), (3, .int 0)]) [1, 2, 3, 0] rfl ?_
      exact t_X12_addSources_37 hKp X hr hlk  h
  · have h := ix_iff q_1 h
    refine ix_aload_n (i := 0) (j := 0) X (ix_tb_at tb_X12_addSources 3 rfl) rfl rfl (pc1 := 8) rfl ?_
    obtain ⟨k_15, h⟩ := ix_ck_some h
    obtain ⟨b_16, q_17, h⟩ := ix_bd1_ex h
    refine iz_getR X fl_RX12_186 k_15 q_17 (ix_tb_at tb_X12_addSources 4 rfl) (pc1 := 11) rfl ?_
    refine ix_iload_n (i := 2) (j := 2) X (ix_tb_at tb_X12_addSources 5 rfl) rfl rfl (pc1 := 12) rfl ?_
    refine ix_bipush (v := 64) X (ix_tb_at tb_X12_addSources 6 rfl) (by decide) (pc1 := 14) rfl ?_
    refine ix_idiv X (ix_tb_at tb_X12_addSources 7 rfl) (by decide) (pc1 := 15) rfl ?_
    refine ix_dup2 X (ix_tb_at tb_X12_addSources 8 rfl) rfl rfl (pc1 := 16) rfl ?_
    obtain ⟨k_18, h⟩ := ix_ck_some h
    refine iz_lald X k_18 (ix_tb_at tb_X12_addSources 9 rfl) (pc1 := 17) rfl ?_
    refine ix_lconst (v := 1) X (ix_tb_at tb_X12_addSources 10 rfl) (by decide) (pc1 := 18) rfl ?_
    refine ix_iload_n (i := 2) (j := 2) X (ix_tb_at tb_X12_addSources 11 rfl) rfl rfl (pc1 := 19) rfl ?_
    refine ix_bipush (v := 64) X (ix_tb_at tb_X12_addSources 12 rfl) (by decide) (pc1 := 21) rfl ?_
    refine ix_irem X (ix_tb_at tb_X12_addSources 13 rfl) (by decide) (pc1 := 22) rfl ?_
    refine ix_lshl X (ix_tb_at tb_X12_addSources 14 rfl) (pc1 := 23) rfl ?_
    refine ix_lor X (ix_tb_at tb_X12_addSources 15 rfl) (pc1 := 24) rfl ?_
    obtain ⟨d_19, e_20, h⟩ := ix_lt_ex h
    refine iz_last X k_18 (ix_tb_at tb_X12_addSources 16 rfl) e_20 (pc1 := 25) rfl ?_
    refine ix_goto (tgt := 79) X (ix_tb_at tb_X12_addSources 17 rfl) (by decide) ?_
    exact ix_vret X hr hlk (ix_r1 (g := ix_w z) h) (ix_tb_at tb_X12_addSources 49 rfl)
def tab_X12_addNameSources : List (Nat × Instr × Nat) := [(0, .iconst 0, 1), (1, .istore_n 3, 1), (2, .iload_n 3, 1), (3, .bipush 8, 2), (5, .if_icmp .ge 35, 3), (8, .aload_n 0, 1), (9, .getfield 186, 3), (12, .iload_n 3, 1), (13, .dup2, 1), (14, .laload, 1), (15, .aload_n 0, 1), (16, .getfield 183, 3), (19, .bipush 8, 2), (21, .sipush 301, 3), (24, .iload_n 1, 1), (25, .imul, 1), (26, .iload_n 2, 1), (27, .iadd, 1), (28, .imul, 1), (29, .iload_n 3, 1), (30, .iadd, 1), (31, .laload, 1), (32, .lor, 1), (33, .lastore, 1), (34, .iinc 3 1, 3), (37, .goto (-35), 3), (40, .return_, 1)]
theorem tb_X12_addNameSources : ix_tab cX12_addNameSources tab_X12_addNameSources := by
  unfold ix_tab
  decide +kernel
noncomputable def b_X12_addNameSources_2 (n : Nat) (z : ix_Z)  (a0 : Nat) (x1 : Int32) (x2 : Int32) (rec2 : Int32 → ix_D2 → Option (ix_D2)) (x3 : Int32) (d : ix_D2) : Option (ix_D2) :=
  ix_if (8 ≤ x3) (some d) (ix_ck (ix_ok z [11] a0) (ix_bd1 (z.1 a0 86) (fun b_3 => ix_ck (ix_ix z 23 b_3 x3) (ix_bd1 (z.1 a0 85) (fun b_6 => ix_ck (ix_ix z 23 b_6 ((8 * ((301 * x1) + x2)) + x3)) (ix_lt (ix_dj d b_3 (ix_n x3) ((d.2 b_3 (ix_n x3)) ||| (d.2 b_6 (ix_n ((8 * ((301 * x1) + x2)) + x3))))) (fun d_9 => ix_lt (x3 + 1) (fun x3_11 => rec2 x3_11 d_9))))))))
noncomputable def f_X12_addNameSources_2 (n : Nat) (z : ix_Z)  (a0 : Nat) (x1 : Int32) (x2 : Int32) (x3 : Int32) (d : ix_D2) : Option (ix_D2) := ix_fix (b_X12_addNameSources_2 n z  a0 x1 x2) (fun _ _ => none) n x3 d
noncomputable def f_X12_addNameSources (n : Nat) (z : ix_Z) (a0 : Nat) (x1 : Int32) (x2 : Int32) (d : ix_D2) : Option (ix_D2) :=
  f_X12_addNameSources_2 n z  a0 x1 x2 0 d
set_option maxRecDepth 20000 in
theorem tb_X12_addNameSources_2 {l : Launch} {p : Program} {e : Env} {s : State} {m : MethodId} {args : Array Value} {below : List Frame} {meth : Method} {c : Code} {K : ix_Cx} (hKp : ix_Kp K) {n : Nat} {z : ix_Z} (X : ix_X p s m args c K cX12_addNameSources RX12 4) (hr : meth.sig.returnType = (none : Option Jvm.ClassFile.FieldType)) (hlk : meth.locks = false)  {a0 : Nat} {x1 : Int32} {x2 : Int32} {rec2 : Int32 → ix_D2 → Option (ix_D2)} {d1 : ix_D2} (hrec2 : ∀ (x3 : Int32) (d : ix_D2), rec2 x3 d = some d1 → ix_G p l e (ix_rm 0 0 0 0) s m args below meth c (MQ below (ix_Post K none (ix_w z d1)) args s 0 0 (ix_A K)) K 4 0 0 2 [(0, .ref (K.2.2.1 + a0)), (1, .int x1), (2, .int x2), (3, .int x3)] [] (ix_w z d)) {x3 : Int32} {d : ix_D2} (h : b_X12_addNameSources_2 n z  a0 x1 x2 rec2 x3 d = some d1) : ix_G p l e (ix_rm 0 0 0 0) s m args below meth c (MQ below (ix_Post K none (ix_w z d1)) args s 0 0 (ix_A K)) K 4 0 0 2 [(0, .ref (K.2.2.1 + a0)), (1, .int x1), (2, .int x2), (3, .int x3)] [] (ix_w z d) := by
  unfold b_X12_addNameSources_2 at h
  refine ix_iload_n (i := 3) (j := 3) X (ix_tb_at tb_X12_addNameSources 2 rfl) rfl rfl (pc1 := 3) rfl ?_
  refine ix_bipush (v := 8) X (ix_tb_at tb_X12_addNameSources 3 rfl) (by decide) (pc1 := 5) rfl ?_
  refine ix_icmp_ge (tgt := 40) X (ix_tb_at tb_X12_addNameSources 4 rfl) (by decide) (pc1 := 8) rfl (fun q_1 => ?_) (fun q_1 => ?_)
  · have h := ix_ift q_1 h
    exact ix_vret X hr hlk (ix_r1 (g := ix_w z) h) (ix_tb_at tb_X12_addNameSources 26 rfl)
  · have h := ix_iff q_1 h
    refine ix_aload_n (i := 0) (j := 0) X (ix_tb_at tb_X12_addNameSources 5 rfl) rfl rfl (pc1 := 9) rfl ?_
    obtain ⟨k_2, h⟩ := ix_ck_some h
    obtain ⟨b_3, q_4, h⟩ := ix_bd1_ex h
    refine iz_getR X fl_RX12_186 k_2 q_4 (ix_tb_at tb_X12_addNameSources 6 rfl) (pc1 := 12) rfl ?_
    refine ix_iload_n (i := 3) (j := 3) X (ix_tb_at tb_X12_addNameSources 7 rfl) rfl rfl (pc1 := 13) rfl ?_
    refine ix_dup2 X (ix_tb_at tb_X12_addNameSources 8 rfl) rfl rfl (pc1 := 14) rfl ?_
    obtain ⟨k_5, h⟩ := ix_ck_some h
    refine iz_lald X k_5 (ix_tb_at tb_X12_addNameSources 9 rfl) (pc1 := 15) rfl ?_
    refine ix_aload_n (i := 0) (j := 0) X (ix_tb_at tb_X12_addNameSources 10 rfl) rfl rfl (pc1 := 16) rfl ?_
    obtain ⟨b_6, q_7, h⟩ := ix_bd1_ex h
    refine iz_getR X fl_RX12_183 k_2 q_7 (ix_tb_at tb_X12_addNameSources 11 rfl) (pc1 := 19) rfl ?_
    refine ix_bipush (v := 8) X (ix_tb_at tb_X12_addNameSources 12 rfl) (by decide) (pc1 := 21) rfl ?_
    refine ix_sipush (v := 301) X (ix_tb_at tb_X12_addNameSources 13 rfl) (by decide) (pc1 := 24) rfl ?_
    refine ix_iload_n (i := 1) (j := 1) X (ix_tb_at tb_X12_addNameSources 14 rfl) rfl rfl (pc1 := 25) rfl ?_
    refine ix_imul X (ix_tb_at tb_X12_addNameSources 15 rfl) (pc1 := 26) rfl ?_
    refine ix_iload_n (i := 2) (j := 2) X (ix_tb_at tb_X12_addNameSources 16 rfl) rfl rfl (pc1 := 27) rfl ?_
    refine ix_iadd X (ix_tb_at tb_X12_addNameSources 17 rfl) (pc1 := 28) rfl ?_
    refine ix_imul X (ix_tb_at tb_X12_addNameSources 18 rfl) (pc1 := 29) rfl ?_
    refine ix_iload_n (i := 3) (j := 3) X (ix_tb_at tb_X12_addNameSources 19 rfl) rfl rfl (pc1 := 30) rfl ?_
    refine ix_iadd X (ix_tb_at tb_X12_addNameSources 20 rfl) (pc1 := 31) rfl ?_
    obtain ⟨k_8, h⟩ := ix_ck_some h
    refine iz_lald X k_8 (ix_tb_at tb_X12_addNameSources 21 rfl) (pc1 := 32) rfl ?_
    refine ix_lor X (ix_tb_at tb_X12_addNameSources 22 rfl) (pc1 := 33) rfl ?_
    obtain ⟨d_9, e_10, h⟩ := ix_lt_ex h
    refine iz_last X k_5 (ix_tb_at tb_X12_addNameSources 23 rfl) e_10 (pc1 := 34) rfl ?_
    obtain ⟨x3_11, e_12, h⟩ := ix_lt_ex h
    refine ix_iinc (i := 3) (j := 3) (v := x3_11) (L1 := [(3, .int x3_11), (0, .ref (K.2.2.1 + a0)), (1, .int x1), (2, .int x2)]) X (ix_tb_at tb_X12_addNameSources 24 rfl) rfl (by rw [oi_1]; exact e_12.symm) (Nat.le_of_ble_eq_true rfl) rfl (pc1 := 37) rfl ?_
    refine ix_goto (tgt := 2) X (ix_tb_at tb_X12_addNameSources 25 rfl) (by decide) ?_
    refine ix_sub (L1 := [(0, .ref (K.2.2.1 + a0)), (1, .int x1), (2, .int x2), (3, .int x3_11)]) [1, 2, 3, 0] rfl ?_
    exact hrec2 x3_11 d_9 h
theorem t_X12_addNameSources_2 {l : Launch} {p : Program} {e : Env} {s : State} {m : MethodId} {args : Array Value} {below : List Frame} {meth : Method} {c : Code} {K : ix_Cx} (hKp : ix_Kp K) {n : Nat} {z : ix_Z} (X : ix_X p s m args c K cX12_addNameSources RX12 4) (hr : meth.sig.returnType = (none : Option Jvm.ClassFile.FieldType)) (hlk : meth.locks = false)  {a0 : Nat} {x1 : Int32} {x2 : Int32} {d1 : ix_D2}  {x3 : Int32} {d : ix_D2} (h : f_X12_addNameSources_2 n z  a0 x1 x2 x3 d = some d1) : ix_G p l e (ix_rm 0 0 0 0) s m args below meth c (MQ below (ix_Post K none (ix_w z d1)) args s 0 0 (ix_A K)) K 4 0 0 2 [(0, .ref (K.2.2.1 + a0)), (1, .int x1), (2, .int x2), (3, .int x3)] [] (ix_w z d) := by
  have key : ∀ (f : Nat) (x3 : Int32) (d : ix_D2), ix_fix (b_X12_addNameSources_2 n z  a0 x1 x2) (fun _ _ => none) f x3 d = some d1 → ix_G p l e (ix_rm 0 0 0 0) s m args below meth c (MQ below (ix_Post K none (ix_w z d1)) args s 0 0 (ix_A K)) K 4 0 0 2 [(0, .ref (K.2.2.1 + a0)), (1, .int x1), (2, .int x2), (3, .int x3)] [] (ix_w z d) := by
    intro f
    induction f with
    | zero =>
      intro x3 d h
      have h : (none : Option (ix_D2)) = some d1 := h
      cases h
    | succ f ih =>
      intro x3 d h
      exact tb_X12_addNameSources_2 hKp X hr hlk (rec2 := ix_fix (b_X12_addNameSources_2 n z  a0 x1 x2) (fun _ _ => none) f)  ih h
  exact key n x3 d h
set_option maxRecDepth 20000 in
theorem c_X12_addNameSources {l : Launch} {K : ix_Cx} (hKp : ix_Kp K) {n : Nat} {z : ix_Z} {a0 : Nat} {x1 : Int32} {x2 : Int32} {d : ix_D2} {d1 : ix_D2} (h : f_X12_addNameSources n z a0 x1 x2 d = some d1) : ix_M l K yX12_addNameSources cX12_addNameSources 4 (none : Option Jvm.ClassFile.FieldType) 0 0 0 0 [.ref (K.2.2.1 + a0), .int x1, .int x2] (ix_w z d) none (ix_w z d1) := by
  refine ix_met mf_X12_addNameSources hKp (Nat.le_of_ble_eq_true rfl) ?_
  intro p e s m args below meth c hr hlk hnm X
  have X : ix_X p s m args c K cX12_addNameSources RX12 4 := X
  show ix_G p l e (ix_rm 0 0 0 0) s m args below meth c (MQ below (ix_Post K none (ix_w z d1)) args s 0 0 (ix_A K)) K 4 0 0 0 [(0, .ref (K.2.2.1 + a0)), (1, .int x1), (2, .int x2)] [] (ix_w z d)
  unfold f_X12_addNameSources at h
  refine ix_iconst (v := 0) X (ix_tb_at tb_X12_addNameSources 0 rfl) (by decide) (pc1 := 1) rfl ?_
  refine ix_istore_n (i := 3) (L1 := [(3, .int 0), (0, .ref (K.2.2.1 + a0)), (1, .int x1), (2, .int x2)]) X (ix_tb_at tb_X12_addNameSources 1 rfl) rfl (Nat.le_of_ble_eq_true rfl) rfl (pc1 := 2) rfl ?_
  refine ix_sub (L1 := [(0, .ref (K.2.2.1 + a0)), (1, .int x1), (2, .int x2), (3, .int 0)]) [1, 2, 3, 0] rfl ?_
  exact t_X12_addNameSources_2 hKp X hr hlk  h
def tab_X12_addLowest : List (Nat × Instr × Nat) := [(0, .aload_n 0, 1), (1, .iload_n 1, 1), (2, .iload_n 2, 1), (3, .invokevirtual 377, 3), (6, .istore 4, 2), (8, .iconst 0, 1), (9, .istore 5, 2), (11, .iload 5, 2), (13, .iload 4, 2), (15, .if_icmp .ge 68, 3), (18, .aload_n 0, 1), (19, .iload_n 1, 1), (20, .iload_n 2, 1), (21, .iload 5, 2), (23, .invokevirtual 381, 3), (26, .invokestatic 289, 3), (29, .istore 6, 2), (31, .iload 6, 2), (33, .iload_n 3, 1), (34, .if_icmp .eq 43, 3), (37, .aload_n 0, 1), (38, .getfield 134, 3), (41, .sipush 301, 3), (44, .iload_n 1, 1), (45, .imul, 1), (46, .iload 6, 2), (48, .iadd, 1), (49, .iaload, 1), (50, .iconst 2, 1), (51, .if_icmp .eq 26, 3), (54, .aload_n 0, 1), (55, .getfield 137, 3), (58, .sipush 301, 3), (61, .iload_n 1, 1), (62, .imul, 1), (63, .iload 6, 2), (65, .iadd, 1), (66, .iaload, 1), (67, .ifCond .ne 10, 3), (70, .aload_n 0, 1), (71, .iload_n 1, 1), (72, .iload 6, 2), (74, .invokevirtual 473, 3), (77, .iinc 5 1, 3), (80, .goto (-69), 3), (83, .return_, 1)]
theorem tb_X12_addLowest : ix_tab cX12_addLowest tab_X12_addLowest := by
  unfold ix_tab
  decide +kernel
noncomputable def f_X12_addLowest_77 (n : Nat) (z : ix_Z) (rec11 : Int32 → ix_D2 → Option (ix_D2)) (a0 : Nat) (x1 : Int32) (x2 : Int32) (x3 : Int32) (x4 : Int32) (x5 : Int32) (d : ix_D2) : Option (ix_D2) :=
  ix_lt (x5 + 1) (fun x5_14 => rec11 x5_14 d)
noncomputable def b_X12_addLowest_11 (n : Nat) (z : ix_Z)  (a0 : Nat) (x1 : Int32) (x2 : Int32) (x3 : Int32) (x4 : Int32) (rec11 : Int32 → ix_D2 → Option (ix_D2)) (x5 : Int32) (d : ix_D2) : Option (ix_D2) :=
  ix_if (x4 ≤ x5) (some d) (ix_ck (ix_ok z [11] a0) (ix_bd2 (f_X12_itemOf n z a0 x1 x2 x5 d) (fun r_9 d_6 => ix_bd2 (f_X12_nameOf n z r_9 d_6) (fun r_12 d_10 => ix_if (r_12 = x3) (f_X12_addLowest_77 n z rec11 a0 x1 x2 x3 x4 x5 d_10) (ix_bd1 (z.1 a0 69) (fun b_16 => ix_ck (ix_ix z 20 b_16 ((301 * x1) + r_12)) (ix_if (d_10.1 b_16 (ix_n ((301 * x1) + r_12)) = 2) (f_X12_addLowest_77 n z rec11 a0 x1 x2 x3 x4 x5 d_10) (ix_bd1 (z.1 a0 70) (fun b_20 => ix_ck (ix_ix z 20 b_20 ((301 * x1) + r_12)) (ix_if (d_10.1 b_20 (ix_n ((301 * x1) + r_12)) = 0) (ix_bd1 (f_X12_addNameSources n z a0 x1 r_12 d_10) (fun d_24 => f_X12_addLowest_77 n z rec11 a0 x1 x2 x3 x4 x5 d_24)) (f_X12_addLowest_77 n z rec11 a0 x1 x2 x3 x4 x5 d_10)))))))))))
noncomputable def f_X12_addLowest_11 (n : Nat) (z : ix_Z)  (a0 : Nat) (x1 : Int32) (x2 : Int32) (x3 : Int32) (x4 : Int32) (x5 : Int32) (d : ix_D2) : Option (ix_D2) := ix_fix (b_X12_addLowest_11 n z  a0 x1 x2 x3 x4) (fun _ _ => none) n x5 d
noncomputable def f_X12_addLowest (n : Nat) (z : ix_Z) (a0 : Nat) (x1 : Int32) (x2 : Int32) (x3 : Int32) (d : ix_D2) : Option (ix_D2) :=
  ix_ck (ix_ok z [11] a0) (ix_bd2 (f_X12_sizeOf n z a0 x1 x2 d) (fun r_4 d_1 => f_X12_addLowest_11 n z  a0 x1 x2 x3 r_4 0 d_1))
set_option maxRecDepth 20000 in
theorem t_X12_addLowest_77 {l : Launch} {p : Program} {e : Env} {s : State} {m : MethodId} {args : Array Value} {below : List Frame} {meth : Method} {c : Code} {K : ix_Cx} (hKp : ix_Kp K) {n : Nat} {z : ix_Z} (X : ix_X p s m args c K cX12_addLowest RX12 7) (hr : meth.sig.returnType = (none : Option Jvm.ClassFile.FieldType)) (hlk : meth.locks = false) {rec11 : Int32 → ix_D2 → Option (ix_D2)} {a0 : Nat} {x1 : Int32} {x2 : Int32} {x3 : Int32} {x4 : Int32} {x5 : Int32} {d1 : ix_D2} (hrec11 : ∀ (x5 : Int32) (d : ix_D2), rec11 x5 d = some d1 → ix_G p l e (ix_rm 1 23 0 0) s m args below meth c (MQ below (ix_Post K none (ix_w z d1)) args s 0 0 (ix_A K)) K 7 0 0 11 [(0, .ref (K.2.2.1 + a0)), (1, .int x1), (2, .int x2), (3, .int x3), (4, .int x4), (5, .int x5)] [] (ix_w z d)) {d : ix_D2} (h : f_X12_addLowest_77 n z rec11 a0 x1 x2 x3 x4 x5 d = some d1) : ix_G p l e (ix_rm 1 23 0 0) s m args below meth c (MQ below (ix_Post K none (ix_w z d1)) args s 0 0 (ix_A K)) K 7 0 0 77 [(0, .ref (K.2.2.1 + a0)), (1, .int x1), (2, .int x2), (3, .int x3), (4, .int x4), (5, .int x5)] [] (ix_w z d) := by
  unfold f_X12_addLowest_77 at h
  obtain ⟨x5_14, e_15, h⟩ := ix_lt_ex h
  refine ix_iinc (i := 5) (j := 5) (v := x5_14) (L1 := [(5, .int x5_14), (0, .ref (K.2.2.1 + a0)), (1, .int x1), (2, .int x2), (3, .int x3), (4, .int x4)]) X (ix_tb_at tb_X12_addLowest 43 rfl) rfl (by rw [oi_1]; exact e_15.symm) (Nat.le_of_ble_eq_true rfl) rfl (pc1 := 80) rfl ?_
  refine ix_goto (tgt := 11) X (ix_tb_at tb_X12_addLowest 44 rfl) (by decide) ?_
  refine ix_sub (L1 := [(0, .ref (K.2.2.1 + a0)), (1, .int x1), (2, .int x2), (3, .int x3), (4, .int x4), (5, .int x5_14)]) [1, 2, 3, 4, 5, 0] rfl ?_
  exact hrec11 x5_14 d h
set_option maxRecDepth 20000 in
theorem tb_X12_addLowest_11 {l : Launch} {p : Program} {e : Env} {s : State} {m : MethodId} {args : Array Value} {below : List Frame} {meth : Method} {c : Code} {K : ix_Cx} (hKp : ix_Kp K) {n : Nat} {z : ix_Z} (X : ix_X p s m args c K cX12_addLowest RX12 7) (hr : meth.sig.returnType = (none : Option Jvm.ClassFile.FieldType)) (hlk : meth.locks = false)  {a0 : Nat} {x1 : Int32} {x2 : Int32} {x3 : Int32} {x4 : Int32} {rec11 : Int32 → ix_D2 → Option (ix_D2)} {d1 : ix_D2} (hrec11 : ∀ (x5 : Int32) (d : ix_D2), rec11 x5 d = some d1 → ix_G p l e (ix_rm 1 23 0 0) s m args below meth c (MQ below (ix_Post K none (ix_w z d1)) args s 0 0 (ix_A K)) K 7 0 0 11 [(0, .ref (K.2.2.1 + a0)), (1, .int x1), (2, .int x2), (3, .int x3), (4, .int x4), (5, .int x5)] [] (ix_w z d)) {x5 : Int32} {d : ix_D2} (h : b_X12_addLowest_11 n z  a0 x1 x2 x3 x4 rec11 x5 d = some d1) : ix_G p l e (ix_rm 1 23 0 0) s m args below meth c (MQ below (ix_Post K none (ix_w z d1)) args s 0 0 (ix_A K)) K 7 0 0 11 [(0, .ref (K.2.2.1 + a0)), (1, .int x1), (2, .int x2), (3, .int x3), (4, .int x4), (5, .int x5)] [] (ix_w z d) := by
  unfold b_X12_addLowest_11 at h
  refine ix_iload (i := 5) (j := 5) X (ix_tb_at tb_X12_addLowest 7 rfl) rfl (pc1 := 13) rfl ?_
  refine ix_iload (i := 4) (j := 4) X (ix_tb_at tb_X12_addLowest 8 rfl) rfl (pc1 := 15) rfl ?_
  refine ix_icmp_ge (tgt := 83) X (ix_tb_at tb_X12_addLowest 9 rfl) (by decide) (pc1 := 18) rfl (fun q_5 => ?_) (fun q_5 => ?_)
  · have h := ix_ift q_5 h
    exact ix_vret X hr hlk (ix_r1 (g := ix_w z) h) (ix_tb_at tb_X12_addLowest 45 rfl)
  · have h := ix_iff q_5 h
    refine ix_aload_n (i := 0) (j := 0) X (ix_tb_at tb_X12_addLowest 10 rfl) rfl rfl (pc1 := 19) rfl ?_
    refine ix_iload_n (i := 1) (j := 1) X (ix_tb_at tb_X12_addLowest 11 rfl) rfl rfl (pc1 := 20) rfl ?_
    refine ix_iload_n (i := 2) (j := 2) X (ix_tb_at tb_X12_addLowest 12 rfl) rfl rfl (pc1 := 21) rfl ?_
    refine ix_iload (i := 5) (j := 5) X (ix_tb_at tb_X12_addLowest 13 rfl) rfl (pc1 := 23) rfl ?_
    obtain ⟨k_8, h⟩ := ix_ck_some h
    obtain ⟨r_9, d_6, h_7, h⟩ := ix_bd2_ex h
    refine ix_callV (As := [.int x1, .int x2, .int x5]) (rest := []) (ci := 11) (T := TX12) (nf := 116) X mf_X12_itemOf mi_X12_itemOf ms_X12_itemOf rfl (Nat.le_of_ble_eq_true rfl) ml_RX12_381 ⟨Nat.le_of_ble_eq_true rfl, Nat.le_of_ble_eq_true rfl⟩ ⟨Nat.le_of_ble_eq_true rfl, Nat.le_of_ble_eq_true rfl⟩ rfl (Nat.le_of_ble_eq_true rfl) (ix_tb_at tb_X12_addLowest 14 rfl) ⟨k_8.1, List.mem_singleton.mp k_8.2⟩ (c_X12_itemOf hKp h_7) rfl (pc1 := 26) rfl ?_
    obtain ⟨r_12, d_10, h_11, h⟩ := ix_bd2_ex h
    refine ix_callS (As := [.int r_9]) (rest := []) X mf_X12_nameOf st_X12_nameOf ml_RX12_289 ⟨Nat.le_of_ble_eq_true rfl, Nat.le_of_ble_eq_true rfl⟩ ⟨Nat.le_of_ble_eq_true rfl, Nat.le_of_ble_eq_true rfl⟩ rfl (Nat.le_of_ble_eq_true rfl) (ix_tb_at tb_X12_addLowest 15 rfl) (c_X12_nameOf hKp h_11) rfl (pc1 := 29) rfl ?_
    refine ix_istore (i := 6) (L1 := [(6, .int r_12), (0, .ref (K.2.2.1 + a0)), (1, .int x1), (2, .int x2), (3, .int x3), (4, .int x4), (5, .int x5)]) X (ix_tb_at tb_X12_addLowest 16 rfl) (Nat.le_of_ble_eq_true rfl) rfl (pc1 := 31) rfl ?_
    refine ix_iload (i := 6) (j := 0) X (ix_tb_at tb_X12_addLowest 17 rfl) rfl (pc1 := 33) rfl ?_
    refine ix_iload_n (i := 3) (j := 4) X (ix_tb_at tb_X12_addLowest 18 rfl) rfl rfl (pc1 := 34) rfl ?_
    refine ix_icmp_eq (tgt := 77) X (ix_tb_at tb_X12_addLowest 19 rfl) (by decide) (pc1 := 37) rfl (fun q_13 => ?_) (fun q_13 => ?_)
    · have h := ix_ift q_13 h
      refine ix_sub (L1 := [(0, .ref (K.2.2.1 + a0)), (1, .int x1), (2, .int x2), (3, .int x3), (4, .int x4), (5, .int x5)]) [1, 2, 3, 4, 5, 6] rfl ?_
      exact t_X12_addLowest_77 hKp X hr hlk hrec11 h
    · have h := ix_iff q_13 h
      refine ix_aload_n (i := 0) (j := 1) X (ix_tb_at tb_X12_addLowest 20 rfl) rfl rfl (pc1 := 38) rfl ?_
      obtain ⟨b_16, q_17, h⟩ := ix_bd1_ex h
      refine iz_getR X fl_RX12_134 k_8 q_17 (ix_tb_at tb_X12_addLowest 21 rfl) (pc1 := 41) rfl ?_
      refine ix_sipush (v := 301) X (ix_tb_at tb_X12_addLowest 22 rfl) (by decide) (pc1 := 44) rfl ?_
      refine ix_iload_n (i := 1) (j := 2) X (ix_tb_at tb_X12_addLowest 23 rfl) rfl rfl (pc1 := 45) rfl ?_
      refine ix_imul X (ix_tb_at tb_X12_addLowest 24 rfl) (pc1 := 46) rfl ?_
      refine ix_iload (i := 6) (j := 0) X (ix_tb_at tb_X12_addLowest 25 rfl) rfl (pc1 := 48) rfl ?_
      refine ix_iadd X (ix_tb_at tb_X12_addLowest 26 rfl) (pc1 := 49) rfl ?_
      obtain ⟨k_18, h⟩ := ix_ck_some h
      refine iz_iald X k_18 (ix_tb_at tb_X12_addLowest 27 rfl) (pc1 := 50) rfl ?_
      refine ix_iconst (v := 2) X (ix_tb_at tb_X12_addLowest 28 rfl) (by decide) (pc1 := 51) rfl ?_
      refine ix_icmp_eq (tgt := 77) X (ix_tb_at tb_X12_addLowest 29 rfl) (by decide) (pc1 := 54) rfl (fun q_19 => ?_) (fun q_19 => ?_)
      · have h := ix_ift q_19 h
        refine ix_sub (L1 := [(0, .ref (K.2.2.1 + a0)), (1, .int x1), (2, .int x2), (3, .int x3), (4, .int x4), (5, .int x5)]) [1, 2, 3, 4, 5, 6] rfl ?_
        exact t_X12_addLowest_77 hKp X hr hlk hrec11 h
      · have h := ix_iff q_19 h
        refine ix_aload_n (i := 0) (j := 1) X (ix_tb_at tb_X12_addLowest 30 rfl) rfl rfl (pc1 := 55) rfl ?_
        obtain ⟨b_20, q_21, h⟩ := ix_bd1_ex h
        refine iz_getR X fl_RX12_137 k_8 q_21 (ix_tb_at tb_X12_addLowest 31 rfl) (pc1 := 58) rfl ?_
        refine ix_sipush (v := 301) X (ix_tb_at tb_X12_addLowest 32 rfl) (by decide) (pc1 := 61) rfl ?_
        refine ix_iload_n (i := 1) (j := 2) X (ix_tb_at tb_X12_addLowest 33 rfl) rfl rfl (pc1 := 62) rfl ?_
        refine ix_imul X (ix_tb_at tb_X12_addLowest 34 rfl) (pc1 := 63) rfl ?_
        refine ix_iload (i := 6) (j := 0) X (ix_tb_at tb_X12_addLowest 35 rfl) rfl (pc1 := 65) rfl ?_
        refine ix_iadd X (ix_tb_at tb_X12_addLowest 36 rfl) (pc1 := 66) rfl ?_
        obtain ⟨k_22, h⟩ := ix_ck_some h
        refine iz_iald X k_22 (ix_tb_at tb_X12_addLowest 37 rfl) (pc1 := 67) rfl ?_
        refine ix_if_ne (tgt := 77) X (ix_tb_at tb_X12_addLowest 38 rfl) (by decide) (pc1 := 70) rfl (fun q_23 => ?_) (fun q_23 => ?_)
        · have h := ix_iff q_23 h
          refine ix_sub (L1 := [(0, .ref (K.2.2.1 + a0)), (1, .int x1), (2, .int x2), (3, .int x3), (4, .int x4), (5, .int x5)]) [1, 2, 3, 4, 5, 6] rfl ?_
          exact t_X12_addLowest_77 hKp X hr hlk hrec11 h
        · have h := ix_ift q_23 h
          refine ix_aload_n (i := 0) (j := 1) X (ix_tb_at tb_X12_addLowest 39 rfl) rfl rfl (pc1 := 71) rfl ?_
          refine ix_iload_n (i := 1) (j := 2) X (ix_tb_at tb_X12_addLowest 40 rfl) rfl rfl (pc1 := 72) rfl ?_
          refine ix_iload (i := 6) (j := 0) X (ix_tb_at tb_X12_addLowest 41 rfl) rfl (pc1 := 74) rfl ?_
          obtain ⟨d_24, h_25, h⟩ := ix_bd1_ex h
          refine ix_callV (As := [.int x1, .int r_12]) (rest := []) (ci := 11) (T := TX12) (nf := 116) X mf_X12_addNameSources mi_X12_addNameSources ms_X12_addNameSources rfl (Nat.le_of_ble_eq_true rfl) ml_RX12_473 ⟨Nat.le_of_ble_eq_true rfl, Nat.le_of_ble_eq_true rfl⟩ ⟨Nat.le_of_ble_eq_true rfl, Nat.le_of_ble_eq_true rfl⟩ rfl (Nat.le_of_ble_eq_true rfl) (ix_tb_at tb_X12_addLowest 42 rfl) ⟨k_8.1, List.mem_singleton.mp k_8.2⟩ (c_X12_addNameSources hKp h_25) rfl (pc1 := 77) rfl ?_
          refine ix_sub (L1 := [(0, .ref (K.2.2.1 + a0)), (1, .int x1), (2, .int x2), (3, .int x3), (4, .int x4), (5, .int x5)]) [1, 2, 3, 4, 5, 6] rfl ?_
          exact t_X12_addLowest_77 hKp X hr hlk hrec11 h
theorem t_X12_addLowest_11 {l : Launch} {p : Program} {e : Env} {s : State} {m : MethodId} {args : Array Value} {below : List Frame} {meth : Method} {c : Code} {K : ix_Cx} (hKp : ix_Kp K) {n : Nat} {z : ix_Z} (X : ix_X p s m args c K cX12_addLowest RX12 7) (hr : meth.sig.returnType = (none : Option Jvm.ClassFile.FieldType)) (hlk : meth.locks = false)  {a0 : Nat} {x1 : Int32} {x2 : Int32} {x3 : Int32} {x4 : Int32} {d1 : ix_D2}  {x5 : Int32} {d : ix_D2} (h : f_X12_addLowest_11 n z  a0 x1 x2 x3 x4 x5 d = some d1) : ix_G p l e (ix_rm 1 23 0 0) s m args below meth c (MQ below (ix_Post K none (ix_w z d1)) args s 0 0 (ix_A K)) K 7 0 0 11 [(0, .ref (K.2.2.1 + a0)), (1, .int x1), (2, .int x2), (3, .int x3), (4, .int x4), (5, .int x5)] [] (ix_w z d) := by
  have key : ∀ (f : Nat) (x5 : Int32) (d : ix_D2), ix_fix (b_X12_addLowest_11 n z  a0 x1 x2 x3 x4) (fun _ _ => none) f x5 d = some d1 → ix_G p l e (ix_rm 1 23 0 0) s m args below meth c (MQ below (ix_Post K none (ix_w z d1)) args s 0 0 (ix_A K)) K 7 0 0 11 [(0, .ref (K.2.2.1 + a0)), (1, .int x1), (2, .int x2), (3, .int x3), (4, .int x4), (5, .int x5)] [] (ix_w z d) := by
    intro f
    induction f with
    | zero =>
      intro x5 d h
      have h : (none : Option (ix_D2)) = some d1 := h
      cases h
    | succ f ih =>
      intro x5 d h
      exact tb_X12_addLowest_11 hKp X hr hlk (rec11 := ix_fix (b_X12_addLowest_11 n z  a0 x1 x2 x3 x4) (fun _ _ => none) f)  ih h
  exact key n x5 d h
set_option maxRecDepth 20000 in
theorem c_X12_addLowest {l : Launch} {K : ix_Cx} (hKp : ix_Kp K) {n : Nat} {z : ix_Z} {a0 : Nat} {x1 : Int32} {x2 : Int32} {x3 : Int32} {d : ix_D2} {d1 : ix_D2} (h : f_X12_addLowest n z a0 x1 x2 x3 d = some d1) : ix_M l K yX12_addLowest cX12_addLowest 7 (none : Option Jvm.ClassFile.FieldType) 1 23 0 0 [.ref (K.2.2.1 + a0), .int x1, .int x2, .int x3] (ix_w z d) none (ix_w z d1) := by
  refine ix_met mf_X12_addLowest hKp (Nat.le_of_ble_eq_true rfl) ?_
  intro p e s m args below meth c hr hlk hnm X
  have X : ix_X p s m args c K cX12_addLowest RX12 7 := X
  show ix_G p l e (ix_rm 1 23 0 0) s m args below meth c (MQ below (ix_Post K none (ix_w z d1)) args s 0 0 (ix_A K)) K 7 0 0 0 [(0, .ref (K.2.2.1 + a0)), (1, .int x1), (2, .int x2), (3, .int x3)] [] (ix_w z d)
  unfold f_X12_addLowest at h
  refine ix_aload_n (i := 0) (j := 0) X (ix_tb_at tb_X12_addLowest 0 rfl) rfl rfl (pc1 := 1) rfl ?_
  refine ix_iload_n (i := 1) (j := 1) X (ix_tb_at tb_X12_addLowest 1 rfl) rfl rfl (pc1 := 2) rfl ?_
  refine ix_iload_n (i := 2) (j := 2) X (ix_tb_at tb_X12_addLowest 2 rfl) rfl rfl (pc1 := 3) rfl ?_
  obtain ⟨k_3, h⟩ := ix_ck_some h
  obtain ⟨r_4, d_1, h_2, h⟩ := ix_bd2_ex h
  refine ix_callV (As := [.int x1, .int x2]) (rest := []) (ci := 11) (T := TX12) (nf := 116) X mf_X12_sizeOf mi_X12_sizeOf ms_X12_sizeOf rfl (Nat.le_of_ble_eq_true rfl) ml_RX12_377 ⟨Nat.le_of_ble_eq_true rfl, Nat.le_of_ble_eq_true rfl⟩ ⟨Nat.le_of_ble_eq_true rfl, Nat.le_of_ble_eq_true rfl⟩ rfl (Nat.le_of_ble_eq_true rfl) (ix_tb_at tb_X12_addLowest 3 rfl) ⟨k_3.1, List.mem_singleton.mp k_3.2⟩ (c_X12_sizeOf hKp h_2) rfl (pc1 := 6) rfl ?_
  refine ix_istore (i := 4) (L1 := [(4, .int r_4), (0, .ref (K.2.2.1 + a0)), (1, .int x1), (2, .int x2), (3, .int x3)]) X (ix_tb_at tb_X12_addLowest 4 rfl) (Nat.le_of_ble_eq_true rfl) rfl (pc1 := 8) rfl ?_
  refine ix_iconst (v := 0) X (ix_tb_at tb_X12_addLowest 5 rfl) (by decide) (pc1 := 9) rfl ?_
  refine ix_istore (i := 5) (L1 := [(5, .int 0), (4, .int r_4), (0, .ref (K.2.2.1 + a0)), (1, .int x1), (2, .int x2), (3, .int x3)]) X (ix_tb_at tb_X12_addLowest 6 rfl) (Nat.le_of_ble_eq_true rfl) rfl (pc1 := 11) rfl ?_
  refine ix_sub (L1 := [(0, .ref (K.2.2.1 + a0)), (1, .int x1), (2, .int x2), (3, .int x3), (4, .int r_4), (5, .int 0)]) [2, 3, 4, 5, 1, 0] rfl ?_
  exact t_X12_addLowest_11 hKp X hr hlk  h
def tab_X12_become : List (Nat × Instr × Nat) := [(0, .iload_n 2, 1), (1, .invokestatic 289, 3), (4, .istore 4, 2), (6, .aload_n 0, 1), (7, .getfield 159, 3), (10, .iload_n 1, 1), (11, .iaload, 1), (12, .ifCond .ne 67, 3), (15, .iload_n 3, 1), (16, .ifCond .lt 63, 3), (19, .aload_n 0, 1), (20, .invokevirtual 476, 3), (23, .aload_n 0, 1), (24, .iload_n 1, 1), (25, .iload_n 3, 1), (26, .invokevirtual 479, 3), (29, .aload_n 0, 1), (30, .iload_n 1, 1), (31, .iload_n 3, 1), (32, .iload 4, 2), (34, .invokevirtual 482, 3), (37, .iconst 0, 1), (38, .istore 5, 2), (40, .iload 5, 2), (42, .bipush 8, 2), (44, .if_icmp .ge 35, 3), (47, .aload_n 0, 1), (48, .getfield 183, 3), (51, .bipush 8, 2), (53, .sipush 301, 3), (56, .iload_n 1, 1), (57, .imul, 1), (58, .iload 4, 2), (60, .iadd, 1), (61, .imul, 1), (62, .iload 5, 2), (64, .iadd, 1), (65, .aload_n 0, 1), (66, .getfield 186, 3), (69, .iload 5, 2), (71, .laload, 1), (72, .lastore, 1), (73, .iinc 5 1, 3), (76, .goto (-36), 3), (79, .aload_n 0, 1), (80, .getfield 134, 3), (83, .sipush 301, 3), (86, .iload_n 1, 1), (87, .imul, 1), (88, .iload 4, 2), (90, .iadd, 1), (91, .iload_n 2, 1), (92, .ifCond .le 7, 3), (95, .iconst 1, 1), (96, .goto 4, 3), (99, .iconst 0, 1), (100, .iastore, 1), (101, .aload_n 0, 1), (102, .getfield 137, 3), (105, .sipush 301, 3), (108, .iload_n 1, 1), (109, .imul, 1), (110, .iload 4, 2), (112, .iadd, 1), (113, .aload_n 0, 1), (114, .getfield 159, 3), (117, .iload_n 1, 1), (118, .iaload, 1), (119, .iastore, 1), (120, .aload_n 0, 1), (121, .getfield 140, 3), (124, .sipush 301, 3), (127, .iload_n 1, 1), (128, .imul, 1), (129, .iload 4, 2), (131, .iadd, 1), (132, .iload_n 3, 1), (133, .iastore, 1), (134, .aload_n 0, 1), (135, .getfield 153, 3), (138, .sipush 300, 3), (141, .iload_n 1, 1), (142, .imul, 1), (143, .aload_n 0, 1), (144, .getfield 156, 3), (147, .iload_n 1, 1), (148, .iaload, 1), (149, .iadd, 1), (150, .iload_n 2, 1), (151, .iastore, 1), (152, .aload_n 0, 1), (153, .getfield 156, 3), (156, .iload_n 1, 1), (157, .dup2, 1), (158, .iaload, 1), (159, .iconst 1, 1), (160, .iadd, 1), (161, .iastore, 1), (162, .return_, 1)]
theorem tb_X12_become : ix_tab cX12_become tab_X12_become := by
  unfold ix_tab
  decide +kernel
noncomputable def f_X12_become_100 (n : Nat) (z : ix_Z)  (a0 : Nat) (x1 : Int32) (x2 : Int32) (x3 : Int32) (x4 : Int32) (s0 : Int32) (s1 : Int32) (s2 : Nat) (d : ix_D2) : Option (ix_D2) :=
  ix_ck (ix_ix z 20 s2 s1) (ix_lt (ix_di d s2 (ix_n s1) s0) (fun d_14 => ix_ck (ix_ok z [11] a0) (ix_bd1 (z.1 a0 70) (fun b_17 => ix_bd1 (z.1 a0 77) (fun b_19 => ix_ck (ix_ix z 20 b_19 x1) (ix_ck (ix_ix z 20 b_17 ((301 * x1) + x4)) (ix_lt (ix_di d_14 b_17 (ix_n ((301 * x1) + x4)) (d_14.1 b_19 (ix_n x1))) (fun d_23 => ix_bd1 (z.1 a0 71) (fun b_25 => ix_ck (ix_ix z 20 b_25 ((301 * x1) + x4)) (ix_lt (ix_di d_23 b_25 (ix_n ((301 * x1) + x4)) x3) (fun d_28 => ix_bd1 (z.1 a0 75) (fun b_30 => ix_bd1 (z.1 a0 76) (fun b_32 => ix_ck (ix_ix z 20 b_32 x1) (ix_ck (ix_ix z 20 b_30 ((300 * x1) + (d_28.1 b_32 (ix_n x1)))) (ix_lt (ix_di d_28 b_30 (ix_n ((300 * x1) + (d_28.1 b_32 (ix_n x1)))) x2) (fun d_36 => ix_lt (ix_di d_36 b_32 (ix_n x1) ((d_36.1 b_32 (ix_n x1)) + 1)) (fun d_38 => some d_38)))))))))))))))))
noncomputable def f_X12_become_79 (n : Nat) (z : ix_Z)  (a0 : Nat) (x1 : Int32) (x2 : Int32) (x3 : Int32) (x4 : Int32) (d : ix_D2) : Option (ix_D2) :=
  ix_ck (ix_ok z [11] a0) (ix_bd1 (z.1 a0 69) (fun b_10 => ix_if (x2 ≤ 0) (f_X12_become_100 n z  a0 x1 x2 x3 x4 0 ((301 * x1) + x4) b_10 d) (f_X12_become_100 n z  a0 x1 x2 x3 x4 1 ((301 * x1) + x4) b_10 d)))
noncomputable def b_X12_become_40 (n : Nat) (z : ix_Z)  (a0 : Nat) (x1 : Int32) (x2 : Int32) (x3 : Int32) (x4 : Int32) (rec40 : Int32 → ix_D2 → Option (ix_D2)) (x5 : Int32) (d : ix_D2) : Option (ix_D2) :=
  ix_if (8 ≤ x5) (f_X12_become_79 n z  a0 x1 x2 x3 x4 d) (ix_ck (ix_ok z [11] a0) (ix_bd1 (z.1 a0 85) (fun b_49 => ix_bd1 (z.1 a0 86) (fun b_51 => ix_ck (ix_ix z 23 b_51 x5) (ix_ck (ix_ix z 23 b_49 ((8 * ((301 * x1) + x4)) + x5)) (ix_lt (ix_dj d b_49 (ix_n ((8 * ((301 * x1) + x4)) + x5)) (d.2 b_51 (ix_n x5))) (fun d_55 => ix_lt (x5 + 1) (fun x5_57 => rec40 x5_57 d_55))))))))
noncomputable def f_X12_become_40 (n : Nat) (z : ix_Z)  (a0 : Nat) (x1 : Int32) (x2 : Int32) (x3 : Int32) (x4 : Int32) (x5 : Int32) (d : ix_D2) : Option (ix_D2) := ix_fix (b_X12_become_40 n z  a0 x1 x2 x3 x4) (fun _ _ => none) n x5 d
noncomputable def f_X12_become (n : Nat) (z : ix_Z) (a0 : Nat) (x1 : Int32) (x2 : Int32) (x3 : Int32) (d : ix_D2) : Option (ix_D2) :=
  ix_bd2 (f_X12_nameOf n z x2 d) (fun r_3 d_1 => ix_ck (ix_ok z [11] a0) (ix_bd1 (z.1 a0 77) (fun b_5 => ix_ck (ix_ix z 20 b_5 x1) (ix_if (d_1.1 b_5 (ix_n x1) = 0) (ix_if (x3 < 0) (f_X12_become_79 n z  a0 x1 x2 x3 r_3 d_1) (ix_bd1 (f_X12_clearSources n z a0 d_1) (fun d_41 => ix_bd1 (f_X12_addSources n z a0 x1 x3 d_41) (fun d_43 => ix_bd1 (f_X12_addLowest n z a0 x1 x3 r_3 d_43) (fun d_45 => f_X12_become_40 n z  a0 x1 x2 x3 r_3 0 d_45))))) (f_X12_become_79 n z  a0 x1 x2 x3 r_3 d_1)))))
set_option maxRecDepth 20000 in
theorem t_X12_become_100 {l : Launch} {p : Program} {e : Env} {s : State} {m : MethodId} {args : Array Value} {below : List Frame} {meth : Method} {c : Code} {K : ix_Cx} (hKp : ix_Kp K) {n : Nat} {z : ix_Z} (X : ix_X p s m args c K cX12_become RX12 6) (hr : meth.sig.returnType = (none : Option Jvm.ClassFile.FieldType)) (hlk : meth.locks = false)  {a0 : Nat} {x1 : Int32} {x2 : Int32} {x3 : Int32} {x4 : Int32} {s0 : Int32} {s1 : Int32} {s2 : Nat} {d1 : ix_D2}  {d : ix_D2} (h : f_X12_become_100 n z  a0 x1 x2 x3 x4 s0 s1 s2 d = some d1) : ix_G p l e (ix_rm 2 49 0 0) s m args below meth c (MQ below (ix_Post K none (ix_w z d1)) args s 0 0 (ix_A K)) K 6 0 0 100 [(0, .ref (K.2.2.1 + a0)), (1, .int x1), (2, .int x2), (3, .int x3), (4, .int x4)] [.int s0, .int s1, .ref (K.2.2.1 + s2)] (ix_w z d) := by
  unfold f_X12_become_100 at h
  obtain ⟨k_13, h⟩ := ix_ck_some h
  obtain ⟨d_14, e_15, h⟩ := ix_lt_ex h
  refine iz_iast X k_13 (ix_tb_at tb_X12_become 56 rfl) e_15 (pc1 := 101) rfl ?_
  refine ix_aload_n (i := 0) (j := 0) X (ix_tb_at tb_X12_become 57 rfl) rfl rfl (pc1 := 102) rfl ?_
  obtain ⟨k_16, h⟩ := ix_ck_some h
  obtain ⟨b_17, q_18, h⟩ := ix_bd1_ex h
  refine iz_getR X fl_RX12_137 k_16 q_18 (ix_tb_at tb_X12_become 58 rfl) (pc1 := 105) rfl ?_
  refine ix_sipush (v := 301) X (ix_tb_at tb_X12_become 59 rfl) (by decide) (pc1 := 108) rfl ?_
  refine ix_iload_n (i := 1) (j := 1) X (ix_tb_at tb_X12_become 60 rfl) rfl rfl (pc1 := 109) rfl ?_
  refine ix_imul X (ix_tb_at tb_X12_become 61 rfl) (pc1 := 110) rfl ?_
  refine ix_iload (i := 4) (j := 4) X (ix_tb_at tb_X12_become 62 rfl) rfl (pc1 := 112) rfl ?_
  refine ix_iadd X (ix_tb_at tb_X12_become 63 rfl) (pc1 := 113) rfl ?_
  refine ix_aload_n (i := 0) (j := 0) X (ix_tb_at tb_X12_become 64 rfl) rfl rfl (pc1 := 114) rfl ?_
  obtain ⟨b_19, q_20, h⟩ := ix_bd1_ex h
  refine iz_getR X fl_RX12_159 k_16 q_20 (ix_tb_at tb_X12_become 65 rfl) (pc1 := 117) rfl ?_
  refine ix_iload_n (i := 1) (j := 1) X (ix_tb_at tb_X12_become 66 rfl) rfl rfl (pc1 := 118) rfl ?_
  obtain ⟨k_21, h⟩ := ix_ck_some h
  refine iz_iald X k_21 (ix_tb_at tb_X12_become 67 rfl) (pc1 := 119) rfl ?_
  obtain ⟨k_22, h⟩ := ix_ck_some h
  obtain ⟨d_23, e_24, h⟩ := ix_lt_ex h
  refine iz_iast X k_22 (ix_tb_at tb_X12_become 68 rfl) e_24 (pc1 := 120) rfl ?_
  refine ix_aload_n (i := 0) (j := 0) X (ix_tb_at tb_X12_become 69 rfl) rfl rfl (pc1 := 121) rfl ?_
  obtain ⟨b_25, q_26, h⟩ := ix_bd1_ex h
  refine iz_getR X fl_RX12_140 k_16 q_26 (ix_tb_at tb_X12_become 70 rfl) (pc1 := 124) rfl ?_
  refine ix_sipush (v := 301) X (ix_tb_at tb_X12_become 71 rfl) (by decide) (pc1 := 127) rfl ?_
  refine ix_iload_n (i := 1) (j := 1) X (ix_tb_at tb_X12_become 72 rfl) rfl rfl (pc1 := 128) rfl ?_
  refine ix_imul X (ix_tb_at tb_X12_become 73 rfl) (pc1 := 129) rfl ?_
  refine ix_iload (i := 4) (j := 4) X (ix_tb_at tb_X12_become 74 rfl) rfl (pc1 := 131) rfl ?_
  refine ix_iadd X (ix_tb_at tb_X12_become 75 rfl) (pc1 := 132) rfl ?_
  refine ix_iload_n (i := 3) (j := 3) X (ix_tb_at tb_X12_become 76 rfl) rfl rfl (pc1 := 133) rfl ?_
  obtain ⟨k_27, h⟩ := ix_ck_some h
  obtain ⟨d_28, e_29, h⟩ := ix_lt_ex h
  refine iz_iast X k_27 (ix_tb_at tb_X12_become 77 rfl) e_29 (pc1 := 134) rfl ?_
  refine ix_aload_n (i := 0) (j := 0) X (ix_tb_at tb_X12_become 78 rfl) rfl rfl (pc1 := 135) rfl ?_
  obtain ⟨b_30, q_31, h⟩ := ix_bd1_ex h
  refine iz_getR X fl_RX12_153 k_16 q_31 (ix_tb_at tb_X12_become 79 rfl) (pc1 := 138) rfl ?_
  refine ix_sipush (v := 300) X (ix_tb_at tb_X12_become 80 rfl) (by decide) (pc1 := 141) rfl ?_
  refine ix_iload_n (i := 1) (j := 1) X (ix_tb_at tb_X12_become 81 rfl) rfl rfl (pc1 := 142) rfl ?_
  refine ix_imul X (ix_tb_at tb_X12_become 82 rfl) (pc1 := 143) rfl ?_
  refine ix_aload_n (i := 0) (j := 0) X (ix_tb_at tb_X12_become 83 rfl) rfl rfl (pc1 := 144) rfl ?_
  obtain ⟨b_32, q_33, h⟩ := ix_bd1_ex h
  refine iz_getR X fl_RX12_156 k_16 q_33 (ix_tb_at tb_X12_become 84 rfl) (pc1 := 147) rfl ?_
  refine ix_iload_n (i := 1) (j := 1) X (ix_tb_at tb_X12_become 85 rfl) rfl rfl (pc1 := 148) rfl ?_
  obtain ⟨k_34, h⟩ := ix_ck_some h
  refine iz_iald X k_34 (ix_tb_at tb_X12_become 86 rfl) (pc1 := 149) rfl ?_
  refine ix_iadd X (ix_tb_at tb_X12_become 87 rfl) (pc1 := 150) rfl ?_
  refine ix_iload_n (i := 2) (j := 2) X (ix_tb_at tb_X12_become 88 rfl) rfl rfl (pc1 := 151) rfl ?_
  obtain ⟨k_35, h⟩ := ix_ck_some h
  obtain ⟨d_36, e_37, h⟩ := ix_lt_ex h
  refine iz_iast X k_35 (ix_tb_at tb_X12_become 89 rfl) e_37 (pc1 := 152) rfl ?_
  refine ix_aload_n (i := 0) (j := 0) X (ix_tb_at tb_X12_become 90 rfl) rfl rfl (pc1 := 153) rfl ?_
  refine iz_getR X fl_RX12_156 k_16 q_33 (ix_tb_at tb_X12_become 91 rfl) (pc1 := 156) rfl ?_
  refine ix_iload_n (i := 1) (j := 1) X (ix_tb_at tb_X12_become 92 rfl) rfl rfl (pc1 := 157) rfl ?_
  refine ix_dup2 X (ix_tb_at tb_X12_become 93 rfl) rfl rfl (pc1 := 158) rfl ?_
  refine iz_iald X k_34 (ix_tb_at tb_X12_become 94 rfl) (pc1 := 159) rfl ?_
  refine ix_iconst (v := 1) X (ix_tb_at tb_X12_become 95 rfl) (by decide) (pc1 := 160) rfl ?_
  refine ix_iadd X (ix_tb_at tb_X12_become 96 rfl) (pc1 := 161) rfl ?_
  obtain ⟨d_38, e_39, h⟩ := ix_lt_ex h
  refine iz_iast X k_34 (ix_tb_at tb_X12_become 97 rfl) e_39 (pc1 := 162) rfl ?_
  exact ix_vret X hr hlk (ix_r1 (g := ix_w z) h) (ix_tb_at tb_X12_become 98 rfl)
set_option maxRecDepth 20000 in
theorem t_X12_become_79 {l : Launch} {p : Program} {e : Env} {s : State} {m : MethodId} {args : Array Value} {below : List Frame} {meth : Method} {c : Code} {K : ix_Cx} (hKp : ix_Kp K) {n : Nat} {z : ix_Z} (X : ix_X p s m args c K cX12_become RX12 6) (hr : meth.sig.returnType = (none : Option Jvm.ClassFile.FieldType)) (hlk : meth.locks = false)  {a0 : Nat} {x1 : Int32} {x2 : Int32} {x3 : Int32} {x4 : Int32} {d1 : ix_D2}  {d : ix_D2} (h : f_X12_become_79 n z  a0 x1 x2 x3 x4 d = some d1) : ix_G p l e (ix_rm 2 49 0 0) s m args below meth c (MQ below (ix_Post K none (ix_w z d1)) args s 0 0 (ix_A K)) K 6 0 0 79 [(0, .ref (K.2.2.1 + a0)), (1, .int x1), (2, .int x2), (3, .int x3), (4, .int x4)] [] (ix_w z d) := by
  unfold f_X12_become_79 at h
  refine ix_aload_n (i := 0) (j := 0) X (ix_tb_at tb_X12_become 44 rfl) rfl rfl (pc1 := 80) rfl ?_
  obtain ⟨k_9, h⟩ := ix_ck_some h
  obtain ⟨b_10, q_11, h⟩ := ix_bd1_ex h
  refine iz_getR X fl_RX12_134 k_9 q_11 (ix_tb_at tb_X12_become 45 rfl) (pc1 := 83) rfl ?_
  refine ix_sipush (v := 301) X (ix_tb_at tb_X12_become 46 rfl) (by decide) (pc1 := 86) rfl ?_
  refine ix_iload_n (i := 1) (j := 1) X (ix_tb_at tb_X12_become 47 rfl) rfl rfl (pc1 := 87) rfl ?_
  refine ix_imul X (ix_tb_at tb_X12_become 48 rfl) (pc1 := 88) rfl ?_
  refine ix_iload (i := 4) (j := 4) X (ix_tb_at tb_X12_become 49 rfl) rfl (pc1 := 90) rfl ?_
  refine ix_iadd X (ix_tb_at tb_X12_become 50 rfl) (pc1 := 91) rfl ?_
  refine ix_iload_n (i := 2) (j := 2) X (ix_tb_at tb_X12_become 51 rfl) rfl rfl (pc1 := 92) rfl ?_
  refine ix_if_le (tgt := 99) X (ix_tb_at tb_X12_become 52 rfl) (by decide) (pc1 := 95) rfl (fun q_12 => ?_) (fun q_12 => ?_)
  · have h := ix_ift q_12 h
    refine ix_iconst (v := 0) X (ix_tb_at tb_X12_become 55 rfl) (by decide) (pc1 := 100) rfl ?_
    refine ix_sub (L1 := [(0, .ref (K.2.2.1 + a0)), (1, .int x1), (2, .int x2), (3, .int x3), (4, .int x4)]) [0, 1, 2, 3, 4] rfl ?_
    exact t_X12_become_100 hKp X hr hlk  h
  · have h := ix_iff q_12 h
    refine ix_iconst (v := 1) X (ix_tb_at tb_X12_become 53 rfl) (by decide) (pc1 := 96) rfl ?_
    refine ix_goto (tgt := 100) X (ix_tb_at tb_X12_become 54 rfl) (by decide) ?_
    refine ix_sub (L1 := [(0, .ref (K.2.2.1 + a0)), (1, .int x1), (2, .int x2), (3, .int x3), (4, .int x4)]) [0, 1, 2, 3, 4] rfl ?_
    exact t_X12_become_100 hKp X hr hlk  h
set_option maxRecDepth 20000 in
theorem tb_X12_become_40 {l : Launch} {p : Program} {e : Env} {s : State} {m : MethodId} {args : Array Value} {below : List Frame} {meth : Method} {c : Code} {K : ix_Cx} (hKp : ix_Kp K) {n : Nat} {z : ix_Z} (X : ix_X p s m args c K cX12_become RX12 6) (hr : meth.sig.returnType = (none : Option Jvm.ClassFile.FieldType)) (hlk : meth.locks = false)  {a0 : Nat} {x1 : Int32} {x2 : Int32} {x3 : Int32} {x4 : Int32} {rec40 : Int32 → ix_D2 → Option (ix_D2)} {d1 : ix_D2} (hrec40 : ∀ (x5 : Int32) (d : ix_D2), rec40 x5 d = some d1 → ix_G p l e (ix_rm 2 49 0 0) s m args below meth c (MQ below (ix_Post K none (ix_w z d1)) args s 0 0 (ix_A K)) K 6 0 0 40 [(0, .ref (K.2.2.1 + a0)), (1, .int x1), (2, .int x2), (3, .int x3), (4, .int x4), (5, .int x5)] [] (ix_w z d)) {x5 : Int32} {d : ix_D2} (h : b_X12_become_40 n z  a0 x1 x2 x3 x4 rec40 x5 d = some d1) : ix_G p l e (ix_rm 2 49 0 0) s m args below meth c (MQ below (ix_Post K none (ix_w z d1)) args s 0 0 (ix_A K)) K 6 0 0 40 [(0, .ref (K.2.2.1 + a0)), (1, .int x1), (2, .int x2), (3, .int x3), (4, .int x4), (5, .int x5)] [] (ix_w z d) := by
  unfold b_X12_become_40 at h
  refine ix_iload (i := 5) (j := 5) X (ix_tb_at tb_X12_become 23 rfl) rfl (pc1 := 42) rfl ?_
  refine ix_bipush (v := 8) X (ix_tb_at tb_X12_become 24 rfl) (by decide) (pc1 := 44) rfl ?_
  refine ix_icmp_ge (tgt := 79) X (ix_tb_at tb_X12_become 25 rfl) (by decide) (pc1 := 47) rfl (fun q_47 => ?_) (fun q_47 => ?_)
  · have h := ix_ift q_47 h
    refine ix_sub (L1 := [(0, .ref (K.2.2.1 + a0)), (1, .int x1), (2, .int x2), (3, .int x3), (4, .int x4)]) [0, 1, 2, 3, 4] rfl ?_
    exact t_X12_become_79 hKp X hr hlk  h
  · have h := ix_iff q_47 h
    refine ix_aload_n (i := 0) (j := 0) X (ix_tb_at tb_X12_become 26 rfl) rfl rfl (pc1 := 48) rfl ?_
    obtain ⟨k_48, h⟩ := ix_ck_some h
    obtain ⟨b_49, q_50, h⟩ := ix_bd1_ex h
    refine iz_getR X fl_RX12_183 k_48 q_50 (ix_tb_at tb_X12_become 27 rfl) (pc1 := 51) rfl ?_
    refine ix_bipush (v := 8) X (ix_tb_at tb_X12_become 28 rfl) (by decide) (pc1 := 53) rfl ?_
    refine ix_sipush (v := 301) X (ix_tb_at tb_X12_become 29 rfl) (by decide) (pc1 := 56) rfl ?_
    refine ix_iload_n (i := 1) (j := 1) X (ix_tb_at tb_X12_become 30 rfl) rfl rfl (pc1 := 57) rfl ?_
    refine ix_imul X (ix_tb_at tb_X12_become 31 rfl) (pc1 := 58) rfl ?_
    refine ix_iload (i := 4) (j := 4) X (ix_tb_at tb_X12_become 32 rfl) rfl (pc1 := 60) rfl ?_
    refine ix_iadd X (ix_tb_at tb_X12_become 33 rfl) (pc1 := 61) rfl ?_
    refine ix_imul X (ix_tb_at tb_X12_become 34 rfl) (pc1 := 62) rfl ?_
    refine ix_iload (i := 5) (j := 5) X (ix_tb_at tb_X12_become 35 rfl) rfl (pc1 := 64) rfl ?_
    refine ix_iadd X (ix_tb_at tb_X12_become 36 rfl) (pc1 := 65) rfl ?_
    refine ix_aload_n (i := 0) (j := 0) X (ix_tb_at tb_X12_become 37 rfl) rfl rfl (pc1 := 66) rfl ?_
    obtain ⟨b_51, q_52, h⟩ := ix_bd1_ex h
    refine iz_getR X fl_RX12_186 k_48 q_52 (ix_tb_at tb_X12_become 38 rfl) (pc1 := 69) rfl ?_
    refine ix_iload (i := 5) (j := 5) X (ix_tb_at tb_X12_become 39 rfl) rfl (pc1 := 71) rfl ?_
    obtain ⟨k_53, h⟩ := ix_ck_some h
    refine iz_lald X k_53 (ix_tb_at tb_X12_become 40 rfl) (pc1 := 72) rfl ?_
    obtain ⟨k_54, h⟩ := ix_ck_some h
    obtain ⟨d_55, e_56, h⟩ := ix_lt_ex h
    refine iz_last X k_54 (ix_tb_at tb_X12_become 41 rfl) e_56 (pc1 := 73) rfl ?_
    obtain ⟨x5_57, e_58, h⟩ := ix_lt_ex h
    refine ix_iinc (i := 5) (j := 5) (v := x5_57) (L1 := [(5, .int x5_57), (0, .ref (K.2.2.1 + a0)), (1, .int x1), (2, .int x2), (3, .int x3), (4, .int x4)]) X (ix_tb_at tb_X12_become 42 rfl) rfl (by rw [oi_1]; exact e_58.symm) (Nat.le_of_ble_eq_true rfl) rfl (pc1 := 76) rfl ?_
    refine ix_goto (tgt := 40) X (ix_tb_at tb_X12_become 43 rfl) (by decide) ?_
    refine ix_sub (L1 := [(0, .ref (K.2.2.1 + a0)), (1, .int x1), (2, .int x2), (3, .int x3), (4, .int x4), (5, .int x5_57)]) [1, 2, 3, 4, 5, 0] rfl ?_
    exact hrec40 x5_57 d_55 h
theorem t_X12_become_40 {l : Launch} {p : Program} {e : Env} {s : State} {m : MethodId} {args : Array Value} {below : List Frame} {meth : Method} {c : Code} {K : ix_Cx} (hKp : ix_Kp K) {n : Nat} {z : ix_Z} (X : ix_X p s m args c K cX12_become RX12 6) (hr : meth.sig.returnType = (none : Option Jvm.ClassFile.FieldType)) (hlk : meth.locks = false)  {a0 : Nat} {x1 : Int32} {x2 : Int32} {x3 : Int32} {x4 : Int32} {d1 : ix_D2}  {x5 : Int32} {d : ix_D2} (h : f_X12_become_40 n z  a0 x1 x2 x3 x4 x5 d = some d1) : ix_G p l e (ix_rm 2 49 0 0) s m args below meth c (MQ below (ix_Post K none (ix_w z d1)) args s 0 0 (ix_A K)) K 6 0 0 40 [(0, .ref (K.2.2.1 + a0)), (1, .int x1), (2, .int x2), (3, .int x3), (4, .int x4), (5, .int x5)] [] (ix_w z d) := by
  have key : ∀ (f : Nat) (x5 : Int32) (d : ix_D2), ix_fix (b_X12_become_40 n z  a0 x1 x2 x3 x4) (fun _ _ => none) f x5 d = some d1 → ix_G p l e (ix_rm 2 49 0 0) s m args below meth c (MQ below (ix_Post K none (ix_w z d1)) args s 0 0 (ix_A K)) K 6 0 0 40 [(0, .ref (K.2.2.1 + a0)), (1, .int x1), (2, .int x2), (3, .int x3), (4, .int x4), (5, .int x5)] [] (ix_w z d) := by
    intro f
    induction f with
    | zero =>
      intro x5 d h
      have h : (none : Option (ix_D2)) = some d1 := h
      cases h
    | succ f ih =>
      intro x5 d h
      exact tb_X12_become_40 hKp X hr hlk (rec40 := ix_fix (b_X12_become_40 n z  a0 x1 x2 x3 x4) (fun _ _ => none) f)  ih h
  exact key n x5 d h
set_option maxRecDepth 20000 in
theorem c_X12_become {l : Launch} {K : ix_Cx} (hKp : ix_Kp K) {n : Nat} {z : ix_Z} {a0 : Nat} {x1 : Int32} {x2 : Int32} {x3 : Int32} {d : ix_D2} {d1 : ix_D2} (h : f_X12_become n z a0 x1 x2 x3 d = some d1) : ix_M l K yX12_become cX12_become 6 (none : Option Jvm.ClassFile.FieldType) 2 49 0 0 [.ref (K.2.2.1 + a0), .int x1, .int x2, .int x3] (ix_w z d) none (ix_w z d1) := by
  refine ix_met mf_X12_become hKp (Nat.le_of_ble_eq_true rfl) ?_
  intro p e s m args below meth c hr hlk hnm X
  have X : ix_X p s m args c K cX12_become RX12 6 := X
  show ix_G p l e (ix_rm 2 49 0 0) s m args below meth c (MQ below (ix_Post K none (ix_w z d1)) args s 0 0 (ix_A K)) K 6 0 0 0 [(0, .ref (K.2.2.1 + a0)), (1, .int x1), (2, .int x2), (3, .int x3)] [] (ix_w z d)
  unfold f_X12_become at h
  refine ix_iload_n (i := 2) (j := 2) X (ix_tb_at tb_X12_become 0 rfl) rfl rfl (pc1 := 1) rfl ?_
  obtain ⟨r_3, d_1, h_2, h⟩ := ix_bd2_ex h
  refine ix_callS (As := [.int x2]) (rest := []) X mf_X12_nameOf st_X12_nameOf ml_RX12_289 ⟨Nat.le_of_ble_eq_true rfl, Nat.le_of_ble_eq_true rfl⟩ ⟨Nat.le_of_ble_eq_true rfl, Nat.le_of_ble_eq_true rfl⟩ rfl (Nat.le_of_ble_eq_true rfl) (ix_tb_at tb_X12_become 1 rfl) (c_X12_nameOf hKp h_2) rfl (pc1 := 4) rfl ?_
  refine ix_istore (i := 4) (L1 := [(4, .int r_3), (0, .ref (K.2.2.1 + a0)), (1, .int x1), (2, .int x2), (3, .int x3)]) X (ix_tb_at tb_X12_become 2 rfl) (Nat.le_of_ble_eq_true rfl) rfl (pc1 := 6) rfl ?_
  refine ix_aload_n (i := 0) (j := 1) X (ix_tb_at tb_X12_become 3 rfl) rfl rfl (pc1 := 7) rfl ?_
  obtain ⟨k_4, h⟩ := ix_ck_some h
  obtain ⟨b_5, q_6, h⟩ := ix_bd1_ex h
  refine iz_getR X fl_RX12_159 k_4 q_6 (ix_tb_at tb_X12_become 4 rfl) (pc1 := 10) rfl ?_
  refine ix_iload_n (i := 1) (j := 2) X (ix_tb_at tb_X12_become 5 rfl) rfl rfl (pc1 := 11) rfl ?_
  obtain ⟨k_7, h⟩ := ix_ck_some h
  refine iz_iald X k_7 (ix_tb_at tb_X12_become 6 rfl) (pc1 := 12) rfl ?_
  refine ix_if_ne (tgt := 79) X (ix_tb_at tb_X12_become 7 rfl) (by decide) (pc1 := 15) rfl (fun q_8 => ?_) (fun q_8 => ?_)
  · have h := ix_iff q_8 h
    refine ix_sub (L1 := [(0, .ref (K.2.2.1 + a0)), (1, .int x1), (2, .int x2), (3, .int x3), (4, .int r_3)]) [1, 2, 3, 4, 0] rfl ?_
    exact t_X12_become_79 hKp X hr hlk  h
  · have h := ix_ift q_8 h
    refine ix_iload_n (i := 3) (j := 4) X (ix_tb_at tb_X12_become 8 rfl) rfl rfl (pc1 := 16) rfl ?_
    refine ix_if_lt (tgt := 79) X (ix_tb_at tb_X12_become 9 rfl) (by decide) (pc1 := 19) rfl (fun q_40 => ?_) (fun q_40 => ?_)
    · have h := ix_ift q_40 h
      refine ix_sub (L1 := [(0, .ref (K.2.2.1 + a0)), (1, .int x1), (2, .int x2), (3, .int x3), (4, .int r_3)]) [1, 2, 3, 4, 0] rfl ?_
      exact t_X12_become_79 hKp X hr hlk  h
    · have h := ix_iff q_40 h
      refine ix_aload_n (i := 0) (j := 1) X (ix_tb_at tb_X12_become 10 rfl) rfl rfl (pc1 := 20) rfl ?_
      obtain ⟨d_41, h_42, h⟩ := ix_bd1_ex h
      refine ix_callV (As := []) (rest := []) (ci := 11) (T := TX12) (nf := 116) X mf_X12_clearSources mi_X12_clearSources ms_X12_clearSources rfl (Nat.le_of_ble_eq_true rfl) ml_RX12_476 ⟨Nat.le_of_ble_eq_true rfl, Nat.le_of_ble_eq_true rfl⟩ ⟨Nat.le_of_ble_eq_true rfl, Nat.le_of_ble_eq_true rfl⟩ rfl (Nat.le_of_ble_eq_true rfl) (ix_tb_at tb_X12_become 11 rfl) ⟨k_4.1, List.mem_singleton.mp k_4.2⟩ (c_X12_clearSources hKp h_42) rfl (pc1 := 23) rfl ?_
      refine ix_aload_n (i := 0) (j := 1) X (ix_tb_at tb_X12_become 12 rfl) rfl rfl (pc1 := 24) rfl ?_
      refine ix_iload_n (i := 1) (j := 2) X (ix_tb_at tb_X12_become 13 rfl) rfl rfl (pc1 := 25) rfl ?_
      refine ix_iload_n (i := 3) (j := 4) X (ix_tb_at tb_X12_become 14 rfl) rfl rfl (pc1 := 26) rfl ?_
      obtain ⟨d_43, h_44, h⟩ := ix_bd1_ex h
      refine ix_callV (As := [.int x1, .int x3]) (rest := []) (ci := 11) (T := TX12) (nf := 116) X mf_X12_addSources mi_X12_addSources ms_X12_addSources rfl (Nat.le_of_ble_eq_true rfl) ml_RX12_479 ⟨Nat.le_of_ble_eq_true rfl, Nat.le_of_ble_eq_true rfl⟩ ⟨Nat.le_of_ble_eq_true rfl, Nat.le_of_ble_eq_true rfl⟩ rfl (Nat.le_of_ble_eq_true rfl) (ix_tb_at tb_X12_become 15 rfl) ⟨k_4.1, List.mem_singleton.mp k_4.2⟩ (c_X12_addSources hKp h_44) rfl (pc1 := 29) rfl ?_
      refine ix_aload_n (i := 0) (j := 1) X (ix_tb_at tb_X12_become 16 rfl) rfl rfl (pc1 := 30) rfl ?_
      refine ix_iload_n (i := 1) (j := 2) X (ix_tb_at tb_X12_become 17 rfl) rfl rfl (pc1 := 31) rfl ?_
      refine ix_iload_n (i := 3) (j := 4) X (ix_tb_at tb_X12_become 18 rfl) rfl rfl (pc1 := 32) rfl ?_
      refine ix_iload (i := 4) (j := 0) X (ix_tb_at tb_X12_become 19 rfl) rfl (pc1 := 34) rfl ?_
      obtain ⟨d_45, h_46, h⟩ := ix_bd1_ex h
      refine ix_callV (As := [.int x1, .int x3, .int r_3]) (rest := []) (ci := 11) (T := TX12) (nf := 116) X mf_X12_addLowest mi_X12_addLowest ms_X12_addLowest rfl (Nat.le_of_ble_eq_true rfl) ml_RX12_482 ⟨Nat.le_of_ble_eq_true rfl, Nat.le_of_ble_eq_true rfl⟩ ⟨Nat.le_of_ble_eq_true rfl, Nat.le_of_ble_eq_true rfl⟩ rfl (Nat.le_of_ble_eq_true rfl) (ix_tb_at tb_X12_become 20 rfl) ⟨k_4.1, List.mem_singleton.mp k_4.2⟩ (c_X12_addLowest hKp h_46) rfl (pc1 := 37) rfl ?_
      refine ix_iconst (v := 0) X (ix_tb_at tb_X12_become 21 rfl) (by decide) (pc1 := 38) rfl ?_
      refine ix_istore (i := 5) (L1 := [(5, .int 0), (4, .int r_3), (0, .ref (K.2.2.1 + a0)), (1, .int x1), (2, .int x2), (3, .int x3)]) X (ix_tb_at tb_X12_become 22 rfl) (Nat.le_of_ble_eq_true rfl) rfl (pc1 := 40) rfl ?_
      refine ix_sub (L1 := [(0, .ref (K.2.2.1 + a0)), (1, .int x1), (2, .int x2), (3, .int x3), (4, .int r_3), (5, .int 0)]) [2, 3, 4, 5, 1, 0] rfl ?_
      exact t_X12_become_40 hKp X hr hlk  h
def tab_X12_goBack : List (Nat × Instr × Nat) := [(0, .aload_n 0, 1), (1, .getfield 156, 3), (4, .iload_n 1, 1), (5, .iaload, 1), (6, .ifCond .le 7, 3), (9, .iconst 1, 1), (10, .goto 4, 3), (13, .iconst 0, 1), (14, .istore_n 3, 1), (15, .iload_n 3, 1), (16, .ifCond .eq 122, 3), (19, .aload_n 0, 1), (20, .getfield 153, 3), (23, .sipush 300, 3), (26, .iload_n 1, 1), (27, .imul, 1), (28, .aload_n 0, 1), (29, .getfield 156, 3), (32, .iload_n 1, 1), (33, .iaload, 1), (34, .iadd, 1), (35, .iconst 1, 1), (36, .isub, 1), (37, .iaload, 1), (38, .invokestatic 289, 3), (41, .istore 4, 2), (43, .aload_n 0, 1), (44, .getfield 137, 3), (47, .sipush 301, 3), (50, .iload_n 1, 1), (51, .imul, 1), (52, .iload 4, 2), (54, .iadd, 1), (55, .iaload, 1), (56, .iload_n 2, 1), (57, .if_icmp .le 7, 3), (60, .iconst 1, 1), (61, .goto 4, 3), (64, .iconst 0, 1), (65, .istore_n 3, 1), (66, .iload_n 3, 1), (67, .ifCond .eq 68, 3), (70, .aload_n 0, 1), (71, .getfield 143, 3), (74, .sipush 301, 3), (77, .iload_n 1, 1), (78, .imul, 1), (79, .iload 4, 2), (81, .iadd, 1), (82, .aload_n 0, 1), (83, .getfield 134, 3), (86, .sipush 301, 3), (89, .iload_n 1, 1), (90, .imul, 1), (91, .iload 4, 2), (93, .iadd, 1), (94, .iaload, 1), (95, .iastore, 1), (96, .aload_n 0, 1), (97, .getfield 134, 3), (100, .sipush 301, 3), (103, .iload_n 1, 1), (104, .imul, 1), (105, .iload 4, 2), (107, .iadd, 1), (108, .iconst 2, 1), (109, .iastore, 1), (110, .aload_n 0, 1), (111, .getfield 156, 3), (114, .iload_n 1, 1), (115, .dup2, 1), (116, .iaload, 1), (117, .iconst 1, 1), (118, .isub, 1), (119, .iastore, 1), (120, .aload_n 0, 1), (121, .getfield 156, 3), (124, .iload_n 1, 1), (125, .iaload, 1), (126, .ifCond .le 7, 3), (129, .iconst 1, 1), (130, .goto 4, 3), (133, .iconst 0, 1), (134, .istore_n 3, 1), (135, .goto (-120), 3), (138, .aload_n 0, 1), (139, .getfield 159, 3), (142, .iload_n 1, 1), (143, .iload_n 2, 1), (144, .iastore, 1), (145, .return_, 1)]
theorem tb_X12_goBack : ix_tab cX12_goBack tab_X12_goBack := by
  unfold ix_tab
  decide +kernel
noncomputable def f_X12_goBack_135 (n : Nat) (z : ix_Z) (rec15 : Int32 → ix_D2 → Option (ix_D2)) (a0 : Nat) (x1 : Int32) (x2 : Int32) (x3 : Int32) (d : ix_D2) : Option (ix_D2) :=
  rec15 x3 d
noncomputable def f_X12_goBack_134 (n : Nat) (z : ix_Z) (rec15 : Int32 → ix_D2 → Option (ix_D2)) (a0 : Nat) (x1 : Int32) (x2 : Int32) (s0 : Int32) (d : ix_D2) : Option (ix_D2) :=
  f_X12_goBack_135 n z rec15 a0 x1 x2 s0 d
noncomputable def f_X12_goBack_65 (n : Nat) (z : ix_Z) (rec15 : Int32 → ix_D2 → Option (ix_D2)) (a0 : Nat) (x1 : Int32) (x2 : Int32) (x4 : Int32) (s0 : Int32) (d : ix_D2) : Option (ix_D2) :=
  ix_if (s0 = 0) (f_X12_goBack_135 n z rec15 a0 x1 x2 s0 d) (ix_ck (ix_ok z [11] a0) (ix_bd1 (z.1 a0 72) (fun b_29 => ix_bd1 (z.1 a0 69) (fun b_31 => ix_ck (ix_ix z 20 b_31 ((301 * x1) + x4)) (ix_ck (ix_ix z 20 b_29 ((301 * x1) + x4)) (ix_lt (ix_di d b_29 (ix_n ((301 * x1) + x4)) (d.1 b_31 (ix_n ((301 * x1) + x4)))) (fun d_35 => ix_lt (ix_di d_35 b_31 (ix_n ((301 * x1) + x4)) 2) (fun d_37 => ix_bd1 (z.1 a0 76) (fun b_39 => ix_ck (ix_ix z 20 b_39 x1) (ix_lt (ix_di d_37 b_39 (ix_n x1) ((d_37.1 b_39 (ix_n x1)) - 1)) (fun d_42 => ix_if (d_42.1 b_39 (ix_n x1) ≤ 0) (f_X12_goBack_134 n z rec15 a0 x1 x2 0 d_42) (f_X12_goBack_134 n z rec15 a0 x1 x2 1 d_42))))))))))))
noncomputable def b_X12_goBack_15 (n : Nat) (z : ix_Z)  (a0 : Nat) (x1 : Int32) (x2 : Int32) (rec15 : Int32 → ix_D2 → Option (ix_D2)) (x3 : Int32) (d : ix_D2) : Option (ix_D2) :=
  ix_if (x3 = 0) (ix_ck (ix_ok z [11] a0) (ix_bd1 (z.1 a0 77) (fun b_8 => ix_ck (ix_ix z 20 b_8 x1) (ix_lt (ix_di d b_8 (ix_n x1) x2) (fun d_11 => some d_11))))) (ix_ck (ix_ok z [11] a0) (ix_bd1 (z.1 a0 75) (fun b_14 => ix_bd1 (z.1 a0 76) (fun b_16 => ix_ck (ix_ix z 20 b_16 x1) (ix_ck (ix_ix z 20 b_14 (((300 * x1) + (d.1 b_16 (ix_n x1))) - 1)) (ix_bd2 (f_X12_nameOf n z (d.1 b_14 (ix_n (((300 * x1) + (d.1 b_16 (ix_n x1))) - 1))) d) (fun r_22 d_20 => ix_bd1 (z.1 a0 70) (fun b_23 => ix_ck (ix_ix z 20 b_23 ((301 * x1) + r_22)) (ix_if (d_20.1 b_23 (ix_n ((301 * x1) + r_22)) ≤ x2) (f_X12_goBack_65 n z rec15 a0 x1 x2 r_22 0 d_20) (f_X12_goBack_65 n z rec15 a0 x1 x2 r_22 1 d_20))))))))))
noncomputable def f_X12_goBack_15 (n : Nat) (z : ix_Z)  (a0 : Nat) (x1 : Int32) (x2 : Int32) (x3 : Int32) (d : ix_D2) : Option (ix_D2) := ix_fix (b_X12_goBack_15 n z  a0 x1 x2) (fun _ _ => none) n x3 d
noncomputable def f_X12_goBack_14 (n : Nat) (z : ix_Z)  (a0 : Nat) (x1 : Int32) (x2 : Int32) (s0 : Int32) (d : ix_D2) : Option (ix_D2) :=
  f_X12_goBack_15 n z  a0 x1 x2 s0 d
noncomputable def f_X12_goBack (n : Nat) (z : ix_Z) (a0 : Nat) (x1 : Int32) (x2 : Int32) (d : ix_D2) : Option (ix_D2) :=
  ix_ck (ix_ok z [11] a0) (ix_bd1 (z.1 a0 76) (fun b_2 => ix_ck (ix_ix z 20 b_2 x1) (ix_if (d.1 b_2 (ix_n x1) ≤ 0) (f_X12_goBack_14 n z  a0 x1 x2 0 d) (f_X12_goBack_14 n z  a0 x1 x2 1 d))))
set_option maxRecDepth 20000 in
theorem t_X12_goBack_135 {l : Launch} {p : Program} {e : Env} {s : State} {m : MethodId} {args : Array Value} {below : List Frame} {meth : Method} {c : Code} {K : ix_Cx} (hKp : ix_Kp K) {n : Nat} {z : ix_Z} (X : ix_X p s m args c K cX12_goBack RX12 5) (hr : meth.sig.returnType = (none : Option Jvm.ClassFile.FieldType)) (hlk : meth.locks = false) {rec15 : Int32 → ix_D2 → Option (ix_D2)} {a0 : Nat} {x1 : Int32} {x2 : Int32} {x3 : Int32} {d1 : ix_D2} (hrec15 : ∀ (x3 : Int32) (d : ix_D2), rec15 x3 d = some d1 → ix_G p l e (ix_rm 1 20 0 0) s m args below meth c (MQ below (ix_Post K none (ix_w z d1)) args s 0 0 (ix_A K)) K 5 0 0 15 [(0, .ref (K.2.2.1 + a0)), (1, .int x1), (2, .int x2), (3, .int x3)] [] (ix_w z d)) {d : ix_D2} (h : f_X12_goBack_135 n z rec15 a0 x1 x2 x3 d = some d1) : ix_G p l e (ix_rm 1 20 0 0) s m args below meth c (MQ below (ix_Post K none (ix_w z d1)) args s 0 0 (ix_A K)) K 5 0 0 135 [(0, .ref (K.2.2.1 + a0)), (1, .int x1), (2, .int x2), (3, .int x3)] [] (ix_w z d) := by
  unfold f_X12_goBack_135 at h
  refine ix_goto (tgt := 15) X (ix_tb_at tb_X12_goBack 84 rfl) (by decide) ?_
  refine ix_sub (L1 := [(0, .ref (K.2.2.1 + a0)), (1, .int x1), (2, .int x2), (3, .int x3)]) [0, 1, 2, 3] rfl ?_
  exact hrec15 x3 d h
set_option maxRecDepth 20000 in
theorem t_X12_goBack_134 {l : Launch} {p : Program} {e : Env} {s : State} {m : MethodId} {args : Array Value} {below : List Frame} {meth : Method} {c : Code} {K : ix_Cx} (hKp : ix_Kp K) {n : Nat} {z : ix_Z} (X : ix_X p s m args c K cX12_goBack RX12 5) (hr : meth.sig.returnType = (none : Option Jvm.ClassFile.FieldType)) (hlk : meth.locks = false) {rec15 : Int32 → ix_D2 → Option (ix_D2)} {a0 : Nat} {x1 : Int32} {x2 : Int32} {s0 : Int32} {d1 : ix_D2} (hrec15 : ∀ (x3 : Int32) (d : ix_D2), rec15 x3 d = some d1 → ix_G p l e (ix_rm 1 20 0 0) s m args below meth c (MQ below (ix_Post K none (ix_w z d1)) args s 0 0 (ix_A K)) K 5 0 0 15 [(0, .ref (K.2.2.1 + a0)), (1, .int x1), (2, .int x2), (3, .int x3)] [] (ix_w z d)) {d : ix_D2} (h : f_X12_goBack_134 n z rec15 a0 x1 x2 s0 d = some d1) : ix_G p l e (ix_rm 1 20 0 0) s m args below meth c (MQ below (ix_Post K none (ix_w z d1)) args s 0 0 (ix_A K)) K 5 0 0 134 [(0, .ref (K.2.2.1 + a0)), (1, .int x1), (2, .int x2)] [.int s0] (ix_w z d) := by
  unfold f_X12_goBack_134 at h
  refine ix_istore_n (i := 3) (L1 := [(3, .int s0), (0, .ref (K.2.2.1 + a0)), (1, .int x1), (2, .int x2)]) X (ix_tb_at tb_X12_goBack 83 rfl) rfl (Nat.le_of_ble_eq_true rfl) rfl (pc1 := 135) rfl ?_
  refine ix_sub (L1 := [(0, .ref (K.2.2.1 + a0)), (1, .int x1), (2, .int x2), (3, .int s0)]) [1, 2, 3, 0] rfl ?_
  exact t_X12_goBack_135 hKp X hr hlk hrec15 h
set_option maxRecDepth 20000 in
theorem t_X12_goBack_65 {l : Launch} {p : Program} {e : Env} {s : State} {m : MethodId} {args : Array Value} {below : List Frame} {meth : Method} {c : Code} {K : ix_Cx} (hKp : ix_Kp K) {n : Nat} {z : ix_Z} (X : ix_X p s m args c K cX12_goBack RX12 5) (hr : meth.sig.returnType = (none : Option Jvm.ClassFile.FieldType)) (hlk : meth.locks = false) {rec15 : Int32 → ix_D2 → Option (ix_D2)} {a0 : Nat} {x1 : Int32} {x2 : Int32} {x4 : Int32} {s0 : Int32} {d1 : ix_D2} (hrec15 : ∀ (x3 : Int32) (d : ix_D2), rec15 x3 d = some d1 → ix_G p l e (ix_rm 1 20 0 0) s m args below meth c (MQ below (ix_Post K none (ix_w z d1)) args s 0 0 (ix_A K)) K 5 0 0 15 [(0, .ref (K.2.2.1 + a0)), (1, .int x1), (2, .int x2), (3, .int x3)] [] (ix_w z d)) {d : ix_D2} (h : f_X12_goBack_65 n z rec15 a0 x1 x2 x4 s0 d = some d1) : ix_G p l e (ix_rm 1 20 0 0) s m args below meth c (MQ below (ix_Post K none (ix_w z d1)) args s 0 0 (ix_A K)) K 5 0 0 65 [(0, .ref (K.2.2.1 + a0)), (1, .int x1), (2, .int x2), (4, .int x4)] [.int s0] (ix_w z d) := by
  unfold f_X12_goBack_65 at h
  refine ix_istore_n (i := 3) (L1 := [(3, .int s0), (0, .ref (K.2.2.1 + a0)), (1, .int x1), (2, .int x2), (4, .int x4)]) X (ix_tb_at tb_X12_goBack 39 rfl) rfl (Nat.le_of_ble_eq_true rfl) rfl (pc1 := 66) rfl ?_
  refine ix_iload_n (i := 3) (j := 0) X (ix_tb_at tb_X12_goBack 40 rfl) rfl rfl (pc1 := 67) rfl ?_
  refine ix_if_eq (tgt := 135) X (ix_tb_at tb_X12_goBack 41 rfl) (by decide) (pc1 := 70) rfl (fun q_27 => ?_) (fun q_27 => ?_)
  · have h := ix_ift q_27 h
    refine ix_sub (L1 := [(0, .ref (K.2.2.1 + a0)), (1, .int x1), (2, .int x2), (3, .int s0)]) [1, 2, 3, 0] rfl ?_
    exact t_X12_goBack_135 hKp X hr hlk hrec15 h
  · have h := ix_iff q_27 h
    refine ix_aload_n (i := 0) (j := 1) X (ix_tb_at tb_X12_goBack 42 rfl) rfl rfl (pc1 := 71) rfl ?_
    obtain ⟨k_28, h⟩ := ix_ck_some h
    obtain ⟨b_29, q_30, h⟩ := ix_bd1_ex h
    refine iz_getR X fl_RX12_143 k_28 q_30 (ix_tb_at tb_X12_goBack 43 rfl) (pc1 := 74) rfl ?_
    refine ix_sipush (v := 301) X (ix_tb_at tb_X12_goBack 44 rfl) (by decide) (pc1 := 77) rfl ?_
    refine ix_iload_n (i := 1) (j := 2) X (ix_tb_at tb_X12_goBack 45 rfl) rfl rfl (pc1 := 78) rfl ?_
    refine ix_imul X (ix_tb_at tb_X12_goBack 46 rfl) (pc1 := 79) rfl ?_
    refine ix_iload (i := 4) (j := 4) X (ix_tb_at tb_X12_goBack 47 rfl) rfl (pc1 := 81) rfl ?_
    refine ix_iadd X (ix_tb_at tb_X12_goBack 48 rfl) (pc1 := 82) rfl ?_
    refine ix_aload_n (i := 0) (j := 1) X (ix_tb_at tb_X12_goBack 49 rfl) rfl rfl (pc1 := 83) rfl ?_
    obtain ⟨b_31, q_32, h⟩ := ix_bd1_ex h
    refine iz_getR X fl_RX12_134 k_28 q_32 (ix_tb_at tb_X12_goBack 50 rfl) (pc1 := 86) rfl ?_
    refine ix_sipush (v := 301) X (ix_tb_at tb_X12_goBack 51 rfl) (by decide) (pc1 := 89) rfl ?_
    refine ix_iload_n (i := 1) (j := 2) X (ix_tb_at tb_X12_goBack 52 rfl) rfl rfl (pc1 := 90) rfl ?_
    refine ix_imul X (ix_tb_at tb_X12_goBack 53 rfl) (pc1 := 91) rfl ?_
    refine ix_iload (i := 4) (j := 4) X (ix_tb_at tb_X12_goBack 54 rfl) rfl (pc1 := 93) rfl ?_
    refine ix_iadd X (ix_tb_at tb_X12_goBack 55 rfl) (pc1 := 94) rfl ?_
    obtain ⟨k_33, h⟩ := ix_ck_some h
    refine iz_iald X k_33 (ix_tb_at tb_X12_goBack 56 rfl) (pc1 := 95) rfl ?_
    obtain ⟨k_34, h⟩ := ix_ck_some h
    obtain ⟨d_35, e_36, h⟩ := ix_lt_ex h
    refine iz_iast X k_34 (ix_tb_at tb_X12_goBack 57 rfl) e_36 (pc1 := 96) rfl ?_
    refine ix_aload_n (i := 0) (j := 1) X (ix_tb_at tb_X12_goBack 58 rfl) rfl rfl (pc1 := 97) rfl ?_
    refine iz_getR X fl_RX12_134 k_28 q_32 (ix_tb_at tb_X12_goBack 59 rfl) (pc1 := 100) rfl ?_
    refine ix_sipush (v := 301) X (ix_tb_at tb_X12_goBack 60 rfl) (by decide) (pc1 := 103) rfl ?_
    refine ix_iload_n (i := 1) (j := 2) X (ix_tb_at tb_X12_goBack 61 rfl) rfl rfl (pc1 := 104) rfl ?_
    refine ix_imul X (ix_tb_at tb_X12_goBack 62 rfl) (pc1 := 105) rfl ?_
    refine ix_iload (i := 4) (j := 4) X (ix_tb_at tb_X12_goBack 63 rfl) rfl (pc1 := 107) rfl ?_
    refine ix_iadd X (ix_tb_at tb_X12_goBack 64 rfl) (pc1 := 108) rfl ?_
    refine ix_iconst (v := 2) X (ix_tb_at tb_X12_goBack 65 rfl) (by decide) (pc1 := 109) rfl ?_
    obtain ⟨d_37, e_38, h⟩ := ix_lt_ex h
    refine iz_iast X k_33 (ix_tb_at tb_X12_goBack 66 rfl) e_38 (pc1 := 110) rfl ?_
    refine ix_aload_n (i := 0) (j := 1) X (ix_tb_at tb_X12_goBack 67 rfl) rfl rfl (pc1 := 111) rfl ?_
    obtain ⟨b_39, q_40, h⟩ := ix_bd1_ex h
    refine iz_getR X fl_RX12_156 k_28 q_40 (ix_tb_at tb_X12_goBack 68 rfl) (pc1 := 114) rfl ?_
    refine ix_iload_n (i := 1) (j := 2) X (ix_tb_at tb_X12_goBack 69 rfl) rfl rfl (pc1 := 115) rfl ?_
    refine ix_dup2 X (ix_tb_at tb_X12_goBack 70 rfl) rfl rfl (pc1 := 116) rfl ?_
    obtain ⟨k_41, h⟩ := ix_ck_some h
    refine iz_iald X k_41 (ix_tb_at tb_X12_goBack 71 rfl) (pc1 := 117) rfl ?_
    refine ix_iconst (v := 1) X (ix_tb_at tb_X12_goBack 72 rfl) (by decide) (pc1 := 118) rfl ?_
    refine ix_isub X (ix_tb_at tb_X12_goBack 73 rfl) (pc1 := 119) rfl ?_
    obtain ⟨d_42, e_43, h⟩ := ix_lt_ex h
    refine iz_iast X k_41 (ix_tb_at tb_X12_goBack 74 rfl) e_43 (pc1 := 120) rfl ?_
    refine ix_aload_n (i := 0) (j := 1) X (ix_tb_at tb_X12_goBack 75 rfl) rfl rfl (pc1 := 121) rfl ?_
    refine iz_getR X fl_RX12_156 k_28 q_40 (ix_tb_at tb_X12_goBack 76 rfl) (pc1 := 124) rfl ?_
    refine ix_iload_n (i := 1) (j := 2) X (ix_tb_at tb_X12_goBack 77 rfl) rfl rfl (pc1 := 125) rfl ?_
    refine iz_iald X k_41 (ix_tb_at tb_X12_goBack 78 rfl) (pc1 := 126) rfl ?_
    refine ix_if_le (tgt := 133) X (ix_tb_at tb_X12_goBack 79 rfl) (by decide) (pc1 := 129) rfl (fun q_44 => ?_) (fun q_44 => ?_)
    · have h := ix_ift q_44 h
      refine ix_iconst (v := 0) X (ix_tb_at tb_X12_goBack 82 rfl) (by decide) (pc1 := 134) rfl ?_
      refine ix_sub (L1 := [(0, .ref (K.2.2.1 + a0)), (1, .int x1), (2, .int x2)]) [1, 2, 3] rfl ?_
      exact t_X12_goBack_134 hKp X hr hlk hrec15 h
    · have h := ix_iff q_44 h
      refine ix_iconst (v := 1) X (ix_tb_at tb_X12_goBack 80 rfl) (by decide) (pc1 := 130) rfl ?_
      refine ix_goto (tgt := 134) X (ix_tb_at tb_X12_goBack 81 rfl) (by decide) ?_
      refine ix_sub (L1 := [(0, .ref (K.2.2.1 + a0)), (1, .int x1), (2, .int x2)]) [1, 2, 3] rfl ?_
      exact t_X12_goBack_134 hKp X hr hlk hrec15 h
set_option maxRecDepth 20000 in
theorem tb_X12_goBack_15 {l : Launch} {p : Program} {e : Env} {s : State} {m : MethodId} {args : Array Value} {below : List Frame} {meth : Method} {c : Code} {K : ix_Cx} (hKp : ix_Kp K) {n : Nat} {z : ix_Z} (X : ix_X p s m args c K cX12_goBack RX12 5) (hr : meth.sig.returnType = (none : Option Jvm.ClassFile.FieldType)) (hlk : meth.locks = false)  {a0 : Nat} {x1 : Int32} {x2 : Int32} {rec15 : Int32 → ix_D2 → Option (ix_D2)} {d1 : ix_D2} (hrec15 : ∀ (x3 : Int32) (d : ix_D2), rec15 x3 d = some d1 → ix_G p l e (ix_rm 1 20 0 0) s m args below meth c (MQ below (ix_Post K none (ix_w z d1)) args s 0 0 (ix_A K)) K 5 0 0 15 [(0, .ref (K.2.2.1 + a0)), (1, .int x1), (2, .int x2), (3, .int x3)] [] (ix_w z d)) {x3 : Int32} {d : ix_D2} (h : b_X12_goBack_15 n z  a0 x1 x2 rec15 x3 d = some d1) : ix_G p l e (ix_rm 1 20 0 0) s m args below meth c (MQ below (ix_Post K none (ix_w z d1)) args s 0 0 (ix_A K)) K 5 0 0 15 [(0, .ref (K.2.2.1 + a0)), (1, .int x1), (2, .int x2), (3, .int x3)] [] (ix_w z d) := by
  unfold b_X12_goBack_15 at h
  refine ix_iload_n (i := 3) (j := 3) X (ix_tb_at tb_X12_goBack 9 rfl) rfl rfl (pc1 := 16) rfl ?_
  refine ix_if_eq (tgt := 138) X (ix_tb_at tb_X12_goBack 10 rfl) (by decide) (pc1 := 19) rfl (fun q_6 => ?_) (fun q_6 => ?_)
  · have h := ix_ift q_6 h
    refine ix_aload_n (i := 0) (j := 0) X (ix_tb_at tb_X12_goBack 85 rfl) rfl rfl (pc1 := 139) rfl ?_
    obtain ⟨k_7, h⟩ := ix_ck_some h
    obtain ⟨b_8, q_9, h⟩ := ix_bd1_ex h
    refine iz_getR X fl_RX12_159 k_7 q_9 (ix_tb_at tb_X12_goBack 86 rfl) (pc1 := 142) rfl ?_
    refine ix_iload_n (i := 1) (j := 1) X (ix_tb_at tb_X12_goBack 87 rfl) rfl rfl (pc1 := 143) rfl ?_
    refine ix_iload_n (i := 2) (j := 2) X (ix_tb_at tb_X12_goBack 88 rfl) rfl rfl (pc1 := 144) rfl ?_
    obtain ⟨k_10, h⟩ := ix_ck_some h
    obtain ⟨d_11, e_12, h⟩ := ix_lt_ex h
    refine iz_iast X k_10 (ix_tb_at tb_X12_goBack 89 rfl) e_12 (pc1 := 145) rfl ?_
    exact ix_vret X hr hlk (ix_r1 (g := ix_w z) h) (ix_tb_at tb_X12_goBack 90 rfl)
  · have h := ix_iff q_6 h
    refine ix_aload_n (i := 0) (j := 0) X (ix_tb_at tb_X12_goBack 11 rfl) rfl rfl (pc1 := 20) rfl ?_
    obtain ⟨k_13, h⟩ := ix_ck_some h
    obtain ⟨b_14, q_15, h⟩ := ix_bd1_ex h
    refine iz_getR X fl_RX12_153 k_13 q_15 (ix_tb_at tb_X12_goBack 12 rfl) (pc1 := 23) rfl ?_
    refine ix_sipush (v := 300) X (ix_tb_at tb_X12_goBack 13 rfl) (by decide) (pc1 := 26) rfl ?_
    refine ix_iload_n (i := 1) (j := 1) X (ix_tb_at tb_X12_goBack 14 rfl) rfl rfl (pc1 := 27) rfl ?_
    refine ix_imul X (ix_tb_at tb_X12_goBack 15 rfl) (pc1 := 28) rfl ?_
    refine ix_aload_n (i := 0) (j := 0) X (ix_tb_at tb_X12_goBack 16 rfl) rfl rfl (pc1 := 29) rfl ?_
    obtain ⟨b_16, q_17, h⟩ := ix_bd1_ex h
    refine iz_getR X fl_RX12_156 k_13 q_17 (ix_tb_at tb_X12_goBack 17 rfl) (pc1 := 32) rfl ?_
    refine ix_iload_n (i := 1) (j := 1) X (ix_tb_at tb_X12_goBack 18 rfl) rfl rfl (pc1 := 33) rfl ?_
    obtain ⟨k_18, h⟩ := ix_ck_some h
    refine iz_iald X k_18 (ix_tb_at tb_X12_goBack 19 rfl) (pc1 := 34) rfl ?_
    refine ix_iadd X (ix_tb_at tb_X12_goBack 20 rfl) (pc1 := 35) rfl ?_
    refine ix_iconst (v := 1) X (ix_tb_at tb_X12_goBack 21 rfl) (by decide) (pc1 := 36) rfl ?_
    refine ix_isub X (ix_tb_at tb_X12_goBack 22 rfl) (pc1 := 37) rfl ?_
    obtain ⟨k_19, h⟩ := ix_ck_some h
    refine iz_iald X k_19 (ix_tb_at tb_X12_goBack 23 rfl) (pc1 := 38) rfl ?_
    obtain ⟨r_22, d_20, h_21, h⟩ := ix_bd2_ex h
    refine ix_callS (As := [.int (d.1 b_14 (ix_n (((300 * x1) + (d.1 b_16 (ix_n x1))) - 1)))]) (rest := []) X mf_X12_nameOf st_X12_nameOf ml_RX12_289 ⟨Nat.le_of_ble_eq_true rfl, Nat.le_of_ble_eq_true rfl⟩ ⟨Nat.le_of_ble_eq_true rfl, Nat.le_of_ble_eq_true rfl⟩ rfl (Nat.le_of_ble_eq_true rfl) (ix_tb_at tb_X12_goBack 24 rfl) (c_X12_nameOf hKp h_21) rfl (pc1 := 41) rfl ?_
    refine ix_istore (i := 4) (L1 := [(4, .int r_22), (0, .ref (K.2.2.1 + a0)), (1, .int x1), (2, .int x2), (3, .int x3)]) X (ix_tb_at tb_X12_goBack 25 rfl) (Nat.le_of_ble_eq_true rfl) rfl (pc1 := 43) rfl ?_
    refine ix_aload_n (i := 0) (j := 1) X (ix_tb_at tb_X12_goBack 26 rfl) rfl rfl (pc1 := 44) rfl ?_
    obtain ⟨b_23, q_24, h⟩ := ix_bd1_ex h
    refine iz_getR X fl_RX12_137 k_13 q_24 (ix_tb_at tb_X12_goBack 27 rfl) (pc1 := 47) rfl ?_
    refine ix_sipush (v := 301) X (ix_tb_at tb_X12_goBack 28 rfl) (by decide) (pc1 := 50) rfl ?_
    refine ix_iload_n (i := 1) (j := 2) X (ix_tb_at tb_X12_goBack 29 rfl) rfl rfl (pc1 := 51) rfl ?_
    refine ix_imul X (ix_tb_at tb_X12_goBack 30 rfl) (pc1 := 52) rfl ?_
    refine ix_iload (i := 4) (j := 0) X (ix_tb_at tb_X12_goBack 31 rfl) rfl (pc1 := 54) rfl ?_
    refine ix_iadd X (ix_tb_at tb_X12_goBack 32 rfl) (pc1 := 55) rfl ?_
    obtain ⟨k_25, h⟩ := ix_ck_some h
    refine iz_iald X k_25 (ix_tb_at tb_X12_goBack 33 rfl) (pc1 := 56) rfl ?_
    refine ix_iload_n (i := 2) (j := 3) X (ix_tb_at tb_X12_goBack 34 rfl) rfl rfl (pc1 := 57) rfl ?_
    refine ix_icmp_le (tgt := 64) X (ix_tb_at tb_X12_goBack 35 rfl) (by decide) (pc1 := 60) rfl (fun q_26 => ?_) (fun q_26 => ?_)
    · have h := ix_ift q_26 h
      refine ix_iconst (v := 0) X (ix_tb_at tb_X12_goBack 38 rfl) (by decide) (pc1 := 65) rfl ?_
      refine ix_sub (L1 := [(0, .ref (K.2.2.1 + a0)), (1, .int x1), (2, .int x2), (4, .int r_22)]) [1, 2, 3, 0] rfl ?_
      exact t_X12_goBack_65 hKp X hr hlk hrec15 h
    · have h := ix_iff q_26 h
      refine ix_iconst (v := 1) X (ix_tb_at tb_X12_goBack 36 rfl) (by decide) (pc1 := 61) rfl ?_
      refine ix_goto (tgt := 65) X (ix_tb_at tb_X12_goBack 37 rfl) (by decide) ?_
      refine ix_sub (L1 := [(0, .ref (K.2.2.1 + a0)), (1, .int x1), (2, .int x2), (4, .int r_22)]) [1, 2, 3, 0] rfl ?_
      exact t_X12_goBack_65 hKp X hr hlk hrec15 h
theorem t_X12_goBack_15 {l : Launch} {p : Program} {e : Env} {s : State} {m : MethodId} {args : Array Value} {below : List Frame} {meth : Method} {c : Code} {K : ix_Cx} (hKp : ix_Kp K) {n : Nat} {z : ix_Z} (X : ix_X p s m args c K cX12_goBack RX12 5) (hr : meth.sig.returnType = (none : Option Jvm.ClassFile.FieldType)) (hlk : meth.locks = false)  {a0 : Nat} {x1 : Int32} {x2 : Int32} {d1 : ix_D2}  {x3 : Int32} {d : ix_D2} (h : f_X12_goBack_15 n z  a0 x1 x2 x3 d = some d1) : ix_G p l e (ix_rm 1 20 0 0) s m args below meth c (MQ below (ix_Post K none (ix_w z d1)) args s 0 0 (ix_A K)) K 5 0 0 15 [(0, .ref (K.2.2.1 + a0)), (1, .int x1), (2, .int x2), (3, .int x3)] [] (ix_w z d) := by
  have key : ∀ (f : Nat) (x3 : Int32) (d : ix_D2), ix_fix (b_X12_goBack_15 n z  a0 x1 x2) (fun _ _ => none) f x3 d = some d1 → ix_G p l e (ix_rm 1 20 0 0) s m args below meth c (MQ below (ix_Post K none (ix_w z d1)) args s 0 0 (ix_A K)) K 5 0 0 15 [(0, .ref (K.2.2.1 + a0)), (1, .int x1), (2, .int x2), (3, .int x3)] [] (ix_w z d) := by
    intro f
    induction f with
    | zero =>
      intro x3 d h
      have h : (none : Option (ix_D2)) = some d1 := h
      cases h
    | succ f ih =>
      intro x3 d h
      exact tb_X12_goBack_15 hKp X hr hlk (rec15 := ix_fix (b_X12_goBack_15 n z  a0 x1 x2) (fun _ _ => none) f)  ih h
  exact key n x3 d h
set_option maxRecDepth 20000 in
theorem t_X12_goBack_14 {l : Launch} {p : Program} {e : Env} {s : State} {m : MethodId} {args : Array Value} {below : List Frame} {meth : Method} {c : Code} {K : ix_Cx} (hKp : ix_Kp K) {n : Nat} {z : ix_Z} (X : ix_X p s m args c K cX12_goBack RX12 5) (hr : meth.sig.returnType = (none : Option Jvm.ClassFile.FieldType)) (hlk : meth.locks = false)  {a0 : Nat} {x1 : Int32} {x2 : Int32} {s0 : Int32} {d1 : ix_D2}  {d : ix_D2} (h : f_X12_goBack_14 n z  a0 x1 x2 s0 d = some d1) : ix_G p l e (ix_rm 1 20 0 0) s m args below meth c (MQ below (ix_Post K none (ix_w z d1)) args s 0 0 (ix_A K)) K 5 0 0 14 [(0, .ref (K.2.2.1 + a0)), (1, .int x1), (2, .int x2)] [.int s0] (ix_w z d) := by
  unfold f_X12_goBack_14 at h
  refine ix_istore_n (i := 3) (L1 := [(3, .int s0), (0, .ref (K.2.2.1 + a0)), (1, .int x1), (2, .int x2)]) X (ix_tb_at tb_X12_goBack 8 rfl) rfl (Nat.le_of_ble_eq_true rfl) rfl (pc1 := 15) rfl ?_
  refine ix_sub (L1 := [(0, .ref (K.2.2.1 + a0)), (1, .int x1), (2, .int x2), (3, .int s0)]) [1, 2, 3, 0] rfl ?_
  exact t_X12_goBack_15 hKp X hr hlk  h
set_option maxRecDepth 20000 in
theorem c_X12_goBack {l : Launch} {K : ix_Cx} (hKp : ix_Kp K) {n : Nat} {z : ix_Z} {a0 : Nat} {x1 : Int32} {x2 : Int32} {d : ix_D2} {d1 : ix_D2} (h : f_X12_goBack n z a0 x1 x2 d = some d1) : ix_M l K yX12_goBack cX12_goBack 5 (none : Option Jvm.ClassFile.FieldType) 1 20 0 0 [.ref (K.2.2.1 + a0), .int x1, .int x2] (ix_w z d) none (ix_w z d1) := by
  refine ix_met mf_X12_goBack hKp (Nat.le_of_ble_eq_true rfl) ?_
  intro p e s m args below meth c hr hlk hnm X
  have X : ix_X p s m args c K cX12_goBack RX12 5 := X
  show ix_G p l e (ix_rm 1 20 0 0) s m args below meth c (MQ below (ix_Post K none (ix_w z d1)) args s 0 0 (ix_A K)) K 5 0 0 0 [(0, .ref (K.2.2.1 + a0)), (1, .int x1), (2, .int x2)] [] (ix_w z d)
  unfold f_X12_goBack at h
  refine ix_aload_n (i := 0) (j := 0) X (ix_tb_at tb_X12_goBack 0 rfl) rfl rfl (pc1 := 1) rfl ?_
  obtain ⟨k_1, h⟩ := ix_ck_some h
  obtain ⟨b_2, q_3, h⟩ := ix_bd1_ex h
  refine iz_getR X fl_RX12_156 k_1 q_3 (ix_tb_at tb_X12_goBack 1 rfl) (pc1 := 4) rfl ?_
  refine ix_iload_n (i := 1) (j := 1) X (ix_tb_at tb_X12_goBack 2 rfl) rfl rfl (pc1 := 5) rfl ?_
  obtain ⟨k_4, h⟩ := ix_ck_some h
  refine iz_iald X k_4 (ix_tb_at tb_X12_goBack 3 rfl) (pc1 := 6) rfl ?_
  refine ix_if_le (tgt := 13) X (ix_tb_at tb_X12_goBack 4 rfl) (by decide) (pc1 := 9) rfl (fun q_5 => ?_) (fun q_5 => ?_)
  · have h := ix_ift q_5 h
    refine ix_iconst (v := 0) X (ix_tb_at tb_X12_goBack 7 rfl) (by decide) (pc1 := 14) rfl ?_
    refine ix_sub (L1 := [(0, .ref (K.2.2.1 + a0)), (1, .int x1), (2, .int x2)]) [0, 1, 2] rfl ?_
    exact t_X12_goBack_14 hKp X hr hlk  h
  · have h := ix_iff q_5 h
    refine ix_iconst (v := 1) X (ix_tb_at tb_X12_goBack 5 rfl) (by decide) (pc1 := 10) rfl ?_
    refine ix_goto (tgt := 14) X (ix_tb_at tb_X12_goBack 6 rfl) (by decide) ?_
    refine ix_sub (L1 := [(0, .ref (K.2.2.1 + a0)), (1, .int x1), (2, .int x2)]) [0, 1, 2] rfl ?_
    exact t_X12_goBack_14 hKp X hr hlk  h
def tab_X12_prepare : List (Nat × Instr × Nat) := [(0, .aload_n 0, 1), (1, .getfield 116, 3), (4, .iload_n 1, 1), (5, .aload_n 0, 1), (6, .getfield 246, 3), (9, .iastore, 1), (10, .aload_n 0, 1), (11, .getfield 119, 3), (14, .iload_n 1, 1), (15, .aload_n 0, 1), (16, .getfield 273, 3), (19, .iastore, 1), (20, .iconst 0, 1), (21, .istore_n 2, 1), (22, .iload_n 2, 1), (23, .sipush 500, 3), (26, .if_icmp .ge 22, 3), (29, .aload_n 0, 1), (30, .getfield 122, 3), (33, .sipush 500, 3), (36, .iload_n 1, 1), (37, .imul, 1), (38, .iload_n 2, 1), (39, .iadd, 1), (40, .iconst 1, 1), (41, .bastore, 1), (42, .iinc 2 1, 3), (45, .goto (-23), 3), (48, .aload_n 0, 1), (49, .getfield 128, 3), (52, .iload_n 1, 1), (53, .iconst 0, 1), (54, .iastore, 1), (55, .iload_n 1, 1), (56, .iconst 1, 1), (57, .if_icmp .ne 13, 3), (60, .aload_n 0, 1), (61, .iconst 0, 1), (62, .putfield 442, 3), (65, .aload_n 0, 1), (66, .iconst 0, 1), (67, .putfield 467, 3), (70, .iconst 0, 1), (71, .istore_n 2, 1), (72, .iload_n 2, 1), (73, .sipush 300, 3), (76, .if_icmp .gt 54, 3), (79, .aload_n 0, 1), (80, .getfield 134, 3), (83, .sipush 301, 3), (86, .iload_n 1, 1), (87, .imul, 1), (88, .iload_n 2, 1), (89, .iadd, 1), (90, .iconst 2, 1), (91, .iastore, 1), (92, .aload_n 0, 1), (93, .getfield 143, 3), (96, .sipush 301, 3), (99, .iload_n 1, 1), (100, .imul, 1), (101, .iload_n 2, 1), (102, .iadd, 1), (103, .iconst 0, 1), (104, .iastore, 1), (105, .aload_n 0, 1), (106, .getfield 146, 3), (109, .sipush 301, 3), (112, .iload_n 1, 1), (113, .imul, 1), (114, .iload_n 2, 1), (115, .iadd, 1), (116, .aload_n 0, 1), (117, .getfield 7, 3), (120, .iload_n 2, 1), (121, .iaload, 1), (122, .i2l, 1), (123, .lastore, 1), (124, .iinc 2 1, 3), (127, .goto (-55), 3), (130, .aload_n 0, 1), (131, .getfield 150, 3), (134, .iload_n 1, 1), (135, .ldc2_w 485, 3), (138, .lastore, 1), (139, .aload_n 0, 1), (140, .getfield 156, 3), (143, .iload_n 1, 1), (144, .iconst 0, 1), (145, .iastore, 1), (146, .aload_n 0, 1), (147, .getfield 159, 3), (150, .iload_n 1, 1), (151, .iconst 0, 1), (152, .iastore, 1), (153, .aload_n 0, 1), (154, .getfield 162, 3), (157, .sipush 801, 3), (160, .iload_n 1, 1), (161, .imul, 1), (162, .iconst 0, 1), (163, .iastore, 1), (164, .aload_n 0, 1), (165, .getfield 168, 3), (168, .iload_n 1, 1), (169, .iconst 0, 1), (170, .iastore, 1), (171, .aload_n 0, 1), (172, .getfield 171, 3), (175, .iload_n 1, 1), (176, .iconst 0, 1), (177, .iastore, 1), (178, .aload_n 0, 1), (179, .getfield 189, 3), (182, .iload_n 1, 1), (183, .iconst 0, 1), (184, .iastore, 1), (185, .aload_n 0, 1), (186, .getfield 192, 3), (189, .iload_n 1, 1), (190, .iconst 1, 1), (191, .iastore, 1), (192, .iconst 0, 1), (193, .istore_n 2, 1), (194, .iload_n 2, 1), (195, .bipush 10, 2), (197, .if_icmp .ge 21, 3), (200, .aload_n 0, 1), (201, .getfield 195, 3), (204, .bipush 10, 2), (206, .iload_n 1, 1), (207, .imul, 1), (208, .iload_n 2, 1), (209, .iadd, 1), (210, .iconst 0, 1), (211, .iastore, 1), (212, .iinc 2 1, 3), (215, .goto (-21), 3), (218, .return_, 1)]
theorem tb_X12_prepare : ix_tab cX12_prepare tab_X12_prepare := by
  unfold ix_tab
  decide +kernel
noncomputable def b_X12_prepare_194 (n : Nat) (z : ix_Z)  (a0 : Nat) (x1 : Int32) (rec194 : Int32 → ix_D2 → Option (ix_D2)) (x2 : Int32) (d : ix_D2) : Option (ix_D2) :=
  ix_if (10 ≤ x2) (some d) (ix_ck (ix_ok z [11] a0) (ix_bd1 (z.1 a0 90) (fun b_64 => ix_ck (ix_ix z 20 b_64 ((10 * x1) + x2)) (ix_lt (ix_di d b_64 (ix_n ((10 * x1) + x2)) 0) (fun d_67 => ix_lt (x2 + 1) (fun x2_69 => rec194 x2_69 d_67))))))
noncomputable def f_X12_prepare_194 (n : Nat) (z : ix_Z)  (a0 : Nat) (x1 : Int32) (x2 : Int32) (d : ix_D2) : Option (ix_D2) := ix_fix (b_X12_prepare_194 n z  a0 x1) (fun _ _ => none) n x2 d
noncomputable def b_X12_prepare_72 (n : Nat) (z : ix_Z)  (a0 : Nat) (x1 : Int32) (rec72 : Int32 → ix_D2 → Option (ix_D2)) (x2 : Int32) (d : ix_D2) : Option (ix_D2) :=
  ix_if (300 < x2) (ix_ck (ix_ok z [11] a0) (ix_bd1 (z.1 a0 74) (fun b_22 => ix_ck (ix_ix z 23 b_22 x1) (ix_lt (ix_dj d b_22 (ix_n x1) 64) (fun d_25 => ix_bd1 (z.1 a0 76) (fun b_27 => ix_ck (ix_ix z 20 b_27 x1) (ix_lt (ix_di d_25 b_27 (ix_n x1) 0) (fun d_30 => ix_bd1 (z.1 a0 77) (fun b_32 => ix_ck (ix_ix z 20 b_32 x1) (ix_lt (ix_di d_30 b_32 (ix_n x1) 0) (fun d_35 => ix_bd1 (z.1 a0 78) (fun b_37 => ix_ck (ix_ix z 20 b_37 (801 * x1)) (ix_lt (ix_di d_35 b_37 (ix_n (801 * x1)) 0) (fun d_40 => ix_bd1 (z.1 a0 80) (fun b_42 => ix_ck (ix_ix z 20 b_42 x1) (ix_lt (ix_di d_40 b_42 (ix_n x1) 0) (fun d_45 => ix_bd1 (z.1 a0 81) (fun b_47 => ix_ck (ix_ix z 20 b_47 x1) (ix_lt (ix_di d_45 b_47 (ix_n x1) 0) (fun d_50 => ix_bd1 (z.1 a0 87) (fun b_52 => ix_ck (ix_ix z 20 b_52 x1) (ix_lt (ix_di d_50 b_52 (ix_n x1) 0) (fun d_55 => ix_bd1 (z.1 a0 88) (fun b_57 => ix_ck (ix_ix z 20 b_57 x1) (ix_lt (ix_di d_55 b_57 (ix_n x1) 1) (fun d_60 => f_X12_prepare_194 n z  a0 x1 0 d_60)))))))))))))))))))))))))) (ix_ck (ix_ok z [11] a0) (ix_bd1 (z.1 a0 69) (fun b_72 => ix_ck (ix_ix z 20 b_72 ((301 * x1) + x2)) (ix_lt (ix_di d b_72 (ix_n ((301 * x1) + x2)) 2) (fun d_75 => ix_bd1 (z.1 a0 72) (fun b_77 => ix_ck (ix_ix z 20 b_77 ((301 * x1) + x2)) (ix_lt (ix_di d_75 b_77 (ix_n ((301 * x1) + x2)) 0) (fun d_80 => ix_bd1 (z.1 a0 73) (fun b_82 => ix_bd1 (z.1 a0 2) (fun b_84 => ix_ck (ix_ix z 20 b_84 x2) (ix_ck (ix_ix z 23 b_82 ((301 * x1) + x2)) (ix_lt (ix_dj d_80 b_82 (ix_n ((301 * x1) + x2)) ((d_80.1 b_84 (ix_n x2)).toInt64)) (fun d_88 => ix_lt (x2 + 1) (fun x2_90 => rec72 x2_90 d_88))))))))))))))
noncomputable def f_X12_prepare_72 (n : Nat) (z : ix_Z)  (a0 : Nat) (x1 : Int32) (x2 : Int32) (d : ix_D2) : Option (ix_D2) := ix_fix (b_X12_prepare_72 n z  a0 x1) (fun _ _ => none) n x2 d
noncomputable def f_X12_prepare_70 (n : Nat) (z : ix_Z)  (a0 : Nat) (x1 : Int32) (d : ix_D2) : Option (ix_D2) :=
  f_X12_prepare_72 n z  a0 x1 0 d
noncomputable def b_X12_prepare_22 (n : Nat) (z : ix_Z)  (a0 : Nat) (x1 : Int32) (rec22 : Int32 → ix_D2 → Option (ix_D2)) (x2 : Int32) (d : ix_D2) : Option (ix_D2) :=
  ix_if (500 ≤ x2) (ix_ck (ix_ok z [11] a0) (ix_bd1 (z.1 a0 65) (fun b_14 => ix_ck (ix_ix z 20 b_14 x1) (ix_lt (ix_di d b_14 (ix_n x1) 0) (fun d_17 => ix_if (x1 = 1) (ix_lt (ix_di d_17 a0 66 0) (fun d_92 => ix_lt (ix_di d_92 a0 67 0) (fun d_94 => f_X12_prepare_70 n z  a0 x1 d_94))) (f_X12_prepare_70 n z  a0 x1 d_17)))))) (ix_ck (ix_ok z [11] a0) (ix_bd1 (z.1 a0 63) (fun b_97 => ix_ck (ix_ix z 22 b_97 ((500 * x1) + x2)) (ix_lt (ix_di d b_97 (ix_n ((500 * x1) + x2)) (vp_nar .boolean 1)) (fun d_100 => ix_lt (x2 + 1) (fun x2_102 => rec22 x2_102 d_100))))))
noncomputable def f_X12_prepare_22 (n : Nat) (z : ix_Z)  (a0 : Nat) (x1 : Int32) (x2 : Int32) (d : ix_D2) : Option (ix_D2) := ix_fix (b_X12_prepare_22 n z  a0 x1) (fun _ _ => none) n x2 d
noncomputable def f_X12_prepare (n : Nat) (z : ix_Z) (a0 : Nat) (x1 : Int32) (d : ix_D2) : Option (ix_D2) :=
  ix_ck (ix_ok z [11] a0) (ix_bd1 (z.1 a0 61) (fun b_2 => ix_ck (ix_ix z 20 b_2 x1) (ix_lt (ix_di d b_2 (ix_n x1) (d.1 a0 1)) (fun d_5 => ix_bd1 (z.1 a0 62) (fun b_7 => ix_ck (ix_ix z 20 b_7 x1) (ix_lt (ix_di d_5 b_7 (ix_n x1) (d_5.1 a0 23)) (fun d_10 => f_X12_prepare_22 n z  a0 x1 0 d_10)))))))
set_option maxRecDepth 20000 in
theorem tb_X12_prepare_194 {l : Launch} {p : Program} {e : Env} {s : State} {m : MethodId} {args : Array Value} {below : List Frame} {meth : Method} {c : Code} {K : ix_Cx} (hKp : ix_Kp K) {n : Nat} {z : ix_Z} (X : ix_X p s m args c K cX12_prepare RX12 3) (hr : meth.sig.returnType = (none : Option Jvm.ClassFile.FieldType)) (hlk : meth.locks = false)  {a0 : Nat} {x1 : Int32} {rec194 : Int32 → ix_D2 → Option (ix_D2)} {d1 : ix_D2} (hrec194 : ∀ (x2 : Int32) (d : ix_D2), rec194 x2 d = some d1 → ix_G p l e (ix_rm 0 0 0 0) s m args below meth c (MQ below (ix_Post K none (ix_w z d1)) args s 0 0 (ix_A K)) K 3 0 0 194 [(0, .ref (K.2.2.1 + a0)), (1, .int x1), (2, .int x2)] [] (ix_w z d)) {x2 : Int32} {d : ix_D2} (h : b_X12_prepare_194 n z  a0 x1 rec194 x2 d = some d1) : ix_G p l e (ix_rm 0 0 0 0) s m args below meth c (MQ below (ix_Post K none (ix_w z d1)) args s 0 0 (ix_A K)) K 3 0 0 194 [(0, .ref (K.2.2.1 + a0)), (1, .int x1), (2, .int x2)] [] (ix_w z d) := by
  unfold b_X12_prepare_194 at h
  refine ix_iload_n (i := 2) (j := 2) X (ix_tb_at tb_X12_prepare 124 rfl) rfl rfl (pc1 := 195) rfl ?_
  refine ix_bipush (v := 10) X (ix_tb_at tb_X12_prepare 125 rfl) (by decide) (pc1 := 197) rfl ?_
  refine ix_icmp_ge (tgt := 218) X (ix_tb_at tb_X12_prepare 126 rfl) (by decide) (pc1 := 200) rfl (fun q_62 => ?_) (fun q_62 => ?_)
  · have h := ix_ift q_62 h
    exact ix_vret X hr hlk (ix_r1 (g := ix_w z) h) (ix_tb_at tb_X12_prepare 138 rfl)
  · have h := ix_iff q_62 h
    refine ix_aload_n (i := 0) (j := 0) X (ix_tb_at tb_X12_prepare 127 rfl) rfl rfl (pc1 := 201) rfl ?_
    obtain ⟨k_63, h⟩ := ix_ck_some h
    obtain ⟨b_64, q_65, h⟩ := ix_bd1_ex h
    refine iz_getR X fl_RX12_195 k_63 q_65 (ix_tb_at tb_X12_prepare 128 rfl) (pc1 := 204) rfl ?_
    refine ix_bipush (v := 10) X (ix_tb_at tb_X12_prepare 129 rfl) (by decide) (pc1 := 206) rfl ?_
    refine ix_iload_n (i := 1) (j := 1) X (ix_tb_at tb_X12_prepare 130 rfl) rfl rfl (pc1 := 207) rfl ?_
    refine ix_imul X (ix_tb_at tb_X12_prepare 131 rfl) (pc1 := 208) rfl ?_
    refine ix_iload_n (i := 2) (j := 2) X (ix_tb_at tb_X12_prepare 132 rfl) rfl rfl (pc1 := 209) rfl ?_
    refine ix_iadd X (ix_tb_at tb_X12_prepare 133 rfl) (pc1 := 210) rfl ?_
    refine ix_iconst (v := 0) X (ix_tb_at tb_X12_prepare 134 rfl) (by decide) (pc1 := 211) rfl ?_
    obtain ⟨k_66, h⟩ := ix_ck_some h
    obtain ⟨d_67, e_68, h⟩ := ix_lt_ex h
    refine iz_iast X k_66 (ix_tb_at tb_X12_prepare 135 rfl) e_68 (pc1 := 212) rfl ?_
    obtain ⟨x2_69, e_70, h⟩ := ix_lt_ex h
    refine ix_iinc (i := 2) (j := 2) (v := x2_69) (L1 := [(2, .int x2_69), (0, .ref (K.2.2.1 + a0)), (1, .int x1)]) X (ix_tb_at tb_X12_prepare 136 rfl) rfl (by rw [oi_1]; exact e_70.symm) (Nat.le_of_ble_eq_true rfl) rfl (pc1 := 215) rfl ?_
    refine ix_goto (tgt := 194) X (ix_tb_at tb_X12_prepare 137 rfl) (by decide) ?_
    refine ix_sub (L1 := [(0, .ref (K.2.2.1 + a0)), (1, .int x1), (2, .int x2_69)]) [1, 2, 0] rfl ?_
    exact hrec194 x2_69 d_67 h
theorem t_X12_prepare_194 {l : Launch} {p : Program} {e : Env} {s : State} {m : MethodId} {args : Array Value} {below : List Frame} {meth : Method} {c : Code} {K : ix_Cx} (hKp : ix_Kp K) {n : Nat} {z : ix_Z} (X : ix_X p s m args c K cX12_prepare RX12 3) (hr : meth.sig.returnType = (none : Option Jvm.ClassFile.FieldType)) (hlk : meth.locks = false)  {a0 : Nat} {x1 : Int32} {d1 : ix_D2}  {x2 : Int32} {d : ix_D2} (h : f_X12_prepare_194 n z  a0 x1 x2 d = some d1) : ix_G p l e (ix_rm 0 0 0 0) s m args below meth c (MQ below (ix_Post K none (ix_w z d1)) args s 0 0 (ix_A K)) K 3 0 0 194 [(0, .ref (K.2.2.1 + a0)), (1, .int x1), (2, .int x2)] [] (ix_w z d) := by
  have key : ∀ (f : Nat) (x2 : Int32) (d : ix_D2), ix_fix (b_X12_prepare_194 n z  a0 x1) (fun _ _ => none) f x2 d = some d1 → ix_G p l e (ix_rm 0 0 0 0) s m args below meth c (MQ below (ix_Post K none (ix_w z d1)) args s 0 0 (ix_A K)) K 3 0 0 194 [(0, .ref (K.2.2.1 + a0)), (1, .int x1), (2, .int x2)] [] (ix_w z d) := by
    intro f
    induction f with
    | zero =>
      intro x2 d h
      have h : (none : Option (ix_D2)) = some d1 := h
      cases h
    | succ f ih =>
      intro x2 d h
      exact tb_X12_prepare_194 hKp X hr hlk (rec194 := ix_fix (b_X12_prepare_194 n z  a0 x1) (fun _ _ => none) f)  ih h
  exact key n x2 d h
set_option maxRecDepth 20000 in
theorem tb_X12_prepare_72 {l : Launch} {p : Program} {e : Env} {s : State} {m : MethodId} {args : Array Value} {below : List Frame} {meth : Method} {c : Code} {K : ix_Cx} (hKp : ix_Kp K) {n : Nat} {z : ix_Z} (X : ix_X p s m args c K cX12_prepare RX12 3) (hr : meth.sig.returnType = (none : Option Jvm.ClassFile.FieldType)) (hlk : meth.locks = false)  {a0 : Nat} {x1 : Int32} {rec72 : Int32 → ix_D2 → Option (ix_D2)} {d1 : ix_D2} (hrec72 : ∀ (x2 : Int32) (d : ix_D2), rec72 x2 d = some d1 → ix_G p l e (ix_rm 0 0 0 0) s m args below meth c (MQ below (ix_Post K none (ix_w z d1)) args s 0 0 (ix_A K)) K 3 0 0 72 [(0, .ref (K.2.2.1 + a0)), (1, .int x1), (2, .int x2)] [] (ix_w z d)) {x2 : Int32} {d : ix_D2} (h : b_X12_prepare_72 n z  a0 x1 rec72 x2 d = some d1) : ix_G p l e (ix_rm 0 0 0 0) s m args below meth c (MQ below (ix_Post K none (ix_w z d1)) args s 0 0 (ix_A K)) K 3 0 0 72 [(0, .ref (K.2.2.1 + a0)), (1, .int x1), (2, .int x2)] [] (ix_w z d) := by
  unfold b_X12_prepare_72 at h
  refine ix_iload_n (i := 2) (j := 2) X (ix_tb_at tb_X12_prepare 44 rfl) rfl rfl (pc1 := 73) rfl ?_
  refine ix_sipush (v := 300) X (ix_tb_at tb_X12_prepare 45 rfl) (by decide) (pc1 := 76) rfl ?_
  refine ix_icmp_gt (tgt := 130) X (ix_tb_at tb_X12_prepare 46 rfl) (by decide) (pc1 := 79) rfl (fun q_20 => ?_) (fun q_20 => ?_)
  · have h := ix_ift q_20 h
    refine ix_aload_n (i := 0) (j := 0) X (ix_tb_at tb_X12_prepare 80 rfl) rfl rfl (pc1 := 131) rfl ?_
    obtain ⟨k_21, h⟩ := ix_ck_some h
    obtain ⟨b_22, q_23, h⟩ := ix_bd1_ex h
    refine iz_getR X fl_RX12_150 k_21 q_23 (ix_tb_at tb_X12_prepare 81 rfl) (pc1 := 134) rfl ?_
    refine ix_iload_n (i := 1) (j := 1) X (ix_tb_at tb_X12_prepare 82 rfl) rfl rfl (pc1 := 135) rfl ?_
    refine ix_ldc2 (pl := 2198) (v := 64) X (ix_tb_at tb_X12_prepare 83 rfl) (by decide +kernel) (pc1 := 138) rfl ?_
    obtain ⟨k_24, h⟩ := ix_ck_some h
    obtain ⟨d_25, e_26, h⟩ := ix_lt_ex h
    refine iz_last X k_24 (ix_tb_at tb_X12_prepare 84 rfl) e_26 (pc1 := 139) rfl ?_
    refine ix_aload_n (i := 0) (j := 0) X (ix_tb_at tb_X12_prepare 85 rfl) rfl rfl (pc1 := 140) rfl ?_
    obtain ⟨b_27, q_28, h⟩ := ix_bd1_ex h
    refine iz_getR X fl_RX12_156 k_21 q_28 (ix_tb_at tb_X12_prepare 86 rfl) (pc1 := 143) rfl ?_
    refine ix_iload_n (i := 1) (j := 1) X (ix_tb_at tb_X12_prepare 87 rfl) rfl rfl (pc1 := 144) rfl ?_
    refine ix_iconst (v := 0) X (ix_tb_at tb_X12_prepare 88 rfl) (by decide) (pc1 := 145) rfl ?_
    obtain ⟨k_29, h⟩ := ix_ck_some h
    obtain ⟨d_30, e_31, h⟩ := ix_lt_ex h
    refine iz_iast X k_29 (ix_tb_at tb_X12_prepare 89 rfl) e_31 (pc1 := 146) rfl ?_
    refine ix_aload_n (i := 0) (j := 0) X (ix_tb_at tb_X12_prepare 90 rfl) rfl rfl (pc1 := 147) rfl ?_
    obtain ⟨b_32, q_33, h⟩ := ix_bd1_ex h
    refine iz_getR X fl_RX12_159 k_21 q_33 (ix_tb_at tb_X12_prepare 91 rfl) (pc1 := 150) rfl ?_
    refine ix_iload_n (i := 1) (j := 1) X (ix_tb_at tb_X12_prepare 92 rfl) rfl rfl (pc1 := 151) rfl ?_
    refine ix_iconst (v := 0) X (ix_tb_at tb_X12_prepare 93 rfl) (by decide) (pc1 := 152) rfl ?_
    obtain ⟨k_34, h⟩ := ix_ck_some h
    obtain ⟨d_35, e_36, h⟩ := ix_lt_ex h
    refine iz_iast X k_34 (ix_tb_at tb_X12_prepare 94 rfl) e_36 (pc1 := 153) rfl ?_
    refine ix_aload_n (i := 0) (j := 0) X (ix_tb_at tb_X12_prepare 95 rfl) rfl rfl (pc1 := 154) rfl ?_
    obtain ⟨b_37, q_38, h⟩ := ix_bd1_ex h
    refine iz_getR X fl_RX12_162 k_21 q_38 (ix_tb_at tb_X12_prepare 96 rfl) (pc1 := 157) rfl ?_
    refine ix_sipush (v := 801) X (ix_tb_at tb_X12_prepare 97 rfl) (by decide) (pc1 := 160) rfl ?_
    refine ix_iload_n (i := 1) (j := 1) X (ix_tb_at tb_X12_prepare 98 rfl) rfl rfl (pc1 := 161) rfl ?_
    refine ix_imul X (ix_tb_at tb_X12_prepare 99 rfl) (pc1 := 162) rfl ?_
    refine ix_iconst (v := 0) X (ix_tb_at tb_X12_prepare 100 rfl) (by decide) (pc1 := 163) rfl ?_
    obtain ⟨k_39, h⟩ := ix_ck_some h
    obtain ⟨d_40, e_41, h⟩ := ix_lt_ex h
    refine iz_iast X k_39 (ix_tb_at tb_X12_prepare 101 rfl) e_41 (pc1 := 164) rfl ?_
    refine ix_aload_n (i := 0) (j := 0) X (ix_tb_at tb_X12_prepare 102 rfl) rfl rfl (pc1 := 165) rfl ?_
    obtain ⟨b_42, q_43, h⟩ := ix_bd1_ex h
    refine iz_getR X fl_RX12_168 k_21 q_43 (ix_tb_at tb_X12_prepare 103 rfl) (pc1 := 168) rfl ?_
    refine ix_iload_n (i := 1) (j := 1) X (ix_tb_at tb_X12_prepare 104 rfl) rfl rfl (pc1 := 169) rfl ?_
    refine ix_iconst (v := 0) X (ix_tb_at tb_X12_prepare 105 rfl) (by decide) (pc1 := 170) rfl ?_
    obtain ⟨k_44, h⟩ := ix_ck_some h
    obtain ⟨d_45, e_46, h⟩ := ix_lt_ex h
    refine iz_iast X k_44 (ix_tb_at tb_X12_prepare 106 rfl) e_46 (pc1 := 171) rfl ?_
    refine ix_aload_n (i := 0) (j := 0) X (ix_tb_at tb_X12_prepare 107 rfl) rfl rfl (pc1 := 172) rfl ?_
    obtain ⟨b_47, q_48, h⟩ := ix_bd1_ex h
    refine iz_getR X fl_RX12_171 k_21 q_48 (ix_tb_at tb_X12_prepare 108 rfl) (pc1 := 175) rfl ?_
    refine ix_iload_n (i := 1) (j := 1) X (ix_tb_at tb_X12_prepare 109 rfl) rfl rfl (pc1 := 176) rfl ?_
    refine ix_iconst (v := 0) X (ix_tb_at tb_X12_prepare 110 rfl) (by decide) (pc1 := 177) rfl ?_
    obtain ⟨k_49, h⟩ := ix_ck_some h
    obtain ⟨d_50, e_51, h⟩ := ix_lt_ex h
    refine iz_iast X k_49 (ix_tb_at tb_X12_prepare 111 rfl) e_51 (pc1 := 178) rfl ?_
    refine ix_aload_n (i := 0) (j := 0) X (ix_tb_at tb_X12_prepare 112 rfl) rfl rfl (pc1 := 179) rfl ?_
    obtain ⟨b_52, q_53, h⟩ := ix_bd1_ex h
    refine iz_getR X fl_RX12_189 k_21 q_53 (ix_tb_at tb_X12_prepare 113 rfl) (pc1 := 182) rfl ?_
    refine ix_iload_n (i := 1) (j := 1) X (ix_tb_at tb_X12_prepare 114 rfl) rfl rfl (pc1 := 183) rfl ?_
    refine ix_iconst (v := 0) X (ix_tb_at tb_X12_prepare 115 rfl) (by decide) (pc1 := 184) rfl ?_
    obtain ⟨k_54, h⟩ := ix_ck_some h
    obtain ⟨d_55, e_56, h⟩ := ix_lt_ex h
    refine iz_iast X k_54 (ix_tb_at tb_X12_prepare 116 rfl) e_56 (pc1 := 185) rfl ?_
    refine ix_aload_n (i := 0) (j := 0) X (ix_tb_at tb_X12_prepare 117 rfl) rfl rfl (pc1 := 186) rfl ?_
    obtain ⟨b_57, q_58, h⟩ := ix_bd1_ex h
    refine iz_getR X fl_RX12_192 k_21 q_58 (ix_tb_at tb_X12_prepare 118 rfl) (pc1 := 189) rfl ?_
    refine ix_iload_n (i := 1) (j := 1) X (ix_tb_at tb_X12_prepare 119 rfl) rfl rfl (pc1 := 190) rfl ?_
    refine ix_iconst (v := 1) X (ix_tb_at tb_X12_prepare 120 rfl) (by decide) (pc1 := 191) rfl ?_
    obtain ⟨k_59, h⟩ := ix_ck_some h
    obtain ⟨d_60, e_61, h⟩ := ix_lt_ex h
    refine iz_iast X k_59 (ix_tb_at tb_X12_prepare 121 rfl) e_61 (pc1 := 192) rfl ?_
    refine ix_iconst (v := 0) X (ix_tb_at tb_X12_prepare 122 rfl) (by decide) (pc1 := 193) rfl ?_
    refine ix_istore_n (i := 2) (L1 := [(2, .int 0), (0, .ref (K.2.2.1 + a0)), (1, .int x1)]) X (ix_tb_at tb_X12_prepare 123 rfl) rfl (Nat.le_of_ble_eq_true rfl) rfl (pc1 := 194) rfl ?_
    refine ix_sub (L1 := [(0, .ref (K.2.2.1 + a0)), (1, .int x1), (2, .int 0)]) [1, 2, 0] rfl ?_
    exact t_X12_prepare_194 hKp X hr hlk  h
  · have h := ix_iff q_20 h
    refine ix_aload_n (i := 0) (j := 0) X (ix_tb_at tb_X12_prepare 47 rfl) rfl rfl (pc1 := 80) rfl ?_
    obtain ⟨k_71, h⟩ := ix_ck_some h
    obtain ⟨b_72, q_73, h⟩ := ix_bd1_ex h
    refine iz_getR X fl_RX12_134 k_71 q_73 (ix_tb_at tb_X12_prepare 48 rfl) (pc1 := 83) rfl ?_
    refine ix_sipush (v := 301) X (ix_tb_at tb_X12_prepare 49 rfl) (by decide) (pc1 := 86) rfl ?_
    refine ix_iload_n (i := 1) (j := 1) X (ix_tb_at tb_X12_prepare 50 rfl) rfl rfl (pc1 := 87) rfl ?_
    refine ix_imul X (ix_tb_at tb_X12_prepare 51 rfl) (pc1 := 88) rfl ?_
    refine ix_iload_n (i := 2) (j := 2) X (ix_tb_at tb_X12_prepare 52 rfl) rfl rfl (pc1 := 89) rfl ?_
    refine ix_iadd X (ix_tb_at tb_X12_prepare 53 rfl) (pc1 := 90) rfl ?_
    refine ix_iconst (v := 2) X (ix_tb_at tb_X12_prepare 54 rfl) (by decide) (pc1 := 91) rfl ?_
    obtain ⟨k_74, h⟩ := ix_ck_some h
    obtain ⟨d_75, e_76, h⟩ := ix_lt_ex h
    refine iz_iast X k_74 (ix_tb_at tb_X12_prepare 55 rfl) e_76 (pc1 := 92) rfl ?_
    refine ix_aload_n (i := 0) (j := 0) X (ix_tb_at tb_X12_prepare 56 rfl) rfl rfl (pc1 := 93) rfl ?_
    obtain ⟨b_77, q_78, h⟩ := ix_bd1_ex h
    refine iz_getR X fl_RX12_143 k_71 q_78 (ix_tb_at tb_X12_prepare 57 rfl) (pc1 := 96) rfl ?_
    refine ix_sipush (v := 301) X (ix_tb_at tb_X12_prepare 58 rfl) (by decide) (pc1 := 99) rfl ?_
    refine ix_iload_n (i := 1) (j := 1) X (ix_tb_at tb_X12_prepare 59 rfl) rfl rfl (pc1 := 100) rfl ?_
    refine ix_imul X (ix_tb_at tb_X12_prepare 60 rfl) (pc1 := 101) rfl ?_
    refine ix_iload_n (i := 2) (j := 2) X (ix_tb_at tb_X12_prepare 61 rfl) rfl rfl (pc1 := 102) rfl ?_
    refine ix_iadd X (ix_tb_at tb_X12_prepare 62 rfl) (pc1 := 103) rfl ?_
    refine ix_iconst (v := 0) X (ix_tb_at tb_X12_prepare 63 rfl) (by decide) (pc1 := 104) rfl ?_
    obtain ⟨k_79, h⟩ := ix_ck_some h
    obtain ⟨d_80, e_81, h⟩ := ix_lt_ex h
    refine iz_iast X k_79 (ix_tb_at tb_X12_prepare 64 rfl) e_81 (pc1 := 105) rfl ?_
    refine ix_aload_n (i := 0) (j := 0) X (ix_tb_at tb_X12_prepare 65 rfl) rfl rfl (pc1 := 106) rfl ?_
    obtain ⟨b_82, q_83, h⟩ := ix_bd1_ex h
    refine iz_getR X fl_RX12_146 k_71 q_83 (ix_tb_at tb_X12_prepare 66 rfl) (pc1 := 109) rfl ?_
    refine ix_sipush (v := 301) X (ix_tb_at tb_X12_prepare 67 rfl) (by decide) (pc1 := 112) rfl ?_
    refine ix_iload_n (i := 1) (j := 1) X (ix_tb_at tb_X12_prepare 68 rfl) rfl rfl (pc1 := 113) rfl ?_
    refine ix_imul X (ix_tb_at tb_X12_prepare 69 rfl) (pc1 := 114) rfl ?_
    refine ix_iload_n (i := 2) (j := 2) X (ix_tb_at tb_X12_prepare 70 rfl) rfl rfl (pc1 := 115) rfl ?_
    refine ix_iadd X (ix_tb_at tb_X12_prepare 71 rfl) (pc1 := 116) rfl ?_
    refine ix_aload_n (i := 0) (j := 0) X (ix_tb_at tb_X12_prepare 72 rfl) rfl rfl (pc1 := 117) rfl ?_
    obtain ⟨b_84, q_85, h⟩ := ix_bd1_ex h
    refine iz_getR X fl_RX12_7 k_71 q_85 (ix_tb_at tb_X12_prepare 73 rfl) (pc1 := 120) rfl ?_
    refine ix_iload_n (i := 2) (j := 2) X (ix_tb_at tb_X12_prepare 74 rfl) rfl rfl (pc1 := 121) rfl ?_
    obtain ⟨k_86, h⟩ := ix_ck_some h
    refine iz_iald X k_86 (ix_tb_at tb_X12_prepare 75 rfl) (pc1 := 122) rfl ?_
    refine ix_i2l X (ix_tb_at tb_X12_prepare 76 rfl) (pc1 := 123) rfl ?_
    obtain ⟨k_87, h⟩ := ix_ck_some h
    obtain ⟨d_88, e_89, h⟩ := ix_lt_ex h
    refine iz_last X k_87 (ix_tb_at tb_X12_prepare 77 rfl) e_89 (pc1 := 124) rfl ?_
    obtain ⟨x2_90, e_91, h⟩ := ix_lt_ex h
    refine ix_iinc (i := 2) (j := 2) (v := x2_90) (L1 := [(2, .int x2_90), (0, .ref (K.2.2.1 + a0)), (1, .int x1)]) X (ix_tb_at tb_X12_prepare 78 rfl) rfl (by rw [oi_1]; exact e_91.symm) (Nat.le_of_ble_eq_true rfl) rfl (pc1 := 127) rfl ?_
    refine ix_goto (tgt := 72) X (ix_tb_at tb_X12_prepare 79 rfl) (by decide) ?_
    refine ix_sub (L1 := [(0, .ref (K.2.2.1 + a0)), (1, .int x1), (2, .int x2_90)]) [1, 2, 0] rfl ?_
    exact hrec72 x2_90 d_88 h
theorem t_X12_prepare_72 {l : Launch} {p : Program} {e : Env} {s : State} {m : MethodId} {args : Array Value} {below : List Frame} {meth : Method} {c : Code} {K : ix_Cx} (hKp : ix_Kp K) {n : Nat} {z : ix_Z} (X : ix_X p s m args c K cX12_prepare RX12 3) (hr : meth.sig.returnType = (none : Option Jvm.ClassFile.FieldType)) (hlk : meth.locks = false)  {a0 : Nat} {x1 : Int32} {d1 : ix_D2}  {x2 : Int32} {d : ix_D2} (h : f_X12_prepare_72 n z  a0 x1 x2 d = some d1) : ix_G p l e (ix_rm 0 0 0 0) s m args below meth c (MQ below (ix_Post K none (ix_w z d1)) args s 0 0 (ix_A K)) K 3 0 0 72 [(0, .ref (K.2.2.1 + a0)), (1, .int x1), (2, .int x2)] [] (ix_w z d) := by
  have key : ∀ (f : Nat) (x2 : Int32) (d : ix_D2), ix_fix (b_X12_prepare_72 n z  a0 x1) (fun _ _ => none) f x2 d = some d1 → ix_G p l e (ix_rm 0 0 0 0) s m args below meth c (MQ below (ix_Post K none (ix_w z d1)) args s 0 0 (ix_A K)) K 3 0 0 72 [(0, .ref (K.2.2.1 + a0)), (1, .int x1), (2, .int x2)] [] (ix_w z d) := by
    intro f
    induction f with
    | zero =>
      intro x2 d h
      have h : (none : Option (ix_D2)) = some d1 := h
      cases h
    | succ f ih =>
      intro x2 d h
      exact tb_X12_prepare_72 hKp X hr hlk (rec72 := ix_fix (b_X12_prepare_72 n z  a0 x1) (fun _ _ => none) f)  ih h
  exact key n x2 d h
set_option maxRecDepth 20000 in
theorem t_X12_prepare_70 {l : Launch} {p : Program} {e : Env} {s : State} {m : MethodId} {args : Array Value} {below : List Frame} {meth : Method} {c : Code} {K : ix_Cx} (hKp : ix_Kp K) {n : Nat} {z : ix_Z} (X : ix_X p s m args c K cX12_prepare RX12 3) (hr : meth.sig.returnType = (none : Option Jvm.ClassFile.FieldType)) (hlk : meth.locks = false)  {a0 : Nat} {x1 : Int32} {d1 : ix_D2}  {d : ix_D2} (h : f_X12_prepare_70 n z  a0 x1 d = some d1) : ix_G p l e (ix_rm 0 0 0 0) s m args below meth c (MQ below (ix_Post K none (ix_w z d1)) args s 0 0 (ix_A K)) K 3 0 0 70 [(0, .ref (K.2.2.1 + a0)), (1, .int x1)] [] (ix_w z d) := by
  unfold f_X12_prepare_70 at h
  refine ix_iconst (v := 0) X (ix_tb_at tb_X12_prepare 42 rfl) (by decide) (pc1 := 71) rfl ?_
  refine ix_istore_n (i := 2) (L1 := [(2, .int 0), (0, .ref (K.2.2.1 + a0)), (1, .int x1)]) X (ix_tb_at tb_X12_prepare 43 rfl) rfl (Nat.le_of_ble_eq_true rfl) rfl (pc1 := 72) rfl ?_
  refine ix_sub (L1 := [(0, .ref (K.2.2.1 + a0)), (1, .int x1), (2, .int 0)]) [1, 2, 0] rfl ?_
  exact t_X12_prepare_72 hKp X hr hlk  h
set_option maxRecDepth 20000 in
theorem tb_X12_prepare_22 {l : Launch} {p : Program} {e : Env} {s : State} {m : MethodId} {args : Array Value} {below : List Frame} {meth : Method} {c : Code} {K : ix_Cx} (hKp : ix_Kp K) {n : Nat} {z : ix_Z} (X : ix_X p s m args c K cX12_prepare RX12 3) (hr : meth.sig.returnType = (none : Option Jvm.ClassFile.FieldType)) (hlk : meth.locks = false)  {a0 : Nat} {x1 : Int32} {rec22 : Int32 → ix_D2 → Option (ix_D2)} {d1 : ix_D2} (hrec22 : ∀ (x2 : Int32) (d : ix_D2), rec22 x2 d = some d1 → ix_G p l e (ix_rm 0 0 0 0) s m args below meth c (MQ below (ix_Post K none (ix_w z d1)) args s 0 0 (ix_A K)) K 3 0 0 22 [(0, .ref (K.2.2.1 + a0)), (1, .int x1), (2, .int x2)] [] (ix_w z d)) {x2 : Int32} {d : ix_D2} (h : b_X12_prepare_22 n z  a0 x1 rec22 x2 d = some d1) : ix_G p l e (ix_rm 0 0 0 0) s m args below meth c (MQ below (ix_Post K none (ix_w z d1)) args s 0 0 (ix_A K)) K 3 0 0 22 [(0, .ref (K.2.2.1 + a0)), (1, .int x1), (2, .int x2)] [] (ix_w z d) := by
  unfold b_X12_prepare_22 at h
  refine ix_iload_n (i := 2) (j := 2) X (ix_tb_at tb_X12_prepare 14 rfl) rfl rfl (pc1 := 23) rfl ?_
  refine ix_sipush (v := 500) X (ix_tb_at tb_X12_prepare 15 rfl) (by decide) (pc1 := 26) rfl ?_
  refine ix_icmp_ge (tgt := 48) X (ix_tb_at tb_X12_prepare 16 rfl) (by decide) (pc1 := 29) rfl (fun q_12 => ?_) (fun q_12 => ?_)
  · have h := ix_ift q_12 h
    refine ix_aload_n (i := 0) (j := 0) X (ix_tb_at tb_X12_prepare 28 rfl) rfl rfl (pc1 := 49) rfl ?_
    obtain ⟨k_13, h⟩ := ix_ck_some h
    obtain ⟨b_14, q_15, h⟩ := ix_bd1_ex h
    refine iz_getR X fl_RX12_128 k_13 q_15 (ix_tb_at tb_X12_prepare 29 rfl) (pc1 := 52) rfl ?_
    refine ix_iload_n (i := 1) (j := 1) X (ix_tb_at tb_X12_prepare 30 rfl) rfl rfl (pc1 := 53) rfl ?_
    refine ix_iconst (v := 0) X (ix_tb_at tb_X12_prepare 31 rfl) (by decide) (pc1 := 54) rfl ?_
    obtain ⟨k_16, h⟩ := ix_ck_some h
    obtain ⟨d_17, e_18, h⟩ := ix_lt_ex h
    refine iz_iast X k_16 (ix_tb_at tb_X12_prepare 32 rfl) e_18 (pc1 := 55) rfl ?_
    refine ix_iload_n (i := 1) (j := 1) X (ix_tb_at tb_X12_prepare 33 rfl) rfl rfl (pc1 := 56) rfl ?_
    refine ix_iconst (v := 1) X (ix_tb_at tb_X12_prepare 34 rfl) (by decide) (pc1 := 57) rfl ?_
    refine ix_icmp_ne (tgt := 70) X (ix_tb_at tb_X12_prepare 35 rfl) (by decide) (pc1 := 60) rfl (fun q_19 => ?_) (fun q_19 => ?_)
    · have h := ix_iff q_19 h
      refine ix_sub (L1 := [(0, .ref (K.2.2.1 + a0)), (1, .int x1)]) [0, 1] rfl ?_
      exact t_X12_prepare_70 hKp X hr hlk  h
    · have h := ix_ift q_19 h
      refine ix_aload_n (i := 0) (j := 0) X (ix_tb_at tb_X12_prepare 36 rfl) rfl rfl (pc1 := 61) rfl ?_
      refine ix_iconst (v := 0) X (ix_tb_at tb_X12_prepare 37 rfl) (by decide) (pc1 := 62) rfl ?_
      obtain ⟨d_92, e_93, h⟩ := ix_lt_ex h
      refine iz_putI X fp_RX12_442 k_13 (ix_tb_at tb_X12_prepare 38 rfl) e_93 (pc1 := 65) rfl ?_
      refine ix_aload_n (i := 0) (j := 0) X (ix_tb_at tb_X12_prepare 39 rfl) rfl rfl (pc1 := 66) rfl ?_
      refine ix_iconst (v := 0) X (ix_tb_at tb_X12_prepare 40 rfl) (by decide) (pc1 := 67) rfl ?_
      obtain ⟨d_94, e_95, h⟩ := ix_lt_ex h
      refine iz_putI X fp_RX12_467 k_13 (ix_tb_at tb_X12_prepare 41 rfl) e_95 (pc1 := 70) rfl ?_
      refine ix_sub (L1 := [(0, .ref (K.2.2.1 + a0)), (1, .int x1)]) [0, 1] rfl ?_
      exact t_X12_prepare_70 hKp X hr hlk  h
  · have h := ix_iff q_12 h
    refine ix_aload_n (i := 0) (j := 0) X (ix_tb_at tb_X12_prepare 17 rfl) rfl rfl (pc1 := 30) rfl ?_
    obtain ⟨k_96, h⟩ := ix_ck_some h
    obtain ⟨b_97, q_98, h⟩ := ix_bd1_ex h
    refine iz_getR X fl_RX12_122 k_96 q_98 (ix_tb_at tb_X12_prepare 18 rfl) (pc1 := 33) rfl ?_
    refine ix_sipush (v := 500) X (ix_tb_at tb_X12_prepare 19 rfl) (by decide) (pc1 := 36) rfl ?_
    refine ix_iload_n (i := 1) (j := 1) X (ix_tb_at tb_X12_prepare 20 rfl) rfl rfl (pc1 := 37) rfl ?_
    refine ix_imul X (ix_tb_at tb_X12_prepare 21 rfl) (pc1 := 38) rfl ?_
    refine ix_iload_n (i := 2) (j := 2) X (ix_tb_at tb_X12_prepare 22 rfl) rfl rfl (pc1 := 39) rfl ?_
    refine ix_iadd X (ix_tb_at tb_X12_prepare 23 rfl) (pc1 := 40) rfl ?_
    refine ix_iconst (v := 1) X (ix_tb_at tb_X12_prepare 24 rfl) (by decide) (pc1 := 41) rfl ?_
    obtain ⟨k_99, h⟩ := ix_ck_some h
    obtain ⟨d_100, e_101, h⟩ := ix_lt_ex h
    refine iz_zast X k_99 (ix_tb_at tb_X12_prepare 25 rfl) e_101 (pc1 := 42) rfl ?_
    obtain ⟨x2_102, e_103, h⟩ := ix_lt_ex h
    refine ix_iinc (i := 2) (j := 2) (v := x2_102) (L1 := [(2, .int x2_102), (0, .ref (K.2.2.1 + a0)), (1, .int x1)]) X (ix_tb_at tb_X12_prepare 26 rfl) rfl (by rw [oi_1]; exact e_103.symm) (Nat.le_of_ble_eq_true rfl) rfl (pc1 := 45) rfl ?_
    refine ix_goto (tgt := 22) X (ix_tb_at tb_X12_prepare 27 rfl) (by decide) ?_
    refine ix_sub (L1 := [(0, .ref (K.2.2.1 + a0)), (1, .int x1), (2, .int x2_102)]) [1, 2, 0] rfl ?_
    exact hrec22 x2_102 d_100 h
theorem t_X12_prepare_22 {l : Launch} {p : Program} {e : Env} {s : State} {m : MethodId} {args : Array Value} {below : List Frame} {meth : Method} {c : Code} {K : ix_Cx} (hKp : ix_Kp K) {n : Nat} {z : ix_Z} (X : ix_X p s m args c K cX12_prepare RX12 3) (hr : meth.sig.returnType = (none : Option Jvm.ClassFile.FieldType)) (hlk : meth.locks = false)  {a0 : Nat} {x1 : Int32} {d1 : ix_D2}  {x2 : Int32} {d : ix_D2} (h : f_X12_prepare_22 n z  a0 x1 x2 d = some d1) : ix_G p l e (ix_rm 0 0 0 0) s m args below meth c (MQ below (ix_Post K none (ix_w z d1)) args s 0 0 (ix_A K)) K 3 0 0 22 [(0, .ref (K.2.2.1 + a0)), (1, .int x1), (2, .int x2)] [] (ix_w z d) := by
  have key : ∀ (f : Nat) (x2 : Int32) (d : ix_D2), ix_fix (b_X12_prepare_22 n z  a0 x1) (fun _ _ => none) f x2 d = some d1 → ix_G p l e (ix_rm 0 0 0 0) s m args below meth c (MQ below (ix_Post K none (ix_w z d1)) args s 0 0 (ix_A K)) K 3 0 0 22 [(0, .ref (K.2.2.1 + a0)), (1, .int x1), (2, .int x2)] [] (ix_w z d) := by
    intro f
    induction f with
    | zero =>
      intro x2 d h
      have h : (none : Option (ix_D2)) = some d1 := h
      cases h
    | succ f ih =>
      intro x2 d h
      exact tb_X12_prepare_22 hKp X hr hlk (rec22 := ix_fix (b_X12_prepare_22 n z  a0 x1) (fun _ _ => none) f)  ih h
  exact key n x2 d h
set_option maxRecDepth 20000 in
theorem c_X12_prepare {l : Launch} {K : ix_Cx} (hKp : ix_Kp K) {n : Nat} {z : ix_Z} {a0 : Nat} {x1 : Int32} {d : ix_D2} {d1 : ix_D2} (h : f_X12_prepare n z a0 x1 d = some d1) : ix_M l K yX12_prepare cX12_prepare 3 (none : Option Jvm.ClassFile.FieldType) 0 0 0 0 [.ref (K.2.2.1 + a0), .int x1] (ix_w z d) none (ix_w z d1) := by
  refine ix_met mf_X12_prepare hKp (Nat.le_of_ble_eq_true rfl) ?_
  intro p e s m args below meth c hr hlk hnm X
  have X : ix_X p s m args c K cX12_prepare RX12 3 := X
  show ix_G p l e (ix_rm 0 0 0 0) s m args below meth c (MQ below (ix_Post K none (ix_w z d1)) args s 0 0 (ix_A K)) K 3 0 0 0 [(0, .ref (K.2.2.1 + a0)), (1, .int x1)] [] (ix_w z d)
  unfold f_X12_prepare at h
  refine ix_aload_n (i := 0) (j := 0) X (ix_tb_at tb_X12_prepare 0 rfl) rfl rfl (pc1 := 1) rfl ?_
  obtain ⟨k_1, h⟩ := ix_ck_some h
  obtain ⟨b_2, q_3, h⟩ := ix_bd1_ex h
  refine iz_getR X fl_RX12_116 k_1 q_3 (ix_tb_at tb_X12_prepare 1 rfl) (pc1 := 4) rfl ?_
  refine ix_iload_n (i := 1) (j := 1) X (ix_tb_at tb_X12_prepare 2 rfl) rfl rfl (pc1 := 5) rfl ?_
  refine ix_aload_n (i := 0) (j := 0) X (ix_tb_at tb_X12_prepare 3 rfl) rfl rfl (pc1 := 6) rfl ?_
  refine iz_getI X fl_RX12_246 k_1 (ix_tb_at tb_X12_prepare 4 rfl) (pc1 := 9) rfl ?_
  obtain ⟨k_4, h⟩ := ix_ck_some h
  obtain ⟨d_5, e_6, h⟩ := ix_lt_ex h
  refine iz_iast X k_4 (ix_tb_at tb_X12_prepare 5 rfl) e_6 (pc1 := 10) rfl ?_
  refine ix_aload_n (i := 0) (j := 0) X (ix_tb_at tb_X12_prepare 6 rfl) rfl rfl (pc1 := 11) rfl ?_
  obtain ⟨b_7, q_8, h⟩ := ix_bd1_ex h
  refine iz_getR X fl_RX12_119 k_1 q_8 (ix_tb_at tb_X12_prepare 7 rfl) (pc1 := 14) rfl ?_
  refine ix_iload_n (i := 1) (j := 1) X (ix_tb_at tb_X12_prepare 8 rfl) rfl rfl (pc1 := 15) rfl ?_
  refine ix_aload_n (i := 0) (j := 0) X (ix_tb_at tb_X12_prepare 9 rfl) rfl rfl (pc1 := 16) rfl ?_
  refine iz_getI X fl_RX12_273 k_1 (ix_tb_at tb_X12_prepare 10 rfl) (pc1 := 19) rfl ?_
  obtain ⟨k_9, h⟩ := ix_ck_some h
  obtain ⟨d_10, e_11, h⟩ := ix_lt_ex h
  refine iz_iast X k_9 (ix_tb_at tb_X12_prepare 11 rfl) e_11 (pc1 := 20) rfl ?_
  refine ix_iconst (v := 0) X (ix_tb_at tb_X12_prepare 12 rfl) (by decide) (pc1 := 21) rfl ?_
  refine ix_istore_n (i := 2) (L1 := [(2, .int 0), (0, .ref (K.2.2.1 + a0)), (1, .int x1)]) X (ix_tb_at tb_X12_prepare 13 rfl) rfl (Nat.le_of_ble_eq_true rfl) rfl (pc1 := 22) rfl ?_
  refine ix_sub (L1 := [(0, .ref (K.2.2.1 + a0)), (1, .int x1), (2, .int 0)]) [1, 2, 0] rfl ?_
  exact t_X12_prepare_22 hKp X hr hlk  h
def tab_X12_askAll : List (Nat × Instr × Nat) := [(0, .iconst 0, 1), (1, .istore_n 2, 1), (2, .iload_n 2, 1), (3, .aload_n 0, 1), (4, .getfield 427, 3), (7, .if_icmp .ge 26, 3), (10, .aload_n 0, 1), (11, .getfield 125, 3), (14, .bipush 20, 2), (16, .iload_n 1, 1), (17, .imul, 1), (18, .iload_n 2, 1), (19, .iadd, 1), (20, .aload_n 0, 1), (21, .getfield 71, 3), (24, .iload_n 2, 1), (25, .iaload, 1), (26, .iastore, 1), (27, .iinc 2 1, 3), (30, .goto (-28), 3), (33, .aload_n 0, 1), (34, .getfield 128, 3), (37, .iload_n 1, 1), (38, .aload_n 0, 1), (39, .getfield 427, 3), (42, .iastore, 1), (43, .return_, 1)]
theorem tb_X12_askAll : ix_tab cX12_askAll tab_X12_askAll := by
  unfold ix_tab
  decide +kernel
noncomputable def b_X12_askAll_2 (n : Nat) (z : ix_Z)  (a0 : Nat) (x1 : Int32) (rec2 : Int32 → ix_D2 → Option (ix_D2)) (x2 : Int32) (d : ix_D2) : Option (ix_D2) :=
  ix_ck (ix_ok z [11] a0) (ix_if (d.1 a0 29 ≤ x2) (ix_bd1 (z.1 a0 65) (fun b_3 => ix_ck (ix_ix z 20 b_3 x1) (ix_lt (ix_di d b_3 (ix_n x1) (d.1 a0 29)) (fun d_6 => some d_6)))) (ix_bd1 (z.1 a0 64) (fun b_8 => ix_bd1 (z.1 a0 28) (fun b_10 => ix_ck (ix_ix z 20 b_10 x2) (ix_ck (ix_ix z 20 b_8 ((20 * x1) + x2)) (ix_lt (ix_di d b_8 (ix_n ((20 * x1) + x2)) (d.1 b_10 (ix_n x2))) (fun d_14 => ix_lt (x2 + 1) (fun x2_16 => rec2 x2_16 d_14))))))))
noncomputable def f_X12_askAll_2 (n : Nat) (z : ix_Z)  (a0 : Nat) (x1 : Int32) (x2 : Int32) (d : ix_D2) : Option (ix_D2) := ix_fix (b_X12_askAll_2 n z  a0 x1) (fun _ _ => none) n x2 d
noncomputable def f_X12_askAll (n : Nat) (z : ix_Z) (a0 : Nat) (x1 : Int32) (d : ix_D2) : Option (ix_D2) :=
  f_X12_askAll_2 n z  a0 x1 0 d
set_option maxRecDepth 20000 in
theorem tb_X12_askAll_2 {l : Launch} {p : Program} {e : Env} {s : State} {m : MethodId} {args : Array Value} {below : List Frame} {meth : Method} {c : Code} {K : ix_Cx} (hKp : ix_Kp K) {n : Nat} {z : ix_Z} (X : ix_X p s m args c K cX12_askAll RX12 3) (hr : meth.sig.returnType = (none : Option Jvm.ClassFile.FieldType)) (hlk : meth.locks = false)  {a0 : Nat} {x1 : Int32} {rec2 : Int32 → ix_D2 → Option (ix_D2)} {d1 : ix_D2} (hrec2 : ∀ (x2 : Int32) (d : ix_D2), rec2 x2 d = some d1 → ix_G p l e (ix_rm 0 0 0 0) s m args below meth c (MQ below (ix_Post K none (ix_w z d1)) args s 0 0 (ix_A K)) K 3 0 0 2 [(0, .ref (K.2.2.1 + a0)), (1, .int x1), (2, .int x2)] [] (ix_w z d)) {x2 : Int32} {d : ix_D2} (h : b_X12_askAll_2 n z  a0 x1 rec2 x2 d = some d1) : ix_G p l e (ix_rm 0 0 0 0) s m args below meth c (MQ below (ix_Post K none (ix_w z d1)) args s 0 0 (ix_A K)) K 3 0 0 2 [(0, .ref (K.2.2.1 + a0)), (1, .int x1), (2, .int x2)] [] (ix_w z d) := by
  unfold b_X12_askAll_2 at h
  refine ix_iload_n (i := 2) (j := 2) X (ix_tb_at tb_X12_askAll 2 rfl) rfl rfl (pc1 := 3) rfl ?_
  refine ix_aload_n (i := 0) (j := 0) X (ix_tb_at tb_X12_askAll 3 rfl) rfl rfl (pc1 := 4) rfl ?_
  obtain ⟨k_1, h⟩ := ix_ck_some h
  refine iz_getI X fl_RX12_427 k_1 (ix_tb_at tb_X12_askAll 4 rfl) (pc1 := 7) rfl ?_
  refine ix_icmp_ge (tgt := 33) X (ix_tb_at tb_X12_askAll 5 rfl) (by decide) (pc1 := 10) rfl (fun q_2 => ?_) (fun q_2 => ?_)
  · have h := ix_ift q_2 h
    refine ix_aload_n (i := 0) (j := 0) X (ix_tb_at tb_X12_askAll 20 rfl) rfl rfl (pc1 := 34) rfl ?_
    obtain ⟨b_3, q_4, h⟩ := ix_bd1_ex h
    refine iz_getR X fl_RX12_128 k_1 q_4 (ix_tb_at tb_X12_askAll 21 rfl) (pc1 := 37) rfl ?_
    refine ix_iload_n (i := 1) (j := 1) X (ix_tb_at tb_X12_askAll 22 rfl) rfl rfl (pc1 := 38) rfl ?_
    refine ix_aload_n (i := 0) (j := 0) X (ix_tb_at tb_X12_askAll 23 rfl) rfl rfl (pc1 := 39) rfl ?_
    refine iz_getI X fl_RX12_427 k_1 (ix_tb_at tb_X12_askAll 24 rfl) (pc1 := 42) rfl ?_
    obtain ⟨k_5, h⟩ := ix_ck_some h
    obtain ⟨d_6, e_7, h⟩ := ix_lt_ex h
    refine iz_iast X k_5 (ix_tb_at tb_X12_askAll 25 rfl) e_7 (pc1 := 43) rfl ?_
    exact ix_vret X hr hlk (ix_r1 (g := ix_w z) h) (ix_tb_at tb_X12_askAll 26 rfl)
  · have h := ix_iff q_2 h
    refine ix_aload_n (i := 0) (j := 0) X (ix_tb_at tb_X12_askAll 6 rfl) rfl rfl (pc1 := 11) rfl ?_
    obtain ⟨b_8, q_9, h⟩ := ix_bd1_ex h
    refine iz_getR X fl_RX12_125 k_1 q_9 (ix_tb_at tb_X12_askAll 7 rfl) (pc1 := 14) rfl ?_
    refine ix_bipush (v := 20) X (ix_tb_at tb_X12_askAll 8 rfl) (by decide) (pc1 := 16) rfl ?_
    refine ix_iload_n (i := 1) (j := 1) X (ix_tb_at tb_X12_askAll 9 rfl) rfl rfl (pc1 := 17) rfl ?_
    refine ix_imul X (ix_tb_at tb_X12_askAll 10 rfl) (pc1 := 18) rfl ?_
    refine ix_iload_n (i := 2) (j := 2) X (ix_tb_at tb_X12_askAll 11 rfl) rfl rfl (pc1 := 19) rfl ?_
    refine ix_iadd X (ix_tb_at tb_X12_askAll 12 rfl) (pc1 := 20) rfl ?_
    refine ix_aload_n (i := 0) (j := 0) X (ix_tb_at tb_X12_askAll 13 rfl) rfl rfl (pc1 := 21) rfl ?_
    obtain ⟨b_10, q_11, h⟩ := ix_bd1_ex h
    refine iz_getR X fl_RX12_71 k_1 q_11 (ix_tb_at tb_X12_askAll 14 rfl) (pc1 := 24) rfl ?_
    refine ix_iload_n (i := 2) (j := 2) X (ix_tb_at tb_X12_askAll 15 rfl) rfl rfl (pc1 := 25) rfl ?_
    obtain ⟨k_12, h⟩ := ix_ck_some h
    refine iz_iald X k_12 (ix_tb_at tb_X12_askAll 16 rfl) (pc1 := 26) rfl ?_
    obtain ⟨k_13, h⟩ := ix_ck_some h
    obtain ⟨d_14, e_15, h⟩ := ix_lt_ex h
    refine iz_iast X k_13 (ix_tb_at tb_X12_askAll 17 rfl) e_15 (pc1 := 27) rfl ?_
    obtain ⟨x2_16, e_17, h⟩ := ix_lt_ex h
    refine ix_iinc (i := 2) (j := 2) (v := x2_16) (L1 := [(2, .int x2_16), (0, .ref (K.2.2.1 + a0)), (1, .int x1)]) X (ix_tb_at tb_X12_askAll 18 rfl) rfl (by rw [oi_1]; exact e_17.symm) (Nat.le_of_ble_eq_true rfl) rfl (pc1 := 30) rfl ?_
    refine ix_goto (tgt := 2) X (ix_tb_at tb_X12_askAll 19 rfl) (by decide) ?_
    refine ix_sub (L1 := [(0, .ref (K.2.2.1 + a0)), (1, .int x1), (2, .int x2_16)]) [1, 2, 0] rfl ?_
    exact hrec2 x2_16 d_14 h
theorem t_X12_askAll_2 {l : Launch} {p : Program} {e : Env} {s : State} {m : MethodId} {args : Array Value} {below : List Frame} {meth : Method} {c : Code} {K : ix_Cx} (hKp : ix_Kp K) {n : Nat} {z : ix_Z} (X : ix_X p s m args c K cX12_askAll RX12 3) (hr : meth.sig.returnType = (none : Option Jvm.ClassFile.FieldType)) (hlk : meth.locks = false)  {a0 : Nat} {x1 : Int32} {d1 : ix_D2}  {x2 : Int32} {d : ix_D2} (h : f_X12_askAll_2 n z  a0 x1 x2 d = some d1) : ix_G p l e (ix_rm 0 0 0 0) s m args below meth c (MQ below (ix_Post K none (ix_w z d1)) args s 0 0 (ix_A K)) K 3 0 0 2 [(0, .ref (K.2.2.1 + a0)), (1, .int x1), (2, .int x2)] [] (ix_w z d) := by
  have key : ∀ (f : Nat) (x2 : Int32) (d : ix_D2), ix_fix (b_X12_askAll_2 n z  a0 x1) (fun _ _ => none) f x2 d = some d1 → ix_G p l e (ix_rm 0 0 0 0) s m args below meth c (MQ below (ix_Post K none (ix_w z d1)) args s 0 0 (ix_A K)) K 3 0 0 2 [(0, .ref (K.2.2.1 + a0)), (1, .int x1), (2, .int x2)] [] (ix_w z d) := by
    intro f
    induction f with
    | zero =>
      intro x2 d h
      have h : (none : Option (ix_D2)) = some d1 := h
      cases h
    | succ f ih =>
      intro x2 d h
      exact tb_X12_askAll_2 hKp X hr hlk (rec2 := ix_fix (b_X12_askAll_2 n z  a0 x1) (fun _ _ => none) f)  ih h
  exact key n x2 d h
set_option maxRecDepth 20000 in
theorem c_X12_askAll {l : Launch} {K : ix_Cx} (hKp : ix_Kp K) {n : Nat} {z : ix_Z} {a0 : Nat} {x1 : Int32} {d : ix_D2} {d1 : ix_D2} (h : f_X12_askAll n z a0 x1 d = some d1) : ix_M l K yX12_askAll cX12_askAll 3 (none : Option Jvm.ClassFile.FieldType) 0 0 0 0 [.ref (K.2.2.1 + a0), .int x1] (ix_w z d) none (ix_w z d1) := by
  refine ix_met mf_X12_askAll hKp (Nat.le_of_ble_eq_true rfl) ?_
  intro p e s m args below meth c hr hlk hnm X
  have X : ix_X p s m args c K cX12_askAll RX12 3 := X
  show ix_G p l e (ix_rm 0 0 0 0) s m args below meth c (MQ below (ix_Post K none (ix_w z d1)) args s 0 0 (ix_A K)) K 3 0 0 0 [(0, .ref (K.2.2.1 + a0)), (1, .int x1)] [] (ix_w z d)
  unfold f_X12_askAll at h
  refine ix_iconst (v := 0) X (ix_tb_at tb_X12_askAll 0 rfl) (by decide) (pc1 := 1) rfl ?_
  refine ix_istore_n (i := 2) (L1 := [(2, .int 0), (0, .ref (K.2.2.1 + a0)), (1, .int x1)]) X (ix_tb_at tb_X12_askAll 1 rfl) rfl (Nat.le_of_ble_eq_true rfl) rfl (pc1 := 2) rfl ?_
  refine ix_sub (L1 := [(0, .ref (K.2.2.1 + a0)), (1, .int x1), (2, .int 0)]) [1, 2, 0] rfl ?_
  exact t_X12_askAll_2 hKp X hr hlk  h
def tab_X12_takesStep : List (Nat × Instr × Nat) := [(0, .aload_n 0, 1), (1, .getfield 490, 3), (4, .ifCond .ne 5, 3), (7, .iconst 0, 1), (8, .ireturn, 1), (9, .aload_n 0, 1), (10, .dup, 1), (11, .getfield 490, 3), (14, .iconst 1, 1), (15, .isub, 1), (16, .putfield 490, 3), (19, .aload_n 0, 1), (20, .getfield 195, 3), (23, .bipush 10, 2), (25, .iload_n 1, 1), (26, .imul, 1), (27, .iconst 1, 1), (28, .iadd, 1), (29, .dup2, 1), (30, .iaload, 1), (31, .iconst 1, 1), (32, .iadd, 1), (33, .iastore, 1), (34, .iconst 1, 1), (35, .ireturn, 1)]
theorem tb_X12_takesStep : ix_tab cX12_takesStep tab_X12_takesStep := by
  unfold ix_tab
  decide +kernel
noncomputable def f_X12_takesStep (n : Nat) (z : ix_Z) (a0 : Nat) (x1 : Int32) (d : ix_D2) : Option (Int32 × ix_D2) :=
  ix_ck (ix_ok z [11] a0) (ix_if (d.1 a0 89 = 0) (some (0, d)) (ix_lt (ix_di d a0 89 ((d.1 a0 89) - 1)) (fun d_3 => ix_bd1 (z.1 a0 90) (fun b_5 => ix_ck (ix_ix z 20 b_5 ((10 * x1) + 1)) (ix_lt (ix_di d_3 b_5 (ix_n ((10 * x1) + 1)) ((d_3.1 b_5 (ix_n ((10 * x1) + 1))) + 1)) (fun d_8 => some (1, d_8)))))))
set_option maxRecDepth 20000 in
theorem c_X12_takesStep {l : Launch} {K : ix_Cx} (hKp : ix_Kp K) {n : Nat} {z : ix_Z} {a0 : Nat} {x1 : Int32} {d : ix_D2} {r : Int32} {d1 : ix_D2} (h : f_X12_takesStep n z a0 x1 d = some (r, d1)) : ix_M l K yX12_takesStep cX12_takesStep 2 (some .boolean) 0 0 0 0 [.ref (K.2.2.1 + a0), .int x1] (ix_w z d) (some (.int r)) (ix_w z d1) := by
  refine ix_met mf_X12_takesStep hKp (Nat.le_of_ble_eq_true rfl) ?_
  intro p e s m args below meth c hr hlk hnm X
  have X : ix_X p s m args c K cX12_takesStep RX12 2 := X
  show ix_G p l e (ix_rm 0 0 0 0) s m args below meth c (MQ below (ix_Post K (some (.int r)) (ix_w z d1)) args s 0 0 (ix_A K)) K 2 0 0 0 [(0, .ref (K.2.2.1 + a0)), (1, .int x1)] [] (ix_w z d)
  unfold f_X12_takesStep at h
  refine ix_aload_n (i := 0) (j := 0) X (ix_tb_at tb_X12_takesStep 0 rfl) rfl rfl (pc1 := 1) rfl ?_
  obtain ⟨k_1, h⟩ := ix_ck_some h
  refine iz_getI X fl_RX12_490 k_1 (ix_tb_at tb_X12_takesStep 1 rfl) (pc1 := 4) rfl ?_
  refine ix_if_ne (tgt := 9) X (ix_tb_at tb_X12_takesStep 2 rfl) (by decide) (pc1 := 7) rfl (fun q_2 => ?_) (fun q_2 => ?_)
  · have h := ix_iff q_2 h
    refine ix_aload_n (i := 0) (j := 0) X (ix_tb_at tb_X12_takesStep 5 rfl) rfl rfl (pc1 := 10) rfl ?_
    refine ix_dup X (ix_tb_at tb_X12_takesStep 6 rfl) rfl (pc1 := 11) rfl ?_
    refine iz_getI X fl_RX12_490 k_1 (ix_tb_at tb_X12_takesStep 7 rfl) (pc1 := 14) rfl ?_
    refine ix_iconst (v := 1) X (ix_tb_at tb_X12_takesStep 8 rfl) (by decide) (pc1 := 15) rfl ?_
    refine ix_isub X (ix_tb_at tb_X12_takesStep 9 rfl) (pc1 := 16) rfl ?_
    obtain ⟨d_3, e_4, h⟩ := ix_lt_ex h
    refine iz_putI X fp_RX12_490 k_1 (ix_tb_at tb_X12_takesStep 10 rfl) e_4 (pc1 := 19) rfl ?_
    refine ix_aload_n (i := 0) (j := 0) X (ix_tb_at tb_X12_takesStep 11 rfl) rfl rfl (pc1 := 20) rfl ?_
    obtain ⟨b_5, q_6, h⟩ := ix_bd1_ex h
    refine iz_getR X fl_RX12_195 k_1 q_6 (ix_tb_at tb_X12_takesStep 12 rfl) (pc1 := 23) rfl ?_
    refine ix_bipush (v := 10) X (ix_tb_at tb_X12_takesStep 13 rfl) (by decide) (pc1 := 25) rfl ?_
    refine ix_iload_n (i := 1) (j := 1) X (ix_tb_at tb_X12_takesStep 14 rfl) rfl rfl (pc1 := 26) rfl ?_
    refine ix_imul X (ix_tb_at tb_X12_takesStep 15 rfl) (pc1 := 27) rfl ?_
    refine ix_iconst (v := 1) X (ix_tb_at tb_X12_takesStep 16 rfl) (by decide) (pc1 := 28) rfl ?_
    refine ix_iadd X (ix_tb_at tb_X12_takesStep 17 rfl) (pc1 := 29) rfl ?_
    refine ix_dup2 X (ix_tb_at tb_X12_takesStep 18 rfl) rfl rfl (pc1 := 30) rfl ?_
    obtain ⟨k_7, h⟩ := ix_ck_some h
    refine iz_iald X k_7 (ix_tb_at tb_X12_takesStep 19 rfl) (pc1 := 31) rfl ?_
    refine ix_iconst (v := 1) X (ix_tb_at tb_X12_takesStep 20 rfl) (by decide) (pc1 := 32) rfl ?_
    refine ix_iadd X (ix_tb_at tb_X12_takesStep 21 rfl) (pc1 := 33) rfl ?_
    obtain ⟨d_8, e_9, h⟩ := ix_lt_ex h
    refine iz_iast X k_7 (ix_tb_at tb_X12_takesStep 22 rfl) e_9 (pc1 := 34) rfl ?_
    refine ix_iconst (v := 1) X (ix_tb_at tb_X12_takesStep 23 rfl) (by decide) (pc1 := 35) rfl ?_
    exact ix_zret X hr hlk (by decide) (ix_r2 (f := fun r => some (.int r)) (g := ix_w z) h) (ix_tb_at tb_X12_takesStep 24 rfl)
  · have h := ix_ift q_2 h
    refine ix_iconst (v := 0) X (ix_tb_at tb_X12_takesStep 3 rfl) (by decide) (pc1 := 8) rfl ?_
    exact ix_zret X hr hlk (by decide) (ix_r2 (f := fun r => some (.int r)) (g := ix_w z) h) (ix_tb_at tb_X12_takesStep 4 rfl)
def tab_X12_hasRoom : List (Nat × Instr × Nat) := [(0, .aload_n 0, 1), (1, .getfield 168, 3), (4, .iload_n 1, 1), (5, .iaload, 1), (6, .sipush 800, 3), (9, .if_icmp .ge 32, 3), (12, .aload_n 0, 1), (13, .getfield 162, 3), (16, .sipush 801, 3), (19, .iload_n 1, 1), (20, .imul, 1), (21, .aload_n 0, 1), (22, .getfield 168, 3), (25, .iload_n 1, 1), (26, .iaload, 1), (27, .iadd, 1), (28, .iaload, 1), (29, .iload_n 2, 1), (30, .iadd, 1), (31, .sipush 8000, 3), (34, .if_icmp .gt 7, 3), (37, .iconst 1, 1), (38, .goto 4, 3), (41, .iconst 0, 1), (42, .ireturn, 1)]
theorem tb_X12_hasRoom : ix_tab cX12_hasRoom tab_X12_hasRoom := by
  unfold ix_tab
  decide +kernel
noncomputable def f_X12_hasRoom (n : Nat) (z : ix_Z) (a0 : Nat) (x1 : Int32) (x2 : Int32) (d : ix_D2) : Option (Int32 × ix_D2) :=
  ix_ck (ix_ok z [11] a0) (ix_bd1 (z.1 a0 80) (fun b_2 => ix_ck (ix_ix z 20 b_2 x1) (ix_if (800 ≤ d.1 b_2 (ix_n x1)) (some (0, d)) (ix_bd1 (z.1 a0 78) (fun b_6 => ix_ck (ix_ix z 20 b_6 ((801 * x1) + (d.1 b_2 (ix_n x1)))) (ix_if (8000 < (d.1 b_6 (ix_n ((801 * x1) + (d.1 b_2 (ix_n x1))))) + x2) (some (0, d)) (some (1, d))))))))
set_option maxRecDepth 20000 in
theorem c_X12_hasRoom {l : Launch} {K : ix_Cx} (hKp : ix_Kp K) {n : Nat} {z : ix_Z} {a0 : Nat} {x1 : Int32} {x2 : Int32} {d : ix_D2} {r : Int32} {d1 : ix_D2} (h : f_X12_hasRoom n z a0 x1 x2 d = some (r, d1)) : ix_M l K yX12_hasRoom cX12_hasRoom 3 (some .boolean) 0 0 0 0 [.ref (K.2.2.1 + a0), .int x1, .int x2] (ix_w z d) (some (.int r)) (ix_w z d1) := by
  refine ix_met mf_X12_hasRoom hKp (Nat.le_of_ble_eq_true rfl) ?_
  intro p e s m args below meth c hr hlk hnm X
  have X : ix_X p s m args c K cX12_hasRoom RX12 3 := X
  show ix_G p l e (ix_rm 0 0 0 0) s m args below meth c (MQ below (ix_Post K (some (.int r)) (ix_w z d1)) args s 0 0 (ix_A K)) K 3 0 0 0 [(0, .ref (K.2.2.1 + a0)), (1, .int x1), (2, .int x2)] [] (ix_w z d)
  unfold f_X12_hasRoom at h
  refine ix_aload_n (i := 0) (j := 0) X (ix_tb_at tb_X12_hasRoom 0 rfl) rfl rfl (pc1 := 1) rfl ?_
  obtain ⟨k_1, h⟩ := ix_ck_some h
  obtain ⟨b_2, q_3, h⟩ := ix_bd1_ex h
  refine iz_getR X fl_RX12_168 k_1 q_3 (ix_tb_at tb_X12_hasRoom 1 rfl) (pc1 := 4) rfl ?_
  refine ix_iload_n (i := 1) (j := 1) X (ix_tb_at tb_X12_hasRoom 2 rfl) rfl rfl (pc1 := 5) rfl ?_
  obtain ⟨k_4, h⟩ := ix_ck_some h
  refine iz_iald X k_4 (ix_tb_at tb_X12_hasRoom 3 rfl) (pc1 := 6) rfl ?_
  refine ix_sipush (v := 800) X (ix_tb_at tb_X12_hasRoom 4 rfl) (by decide) (pc1 := 9) rfl ?_
  refine ix_icmp_ge (tgt := 41) X (ix_tb_at tb_X12_hasRoom 5 rfl) (by decide) (pc1 := 12) rfl (fun q_5 => ?_) (fun q_5 => ?_)
  · have h := ix_ift q_5 h
    refine ix_iconst (v := 0) X (ix_tb_at tb_X12_hasRoom 23 rfl) (by decide) (pc1 := 42) rfl ?_
    exact ix_zret X hr hlk (by decide) (ix_r2 (f := fun r => some (.int r)) (g := ix_w z) h) (ix_tb_at tb_X12_hasRoom 24 rfl)
  · have h := ix_iff q_5 h
    refine ix_aload_n (i := 0) (j := 0) X (ix_tb_at tb_X12_hasRoom 6 rfl) rfl rfl (pc1 := 13) rfl ?_
    obtain ⟨b_6, q_7, h⟩ := ix_bd1_ex h
    refine iz_getR X fl_RX12_162 k_1 q_7 (ix_tb_at tb_X12_hasRoom 7 rfl) (pc1 := 16) rfl ?_
    refine ix_sipush (v := 801) X (ix_tb_at tb_X12_hasRoom 8 rfl) (by decide) (pc1 := 19) rfl ?_
    refine ix_iload_n (i := 1) (j := 1) X (ix_tb_at tb_X12_hasRoom 9 rfl) rfl rfl (pc1 := 20) rfl ?_
    refine ix_imul X (ix_tb_at tb_X12_hasRoom 10 rfl) (pc1 := 21) rfl ?_
    refine ix_aload_n (i := 0) (j := 0) X (ix_tb_at tb_X12_hasRoom 11 rfl) rfl rfl (pc1 := 22) rfl ?_
    refine iz_getR X fl_RX12_168 k_1 q_3 (ix_tb_at tb_X12_hasRoom 12 rfl) (pc1 := 25) rfl ?_
    refine ix_iload_n (i := 1) (j := 1) X (ix_tb_at tb_X12_hasRoom 13 rfl) rfl rfl (pc1 := 26) rfl ?_
    refine iz_iald X k_4 (ix_tb_at tb_X12_hasRoom 14 rfl) (pc1 := 27) rfl ?_
    refine ix_iadd X (ix_tb_at tb_X12_hasRoom 15 rfl) (pc1 := 28) rfl ?_
    obtain ⟨k_8, h⟩ := ix_ck_some h
    refine iz_iald X k_8 (ix_tb_at tb_X12_hasRoom 16 rfl) (pc1 := 29) rfl ?_
    refine ix_iload_n (i := 2) (j := 2) X (ix_tb_at tb_X12_hasRoom 17 rfl) rfl rfl (pc1 := 30) rfl ?_
    refine ix_iadd X (ix_tb_at tb_X12_hasRoom 18 rfl) (pc1 := 31) rfl ?_
    refine ix_sipush (v := 8000) X (ix_tb_at tb_X12_hasRoom 19 rfl) (by decide) (pc1 := 34) rfl ?_
    refine ix_icmp_gt (tgt := 41) X (ix_tb_at tb_X12_hasRoom 20 rfl) (by decide) (pc1 := 37) rfl (fun q_9 => ?_) (fun q_9 => ?_)
    · have h := ix_ift q_9 h
      refine ix_iconst (v := 0) X (ix_tb_at tb_X12_hasRoom 23 rfl) (by decide) (pc1 := 42) rfl ?_
      exact ix_zret X hr hlk (by decide) (ix_r2 (f := fun r => some (.int r)) (g := ix_w z) h) (ix_tb_at tb_X12_hasRoom 24 rfl)
    · have h := ix_iff q_9 h
      refine ix_iconst (v := 1) X (ix_tb_at tb_X12_hasRoom 21 rfl) (by decide) (pc1 := 38) rfl ?_
      refine ix_goto (tgt := 42) X (ix_tb_at tb_X12_hasRoom 22 rfl) (by decide) ?_
      exact ix_zret X hr hlk (by decide) (ix_r2 (f := fun r => some (.int r)) (g := ix_w z) h) (ix_tb_at tb_X12_hasRoom 24 rfl)
def tab_X12_record : List (Nat × Instr × Nat) := [(0, .aload_n 0, 1), (1, .getfield 168, 3), (4, .iload_n 1, 1), (5, .iaload, 1), (6, .istore_n 3, 1), (7, .aload_n 0, 1), (8, .getfield 162, 3), (11, .sipush 801, 3), (14, .iload_n 1, 1), (15, .imul, 1), (16, .iload_n 3, 1), (17, .iadd, 1), (18, .iaload, 1), (19, .istore 4, 2), (21, .iconst 0, 1), (22, .istore 5, 2), (24, .iload 5, 2), (26, .iload_n 2, 1), (27, .if_icmp .ge 32, 3), (30, .aload_n 0, 1), (31, .getfield 165, 3), (34, .sipush 8050, 3), (37, .iload_n 1, 1), (38, .imul, 1), (39, .iload 4, 2), (41, .iadd, 1), (42, .iload 5, 2), (44, .iadd, 1), (45, .aload_n 0, 1), (46, .getfield 207, 3), (49, .iload 5, 2), (51, .iaload, 1), (52, .iastore, 1), (53, .iinc 5 1, 3), (56, .goto (-32), 3), (59, .aload_n 0, 1), (60, .getfield 162, 3), (63, .sipush 801, 3), (66, .iload_n 1, 1), (67, .imul, 1), (68, .iload_n 3, 1), (69, .iadd, 1), (70, .iconst 1, 1), (71, .iadd, 1), (72, .iload 4, 2), (74, .iload_n 2, 1), (75, .iadd, 1), (76, .iastore, 1), (77, .iconst 0, 1), (78, .istore 5, 2), (80, .iload 5, 2), (82, .bipush 8, 2), (84, .if_icmp .ge 34, 3), (87, .aload_n 0, 1), (88, .getfield 180, 3), (91, .bipush 8, 2), (93, .sipush 800, 3), (96, .iload_n 1, 1), (97, .imul, 1), (98, .iload_n 3, 1), (99, .iadd, 1), (100, .imul, 1), (101, .iload 5, 2), (103, .iadd, 1), (104, .aload_n 0, 1), (105, .getfield 186, 3), (108, .iload 5, 2), (110, .laload, 1), (111, .lastore, 1), (112, .iinc 5 1, 3), (115, .goto (-35), 3), (118, .aload_n 0, 1), (119, .getfield 168, 3), (122, .iload_n 1, 1), (123, .dup2, 1), (124, .iaload, 1), (125, .iconst 1, 1), (126, .iadd, 1), (127, .iastore, 1), (128, .return_, 1)]
theorem tb_X12_record : ix_tab cX12_record tab_X12_record := by
  unfold ix_tab
  decide +kernel
noncomputable def b_X12_record_80 (n : Nat) (z : ix_Z)  (a0 : Nat) (x1 : Int32) (x3 : Int32) (rec80 : Int32 → ix_D2 → Option (ix_D2)) (x5 : Int32) (d : ix_D2) : Option (ix_D2) :=
  ix_if (8 ≤ x5) (ix_ck (ix_ok z [11] a0) (ix_bd1 (z.1 a0 80) (fun b_21 => ix_ck (ix_ix z 20 b_21 x1) (ix_lt (ix_di d b_21 (ix_n x1) ((d.1 b_21 (ix_n x1)) + 1)) (fun d_24 => some d_24))))) (ix_ck (ix_ok z [11] a0) (ix_bd1 (z.1 a0 84) (fun b_27 => ix_bd1 (z.1 a0 86) (fun b_29 => ix_ck (ix_ix z 23 b_29 x5) (ix_ck (ix_ix z 23 b_27 ((8 * ((800 * x1) + x3)) + x5)) (ix_lt (ix_dj d b_27 (ix_n ((8 * ((800 * x1) + x3)) + x5)) (d.2 b_29 (ix_n x5))) (fun d_33 => ix_lt (x5 + 1) (fun x5_35 => rec80 x5_35 d_33))))))))
noncomputable def f_X12_record_80 (n : Nat) (z : ix_Z)  (a0 : Nat) (x1 : Int32) (x3 : Int32) (x5 : Int32) (d : ix_D2) : Option (ix_D2) := ix_fix (b_X12_record_80 n z  a0 x1 x3) (fun _ _ => none) n x5 d
noncomputable def b_X12_record_24 (n : Nat) (z : ix_Z)  (a0 : Nat) (x1 : Int32) (x2 : Int32) (x3 : Int32) (x4 : Int32) (rec24 : Int32 → ix_D2 → Option (ix_D2)) (x5 : Int32) (d : ix_D2) : Option (ix_D2) :=
  ix_if (x2 ≤ x5) (ix_ck (ix_ok z [11] a0) (ix_bd1 (z.1 a0 78) (fun b_14 => ix_ck (ix_ix z 20 b_14 (((801 * x1) + x3) + 1)) (ix_lt (ix_di d b_14 (ix_n (((801 * x1) + x3) + 1)) (x4 + x2)) (fun d_17 => f_X12_record_80 n z  a0 x1 x3 0 d_17))))) (ix_ck (ix_ok z [11] a0) (ix_bd1 (z.1 a0 79) (fun b_38 => ix_bd1 (z.1 a0 101) (fun b_40 => ix_ck (ix_ix z 20 b_40 x5) (ix_ck (ix_ix z 20 b_38 (((8050 * x1) + x4) + x5)) (ix_lt (ix_di d b_38 (ix_n (((8050 * x1) + x4) + x5)) (d.1 b_40 (ix_n x5))) (fun d_44 => ix_lt (x5 + 1) (fun x5_46 => rec24 x5_46 d_44))))))))
noncomputable def f_X12_record_24 (n : Nat) (z : ix_Z)  (a0 : Nat) (x1 : Int32) (x2 : Int32) (x3 : Int32) (x4 : Int32) (x5 : Int32) (d : ix_D2) : Option (ix_D2) := ix_fix (b_X12_record_24 n z  a0 x1 x2 x3 x4) (fun _ _ => none) n x5 d
noncomputable def f_X12_record (n : Nat) (z : ix_Z) (a0 : Nat) (x1 : Int32) (x2 : Int32) (d : ix_D2) : Option (ix_D2) :=
  ix_ck (ix_ok z [11] a0) (ix_bd1 (z.1 a0 80) (fun b_2 => ix_ck (ix_ix z 20 b_2 x1) (ix_lt (d.1 b_2 (ix_n x1)) (fun x3_5 => ix_bd1 (z.1 a0 78) (fun b_7 => ix_ck (ix_ix z 20 b_7 ((801 * x1) + x3_5)) (ix_lt (d.1 b_7 (ix_n ((801 * x1) + x3_5))) (fun x4_10 => f_X12_record_24 n z  a0 x1 x2 x3_5 x4_10 0 d)))))))
set_option maxRecDepth 20000 in
theorem tb_X12_record_80 {l : Launch} {p : Program} {e : Env} {s : State} {m : MethodId} {args : Array Value} {below : List Frame} {meth : Method} {c : Code} {K : ix_Cx} (hKp : ix_Kp K) {n : Nat} {z : ix_Z} (X : ix_X p s m args c K cX12_record RX12 6) (hr : meth.sig.returnType = (none : Option Jvm.ClassFile.FieldType)) (hlk : meth.locks = false)  {a0 : Nat} {x1 : Int32} {x3 : Int32} {rec80 : Int32 → ix_D2 → Option (ix_D2)} {d1 : ix_D2} (hrec80 : ∀ (x5 : Int32) (d : ix_D2), rec80 x5 d = some d1 → ix_G p l e (ix_rm 0 0 0 0) s m args below meth c (MQ below (ix_Post K none (ix_w z d1)) args s 0 0 (ix_A K)) K 6 0 0 80 [(0, .ref (K.2.2.1 + a0)), (1, .int x1), (3, .int x3), (5, .int x5)] [] (ix_w z d)) {x5 : Int32} {d : ix_D2} (h : b_X12_record_80 n z  a0 x1 x3 rec80 x5 d = some d1) : ix_G p l e (ix_rm 0 0 0 0) s m args below meth c (MQ below (ix_Post K none (ix_w z d1)) args s 0 0 (ix_A K)) K 6 0 0 80 [(0, .ref (K.2.2.1 + a0)), (1, .int x1), (3, .int x3), (5, .int x5)] [] (ix_w z d) := by
  unfold b_X12_record_80 at h
  refine ix_iload (i := 5) (j := 3) X (ix_tb_at tb_X12_record 50 rfl) rfl (pc1 := 82) rfl ?_
  refine ix_bipush (v := 8) X (ix_tb_at tb_X12_record 51 rfl) (by decide) (pc1 := 84) rfl ?_
  refine ix_icmp_ge (tgt := 118) X (ix_tb_at tb_X12_record 52 rfl) (by decide) (pc1 := 87) rfl (fun q_19 => ?_) (fun q_19 => ?_)
  · have h := ix_ift q_19 h
    refine ix_aload_n (i := 0) (j := 0) X (ix_tb_at tb_X12_record 71 rfl) rfl rfl (pc1 := 119) rfl ?_
    obtain ⟨k_20, h⟩ := ix_ck_some h
    obtain ⟨b_21, q_22, h⟩ := ix_bd1_ex h
    refine iz_getR X fl_RX12_168 k_20 q_22 (ix_tb_at tb_X12_record 72 rfl) (pc1 := 122) rfl ?_
    refine ix_iload_n (i := 1) (j := 1) X (ix_tb_at tb_X12_record 73 rfl) rfl rfl (pc1 := 123) rfl ?_
    refine ix_dup2 X (ix_tb_at tb_X12_record 74 rfl) rfl rfl (pc1 := 124) rfl ?_
    obtain ⟨k_23, h⟩ := ix_ck_some h
    refine iz_iald X k_23 (ix_tb_at tb_X12_record 75 rfl) (pc1 := 125) rfl ?_
    refine ix_iconst (v := 1) X (ix_tb_at tb_X12_record 76 rfl) (by decide) (pc1 := 126) rfl ?_
    refine ix_iadd X (ix_tb_at tb_X12_record 77 rfl) (pc1 := 127) rfl ?_
    obtain ⟨d_24, e_25, h⟩ := ix_lt_ex h
    refine iz_iast X k_23 (ix_tb_at tb_X12_record 78 rfl) e_25 (pc1 := 128) rfl ?_
    exact ix_vret X hr hlk (ix_r1 (g := ix_w z) h) (ix_tb_at tb_X12_record 79 rfl)
  · have h := ix_iff q_19 h
    refine ix_aload_n (i := 0) (j := 0) X (ix_tb_at tb_X12_record 53 rfl) rfl rfl (pc1 := 88) rfl ?_
    obtain ⟨k_26, h⟩ := ix_ck_some h
    obtain ⟨b_27, q_28, h⟩ := ix_bd1_ex h
    refine iz_getR X fl_RX12_180 k_26 q_28 (ix_tb_at tb_X12_record 54 rfl) (pc1 := 91) rfl ?_
    refine ix_bipush (v := 8) X (ix_tb_at tb_X12_record 55 rfl) (by decide) (pc1 := 93) rfl ?_
    refine ix_sipush (v := 800) X (ix_tb_at tb_X12_record 56 rfl) (by decide) (pc1 := 96) rfl ?_
    refine ix_iload_n (i := 1) (j := 1) X (ix_tb_at tb_X12_record 57 rfl) rfl rfl (pc1 := 97) rfl ?_
    refine ix_imul X (ix_tb_at tb_X12_record 58 rfl) (pc1 := 98) rfl ?_
    refine ix_iload_n (i := 3) (j := 2) X (ix_tb_at tb_X12_record 59 rfl) rfl rfl (pc1 := 99) rfl ?_
    refine ix_iadd X (ix_tb_at tb_X12_record 60 rfl) (pc1 := 100) rfl ?_
    refine ix_imul X (ix_tb_at tb_X12_record 61 rfl) (pc1 := 101) rfl ?_
    refine ix_iload (i := 5) (j := 3) X (ix_tb_at tb_X12_record 62 rfl) rfl (pc1 := 103) rfl ?_
    refine ix_iadd X (ix_tb_at tb_X12_record 63 rfl) (pc1 := 104) rfl ?_
    refine ix_aload_n (i := 0) (j := 0) X (ix_tb_at tb_X12_record 64 rfl) rfl rfl (pc1 := 105) rfl ?_
    obtain ⟨b_29, q_30, h⟩ := ix_bd1_ex h
    refine iz_getR X fl_RX12_186 k_26 q_30 (ix_tb_at tb_X12_record 65 rfl) (pc1 := 108) rfl ?_
    refine ix_iload (i := 5) (j := 3) X (ix_tb_at tb_X12_record 66 rfl) rfl (pc1 := 110) rfl ?_
    obtain ⟨k_31, h⟩ := ix_ck_some h
    refine iz_lald X k_31 (ix_tb_at tb_X12_record 67 rfl) (pc1 := 111) rfl ?_
    obtain ⟨k_32, h⟩ := ix_ck_some h
    obtain ⟨d_33, e_34, h⟩ := ix_lt_ex h
    refine iz_last X k_32 (ix_tb_at tb_X12_record 68 rfl) e_34 (pc1 := 112) rfl ?_
    obtain ⟨x5_35, e_36, h⟩ := ix_lt_ex h
    refine ix_iinc (i := 5) (j := 3) (v := x5_35) (L1 := [(5, .int x5_35), (0, .ref (K.2.2.1 + a0)), (1, .int x1), (3, .int x3)]) X (ix_tb_at tb_X12_record 69 rfl) rfl (by rw [oi_1]; exact e_36.symm) (Nat.le_of_ble_eq_true rfl) rfl (pc1 := 115) rfl ?_
    refine ix_goto (tgt := 80) X (ix_tb_at tb_X12_record 70 rfl) (by decide) ?_
    refine ix_sub (L1 := [(0, .ref (K.2.2.1 + a0)), (1, .int x1), (3, .int x3), (5, .int x5_35)]) [1, 2, 3, 0] rfl ?_
    exact hrec80 x5_35 d_33 h
theorem t_X12_record_80 {l : Launch} {p : Program} {e : Env} {s : State} {m : MethodId} {args : Array Value} {below : List Frame} {meth : Method} {c : Code} {K : ix_Cx} (hKp : ix_Kp K) {n : Nat} {z : ix_Z} (X : ix_X p s m args c K cX12_record RX12 6) (hr : meth.sig.returnType = (none : Option Jvm.ClassFile.FieldType)) (hlk : meth.locks = false)  {a0 : Nat} {x1 : Int32} {x3 : Int32} {d1 : ix_D2}  {x5 : Int32} {d : ix_D2} (h : f_X12_record_80 n z  a0 x1 x3 x5 d = some d1) : ix_G p l e (ix_rm 0 0 0 0) s m args below meth c (MQ below (ix_Post K none (ix_w z d1)) args s 0 0 (ix_A K)) K 6 0 0 80 [(0, .ref (K.2.2.1 + a0)), (1, .int x1), (3, .int x3), (5, .int x5)] [] (ix_w z d) := by
  have key : ∀ (f : Nat) (x5 : Int32) (d : ix_D2), ix_fix (b_X12_record_80 n z  a0 x1 x3) (fun _ _ => none) f x5 d = some d1 → ix_G p l e (ix_rm 0 0 0 0) s m args below meth c (MQ below (ix_Post K none (ix_w z d1)) args s 0 0 (ix_A K)) K 6 0 0 80 [(0, .ref (K.2.2.1 + a0)), (1, .int x1), (3, .int x3), (5, .int x5)] [] (ix_w z d) := by
    intro f
    induction f with
    | zero =>
      intro x5 d h
      have h : (none : Option (ix_D2)) = some d1 := h
      cases h
    | succ f ih =>
      intro x5 d h
      exact tb_X12_record_80 hKp X hr hlk (rec80 := ix_fix (b_X12_record_80 n z  a0 x1 x3) (fun _ _ => none) f)  ih h
  exact key n x5 d h
set_option maxRecDepth 20000 in
theorem tb_X12_record_24 {l : Launch} {p : Program} {e : Env} {s : State} {m : MethodId} {args : Array Value} {below : List Frame} {meth : Method} {c : Code} {K : ix_Cx} (hKp : ix_Kp K) {n : Nat} {z : ix_Z} (X : ix_X p s m args c K cX12_record RX12 6) (hr : meth.sig.returnType = (none : Option Jvm.ClassFile.FieldType)) (hlk : meth.locks = false)  {a0 : Nat} {x1 : Int32} {x2 : Int32} {x3 : Int32} {x4 : Int32} {rec24 : Int32 → ix_D2 → Option (ix_D2)} {d1 : ix_D2} (hrec24 : ∀ (x5 : Int32) (d : ix_D2), rec24 x5 d = some d1 → ix_G p l e (ix_rm 0 0 0 0) s m args below meth c (MQ below (ix_Post K none (ix_w z d1)) args s 0 0 (ix_A K)) K 6 0 0 24 [(0, .ref (K.2.2.1 + a0)), (1, .int x1), (2, .int x2), (3, .int x3), (4, .int x4), (5, .int x5)] [] (ix_w z d)) {x5 : Int32} {d : ix_D2} (h : b_X12_record_24 n z  a0 x1 x2 x3 x4 rec24 x5 d = some d1) : ix_G p l e (ix_rm 0 0 0 0) s m args below meth c (MQ below (ix_Post K none (ix_w z d1)) args s 0 0 (ix_A K)) K 6 0 0 24 [(0, .ref (K.2.2.1 + a0)), (1, .int x1), (2, .int x2), (3, .int x3), (4, .int x4), (5, .int x5)] [] (ix_w z d) := by
  unfold b_X12_record_24 at h
  refine ix_iload (i := 5) (j := 5) X (ix_tb_at tb_X12_record 16 rfl) rfl (pc1 := 26) rfl ?_
  refine ix_iload_n (i := 2) (j := 2) X (ix_tb_at tb_X12_record 17 rfl) rfl rfl (pc1 := 27) rfl ?_
  refine ix_icmp_ge (tgt := 59) X (ix_tb_at tb_X12_record 18 rfl) (by decide) (pc1 := 30) rfl (fun q_12 => ?_) (fun q_12 => ?_)
  · have h := ix_ift q_12 h
    refine ix_aload_n (i := 0) (j := 0) X (ix_tb_at tb_X12_record 35 rfl) rfl rfl (pc1 := 60) rfl ?_
    obtain ⟨k_13, h⟩ := ix_ck_some h
    obtain ⟨b_14, q_15, h⟩ := ix_bd1_ex h
    refine iz_getR X fl_RX12_162 k_13 q_15 (ix_tb_at tb_X12_record 36 rfl) (pc1 := 63) rfl ?_
    refine ix_sipush (v := 801) X (ix_tb_at tb_X12_record 37 rfl) (by decide) (pc1 := 66) rfl ?_
    refine ix_iload_n (i := 1) (j := 1) X (ix_tb_at tb_X12_record 38 rfl) rfl rfl (pc1 := 67) rfl ?_
    refine ix_imul X (ix_tb_at tb_X12_record 39 rfl) (pc1 := 68) rfl ?_
    refine ix_iload_n (i := 3) (j := 3) X (ix_tb_at tb_X12_record 40 rfl) rfl rfl (pc1 := 69) rfl ?_
    refine ix_iadd X (ix_tb_at tb_X12_record 41 rfl) (pc1 := 70) rfl ?_
    refine ix_iconst (v := 1) X (ix_tb_at tb_X12_record 42 rfl) (by decide) (pc1 := 71) rfl ?_
    refine ix_iadd X (ix_tb_at tb_X12_record 43 rfl) (pc1 := 72) rfl ?_
    refine ix_iload (i := 4) (j := 4) X (ix_tb_at tb_X12_record 44 rfl) rfl (pc1 := 74) rfl ?_
    refine ix_iload_n (i := 2) (j := 2) X (ix_tb_at tb_X12_record 45 rfl) rfl rfl (pc1 := 75) rfl ?_
    refine ix_iadd X (ix_tb_at tb_X12_record 46 rfl) (pc1 := 76) rfl ?_
    obtain ⟨k_16, h⟩ := ix_ck_some h
    obtain ⟨d_17, e_18, h⟩ := ix_lt_ex h
    refine iz_iast X k_16 (ix_tb_at tb_X12_record 47 rfl) e_18 (pc1 := 77) rfl ?_
    refine ix_iconst (v := 0) X (ix_tb_at tb_X12_record 48 rfl) (by decide) (pc1 := 78) rfl ?_
    refine ix_istore (i := 5) (L1 := [(5, .int 0), (0, .ref (K.2.2.1 + a0)), (1, .int x1), (2, .int x2), (3, .int x3), (4, .int x4)]) X (ix_tb_at tb_X12_record 49 rfl) (Nat.le_of_ble_eq_true rfl) rfl (pc1 := 80) rfl ?_
    refine ix_sub (L1 := [(0, .ref (K.2.2.1 + a0)), (1, .int x1), (3, .int x3), (5, .int 0)]) [1, 2, 4, 0] rfl ?_
    exact t_X12_record_80 hKp X hr hlk  h
  · have h := ix_iff q_12 h
    refine ix_aload_n (i := 0) (j := 0) X (ix_tb_at tb_X12_record 19 rfl) rfl rfl (pc1 := 31) rfl ?_
    obtain ⟨k_37, h⟩ := ix_ck_some h
    obtain ⟨b_38, q_39, h⟩ := ix_bd1_ex h
    refine iz_getR X fl_RX12_165 k_37 q_39 (ix_tb_at tb_X12_record 20 rfl) (pc1 := 34) rfl ?_
    refine ix_sipush (v := 8050) X (ix_tb_at tb_X12_record 21 rfl) (by decide) (pc1 := 37) rfl ?_
    refine ix_iload_n (i := 1) (j := 1) X (ix_tb_at tb_X12_record 22 rfl) rfl rfl (pc1 := 38) rfl ?_
    refine ix_imul X (ix_tb_at tb_X12_record 23 rfl) (pc1 := 39) rfl ?_
    refine ix_iload (i := 4) (j := 4) X (ix_tb_at tb_X12_record 24 rfl) rfl (pc1 := 41) rfl ?_
    refine ix_iadd X (ix_tb_at tb_X12_record 25 rfl) (pc1 := 42) rfl ?_
    refine ix_iload (i := 5) (j := 5) X (ix_tb_at tb_X12_record 26 rfl) rfl (pc1 := 44) rfl ?_
    refine ix_iadd X (ix_tb_at tb_X12_record 27 rfl) (pc1 := 45) rfl ?_
    refine ix_aload_n (i := 0) (j := 0) X (ix_tb_at tb_X12_record 28 rfl) rfl rfl (pc1 := 46) rfl ?_
    obtain ⟨b_40, q_41, h⟩ := ix_bd1_ex h
    refine iz_getR X fl_RX12_207 k_37 q_41 (ix_tb_at tb_X12_record 29 rfl) (pc1 := 49) rfl ?_
    refine ix_iload (i := 5) (j := 5) X (ix_tb_at tb_X12_record 30 rfl) rfl (pc1 := 51) rfl ?_
    obtain ⟨k_42, h⟩ := ix_ck_some h
    refine iz_iald X k_42 (ix_tb_at tb_X12_record 31 rfl) (pc1 := 52) rfl ?_
    obtain ⟨k_43, h⟩ := ix_ck_some h
    obtain ⟨d_44, e_45, h⟩ := ix_lt_ex h
    refine iz_iast X k_43 (ix_tb_at tb_X12_record 32 rfl) e_45 (pc1 := 53) rfl ?_
    obtain ⟨x5_46, e_47, h⟩ := ix_lt_ex h
    refine ix_iinc (i := 5) (j := 5) (v := x5_46) (L1 := [(5, .int x5_46), (0, .ref (K.2.2.1 + a0)), (1, .int x1), (2, .int x2), (3, .int x3), (4, .int x4)]) X (ix_tb_at tb_X12_record 33 rfl) rfl (by rw [oi_1]; exact e_47.symm) (Nat.le_of_ble_eq_true rfl) rfl (pc1 := 56) rfl ?_
    refine ix_goto (tgt := 24) X (ix_tb_at tb_X12_record 34 rfl) (by decide) ?_
    refine ix_sub (L1 := [(0, .ref (K.2.2.1 + a0)), (1, .int x1), (2, .int x2), (3, .int x3), (4, .int x4), (5, .int x5_46)]) [1, 2, 3, 4, 5, 0] rfl ?_
    exact hrec24 x5_46 d_44 h
theorem t_X12_record_24 {l : Launch} {p : Program} {e : Env} {s : State} {m : MethodId} {args : Array Value} {below : List Frame} {meth : Method} {c : Code} {K : ix_Cx} (hKp : ix_Kp K) {n : Nat} {z : ix_Z} (X : ix_X p s m args c K cX12_record RX12 6) (hr : meth.sig.returnType = (none : Option Jvm.ClassFile.FieldType)) (hlk : meth.locks = false)  {a0 : Nat} {x1 : Int32} {x2 : Int32} {x3 : Int32} {x4 : Int32} {d1 : ix_D2}  {x5 : Int32} {d : ix_D2} (h : f_X12_record_24 n z  a0 x1 x2 x3 x4 x5 d = some d1) : ix_G p l e (ix_rm 0 0 0 0) s m args below meth c (MQ below (ix_Post K none (ix_w z d1)) args s 0 0 (ix_A K)) K 6 0 0 24 [(0, .ref (K.2.2.1 + a0)), (1, .int x1), (2, .int x2), (3, .int x3), (4, .int x4), (5, .int x5)] [] (ix_w z d) := by
  have key : ∀ (f : Nat) (x5 : Int32) (d : ix_D2), ix_fix (b_X12_record_24 n z  a0 x1 x2 x3 x4) (fun _ _ => none) f x5 d = some d1 → ix_G p l e (ix_rm 0 0 0 0) s m args below meth c (MQ below (ix_Post K none (ix_w z d1)) args s 0 0 (ix_A K)) K 6 0 0 24 [(0, .ref (K.2.2.1 + a0)), (1, .int x1), (2, .int x2), (3, .int x3), (4, .int x4), (5, .int x5)] [] (ix_w z d) := by
    intro f
    induction f with
    | zero =>
      intro x5 d h
      have h : (none : Option (ix_D2)) = some d1 := h
      cases h
    | succ f ih =>
      intro x5 d h
      exact tb_X12_record_24 hKp X hr hlk (rec24 := ix_fix (b_X12_record_24 n z  a0 x1 x2 x3 x4) (fun _ _ => none) f)  ih h
  exact key n x5 d h
set_option maxRecDepth 20000 in
theorem c_X12_record {l : Launch} {K : ix_Cx} (hKp : ix_Kp K) {n : Nat} {z : ix_Z} {a0 : Nat} {x1 : Int32} {x2 : Int32} {d : ix_D2} {d1 : ix_D2} (h : f_X12_record n z a0 x1 x2 d = some d1) : ix_M l K yX12_record cX12_record 6 (none : Option Jvm.ClassFile.FieldType) 0 0 0 0 [.ref (K.2.2.1 + a0), .int x1, .int x2] (ix_w z d) none (ix_w z d1) := by
  refine ix_met mf_X12_record hKp (Nat.le_of_ble_eq_true rfl) ?_
  intro p e s m args below meth c hr hlk hnm X
  have X : ix_X p s m args c K cX12_record RX12 6 := X
  show ix_G p l e (ix_rm 0 0 0 0) s m args below meth c (MQ below (ix_Post K none (ix_w z d1)) args s 0 0 (ix_A K)) K 6 0 0 0 [(0, .ref (K.2.2.1 + a0)), (1, .int x1), (2, .int x2)] [] (ix_w z d)
  unfold f_X12_record at h
  refine ix_aload_n (i := 0) (j := 0) X (ix_tb_at tb_X12_record 0 rfl) rfl rfl (pc1 := 1) rfl ?_
  obtain ⟨k_1, h⟩ := ix_ck_some h
  obtain ⟨b_2, q_3, h⟩ := ix_bd1_ex h
  refine iz_getR X fl_RX12_168 k_1 q_3 (ix_tb_at tb_X12_record 1 rfl) (pc1 := 4) rfl ?_
  refine ix_iload_n (i := 1) (j := 1) X (ix_tb_at tb_X12_record 2 rfl) rfl rfl (pc1 := 5) rfl ?_
  obtain ⟨k_4, h⟩ := ix_ck_some h
  refine iz_iald X k_4 (ix_tb_at tb_X12_record 3 rfl) (pc1 := 6) rfl ?_
  obtain ⟨x3_5, e_6, h⟩ := ix_lt_ex h
  refine ix_nmi e_6 ?_
  refine ix_istore_n (i := 3) (L1 := [(3, .int x3_5), (0, .ref (K.2.2.1 + a0)), (1, .int x1), (2, .int x2)]) X (ix_tb_at tb_X12_record 4 rfl) rfl (Nat.le_of_ble_eq_true rfl) rfl (pc1 := 7) rfl ?_
  refine ix_aload_n (i := 0) (j := 1) X (ix_tb_at tb_X12_record 5 rfl) rfl rfl (pc1 := 8) rfl ?_
  obtain ⟨b_7, q_8, h⟩ := ix_bd1_ex h
  refine iz_getR X fl_RX12_162 k_1 q_8 (ix_tb_at tb_X12_record 6 rfl) (pc1 := 11) rfl ?_
  refine ix_sipush (v := 801) X (ix_tb_at tb_X12_record 7 rfl) (by decide) (pc1 := 14) rfl ?_
  refine ix_iload_n (i := 1) (j := 2) X (ix_tb_at tb_X12_record 8 rfl) rfl rfl (pc1 := 15) rfl ?_
  refine ix_imul X (ix_tb_at tb_X12_record 9 rfl) (pc1 := 16) rfl ?_
  refine ix_iload_n (i := 3) (j := 0) X (ix_tb_at tb_X12_record 10 rfl) rfl rfl (pc1 := 17) rfl ?_
  refine ix_iadd X (ix_tb_at tb_X12_record 11 rfl) (pc1 := 18) rfl ?_
  obtain ⟨k_9, h⟩ := ix_ck_some h
  refine iz_iald X k_9 (ix_tb_at tb_X12_record 12 rfl) (pc1 := 19) rfl ?_
  obtain ⟨x4_10, e_11, h⟩ := ix_lt_ex h
  refine ix_nmi e_11 ?_
  refine ix_istore (i := 4) (L1 := [(4, .int x4_10), (3, .int x3_5), (0, .ref (K.2.2.1 + a0)), (1, .int x1), (2, .int x2)]) X (ix_tb_at tb_X12_record 13 rfl) (Nat.le_of_ble_eq_true rfl) rfl (pc1 := 21) rfl ?_
  refine ix_iconst (v := 0) X (ix_tb_at tb_X12_record 14 rfl) (by decide) (pc1 := 22) rfl ?_
  refine ix_istore (i := 5) (L1 := [(5, .int 0), (4, .int x4_10), (3, .int x3_5), (0, .ref (K.2.2.1 + a0)), (1, .int x1), (2, .int x2)]) X (ix_tb_at tb_X12_record 15 rfl) (Nat.le_of_ble_eq_true rfl) rfl (pc1 := 24) rfl ?_
  refine ix_sub (L1 := [(0, .ref (K.2.2.1 + a0)), (1, .int x1), (2, .int x2), (3, .int x3_5), (4, .int x4_10), (5, .int 0)]) [3, 4, 5, 2, 1, 0] rfl ?_
  exact t_X12_record_24 hKp X hr hlk  h
def tab_X12_keepCore : List (Nat × Instr × Nat) := [(0, .iload_n 1, 1), (1, .iconst 1, 1), (2, .if_icmp .ne 4, 3), (5, .return_, 1), (6, .aload_n 0, 1), (7, .iconst 0, 1), (8, .putfield 514, 3), (11, .iconst 0, 1), (12, .istore_n 2, 1), (13, .iload_n 2, 1), (14, .sipush 500, 3), (17, .if_icmp .ge 50, 3), (20, .aload_n 0, 1), (21, .getfield 186, 3), (24, .iload_n 2, 1), (25, .bipush 64, 2), (27, .idiv, 1), (28, .laload, 1), (29, .iload_n 2, 1), (30, .bipush 64, 2), (32, .irem, 1), (33, .lshr, 1), (34, .lconst 1, 1), (35, .land, 1), (36, .lconst 1, 1), (37, .lcmp, 1), (38, .ifCond .ne 23, 3), (41, .aload_n 0, 1), (42, .getfield 201, 3), (45, .aload_n 0, 1), (46, .getfield 514, 3), (49, .iload_n 2, 1), (50, .iastore, 1), (51, .aload_n 0, 1), (52, .dup, 1), (53, .getfield 514, 3), (56, .iconst 1, 1), (57, .iadd, 1), (58, .putfield 514, 3), (61, .iinc 2 1, 3), (64, .goto (-51), 3), (67, .return_, 1)]
theorem tb_X12_keepCore : ix_tab cX12_keepCore tab_X12_keepCore := by
  unfold ix_tab
  decide +kernel
noncomputable def f_X12_keepCore_61 (n : Nat) (z : ix_Z) (rec13 : Int32 → ix_D2 → Option (ix_D2)) (a0 : Nat) (x2 : Int32) (d : ix_D2) : Option (ix_D2) :=
  ix_lt (x2 + 1) (fun x2_11 => rec13 x2_11 d)
noncomputable def b_X12_keepCore_13 (n : Nat) (z : ix_Z)  (a0 : Nat) (rec13 : Int32 → ix_D2 → Option (ix_D2)) (x2 : Int32) (d : ix_D2) : Option (ix_D2) :=
  ix_if (500 ≤ x2) (some d) (ix_ck (ix_ok z [11] a0) (ix_bd1 (z.1 a0 86) (fun b_7 => ix_ck (ix_ix z 23 b_7 (x2 / 64)) (ix_if (lg_cmp (((d.2 b_7 (ix_n (x2 / 64))) >>> ((x2 - x2 / 64 * 64).toInt64 &&& 63)) &&& 1) 1 = 0) (ix_bd1 (z.1 a0 93) (fun b_13 => ix_ck (ix_ix z 20 b_13 (d.1 a0 94)) (ix_lt (ix_di d b_13 (ix_n (d.1 a0 94)) x2) (fun d_16 => ix_lt (ix_di d_16 a0 94 ((d_16.1 a0 94) + 1)) (fun d_18 => f_X12_keepCore_61 n z rec13 a0 x2 d_18))))) (f_X12_keepCore_61 n z rec13 a0 x2 d)))))
noncomputable def f_X12_keepCore_13 (n : Nat) (z : ix_Z)  (a0 : Nat) (x2 : Int32) (d : ix_D2) : Option (ix_D2) := ix_fix (b_X12_keepCore_13 n z  a0) (fun _ _ => none) n x2 d
noncomputable def f_X12_keepCore (n : Nat) (z : ix_Z) (a0 : Nat) (x1 : Int32) (d : ix_D2) : Option (ix_D2) :=
  ix_if (x1 = 1) (some d) (ix_ck (ix_ok z [11] a0) (ix_lt (ix_di d a0 94 0) (fun d_3 => f_X12_keepCore_13 n z  a0 0 d_3)))
set_option maxRecDepth 20000 in
theorem t_X12_keepCore_61 {l : Launch} {p : Program} {e : Env} {s : State} {m : MethodId} {args : Array Value} {below : List Frame} {meth : Method} {c : Code} {K : ix_Cx} (hKp : ix_Kp K) {n : Nat} {z : ix_Z} (X : ix_X p s m args c K cX12_keepCore RX12 3) (hr : meth.sig.returnType = (none : Option Jvm.ClassFile.FieldType)) (hlk : meth.locks = false) {rec13 : Int32 → ix_D2 → Option (ix_D2)} {a0 : Nat} {x2 : Int32} {d1 : ix_D2} (hrec13 : ∀ (x2 : Int32) (d : ix_D2), rec13 x2 d = some d1 → ix_G p l e (ix_rm 0 0 0 0) s m args below meth c (MQ below (ix_Post K none (ix_w z d1)) args s 0 0 (ix_A K)) K 3 0 0 13 [(0, .ref (K.2.2.1 + a0)), (2, .int x2)] [] (ix_w z d)) {d : ix_D2} (h : f_X12_keepCore_61 n z rec13 a0 x2 d = some d1) : ix_G p l e (ix_rm 0 0 0 0) s m args below meth c (MQ below (ix_Post K none (ix_w z d1)) args s 0 0 (ix_A K)) K 3 0 0 61 [(0, .ref (K.2.2.1 + a0)), (2, .int x2)] [] (ix_w z d) := by
  unfold f_X12_keepCore_61 at h
  obtain ⟨x2_11, e_12, h⟩ := ix_lt_ex h
  refine ix_iinc (i := 2) (j := 1) (v := x2_11) (L1 := [(2, .int x2_11), (0, .ref (K.2.2.1 + a0))]) X (ix_tb_at tb_X12_keepCore 39 rfl) rfl (by rw [oi_1]; exact e_12.symm) (Nat.le_of_ble_eq_true rfl) rfl (pc1 := 64) rfl ?_
  refine ix_goto (tgt := 13) X (ix_tb_at tb_X12_keepCore 40 rfl) (by decide) ?_
  refine ix_sub (L1 := [(0, .ref (K.2.2.1 + a0)), (2, .int x2_11)]) [1, 0] rfl ?_
  exact hrec13 x2_11 d h
set_option maxRecDepth 20000 in
theorem tb_X12_keepCore_13 {l : Launch} {p : Program} {e : Env} {s : State} {m : MethodId} {args : Array Value} {below : List Frame} {meth : Method} {c : Code} {K : ix_Cx} (hKp : ix_Kp K) {n : Nat} {z : ix_Z} (X : ix_X p s m args c K cX12_keepCore RX12 3) (hr : meth.sig.returnType = (none : Option Jvm.ClassFile.FieldType)) (hlk : meth.locks = false)  {a0 : Nat} {rec13 : Int32 → ix_D2 → Option (ix_D2)} {d1 : ix_D2} (hrec13 : ∀ (x2 : Int32) (d : ix_D2), rec13 x2 d = some d1 → ix_G p l e (ix_rm 0 0 0 0) s m args below meth c (MQ below (ix_Post K none (ix_w z d1)) args s 0 0 (ix_A K)) K 3 0 0 13 [(0, .ref (K.2.2.1 + a0)), (2, .int x2)] [] (ix_w z d)) {x2 : Int32} {d : ix_D2} (h : b_X12_keepCore_13 n z  a0 rec13 x2 d = some d1) : ix_G p l e (ix_rm 0 0 0 0) s m args below meth c (MQ below (ix_Post K none (ix_w z d1)) args s 0 0 (ix_A K)) K 3 0 0 13 [(0, .ref (K.2.2.1 + a0)), (2, .int x2)] [] (ix_w z d) := by
  unfold b_X12_keepCore_13 at h
  refine ix_iload_n (i := 2) (j := 1) X (ix_tb_at tb_X12_keepCore 9 rfl) rfl rfl (pc1 := 14) rfl ?_
  refine ix_sipush (v := 500) X (ix_tb_at tb_X12_keepCore 10 rfl) (by decide) (pc1 := 17) rfl ?_
  refine ix_icmp_ge (tgt := 67) X (ix_tb_at tb_X12_keepCore 11 rfl) (by decide) (pc1 := 20) rfl (fun q_5 => ?_) (fun q_5 => ?_)
  · have h := ix_ift q_5 h
    exact ix_vret X hr hlk (ix_r1 (g := ix_w z) h) (ix_tb_at tb_X12_keepCore 41 rfl)
  · have h := ix_iff q_5 h
    refine ix_aload_n (i := 0) (j := 0) X (ix_tb_at tb_X12_keepCore 12 rfl) rfl rfl (pc1 := 21) rfl ?_
    obtain ⟨k_6, h⟩ := ix_ck_some h
    obtain ⟨b_7, q_8, h⟩ := ix_bd1_ex h
    refine iz_getR X fl_RX12_186 k_6 q_8 (ix_tb_at tb_X12_keepCore 13 rfl) (pc1 := 24) rfl ?_
    refine ix_iload_n (i := 2) (j := 1) X (ix_tb_at tb_X12_keepCore 14 rfl) rfl rfl (pc1 := 25) rfl ?_
    refine ix_bipush (v := 64) X (ix_tb_at tb_X12_keepCore 15 rfl) (by decide) (pc1 := 27) rfl ?_
    refine ix_idiv X (ix_tb_at tb_X12_keepCore 16 rfl) (by decide) (pc1 := 28) rfl ?_
    obtain ⟨k_9, h⟩ := ix_ck_some h
    refine iz_lald X k_9 (ix_tb_at tb_X12_keepCore 17 rfl) (pc1 := 29) rfl ?_
    refine ix_iload_n (i := 2) (j := 1) X (ix_tb_at tb_X12_keepCore 18 rfl) rfl rfl (pc1 := 30) rfl ?_
    refine ix_bipush (v := 64) X (ix_tb_at tb_X12_keepCore 19 rfl) (by decide) (pc1 := 32) rfl ?_
    refine ix_irem X (ix_tb_at tb_X12_keepCore 20 rfl) (by decide) (pc1 := 33) rfl ?_
    refine ix_lshr X (ix_tb_at tb_X12_keepCore 21 rfl) (pc1 := 34) rfl ?_
    refine ix_lconst (v := 1) X (ix_tb_at tb_X12_keepCore 22 rfl) (by decide) (pc1 := 35) rfl ?_
    refine ix_land X (ix_tb_at tb_X12_keepCore 23 rfl) (pc1 := 36) rfl ?_
    refine ix_lconst (v := 1) X (ix_tb_at tb_X12_keepCore 24 rfl) (by decide) (pc1 := 37) rfl ?_
    refine ix_lcmp X (ix_tb_at tb_X12_keepCore 25 rfl) (pc1 := 38) rfl ?_
    refine ix_if_ne (tgt := 61) X (ix_tb_at tb_X12_keepCore 26 rfl) (by decide) (pc1 := 41) rfl (fun q_10 => ?_) (fun q_10 => ?_)
    · have h := ix_iff q_10 h
      refine ix_sub (L1 := [(0, .ref (K.2.2.1 + a0)), (2, .int x2)]) [0, 1] rfl ?_
      exact t_X12_keepCore_61 hKp X hr hlk hrec13 h
    · have h := ix_ift q_10 h
      refine ix_aload_n (i := 0) (j := 0) X (ix_tb_at tb_X12_keepCore 27 rfl) rfl rfl (pc1 := 42) rfl ?_
      obtain ⟨b_13, q_14, h⟩ := ix_bd1_ex h
      refine iz_getR X fl_RX12_201 k_6 q_14 (ix_tb_at tb_X12_keepCore 28 rfl) (pc1 := 45) rfl ?_
      refine ix_aload_n (i := 0) (j := 0) X (ix_tb_at tb_X12_keepCore 29 rfl) rfl rfl (pc1 := 46) rfl ?_
      refine iz_getI X fl_RX12_514 k_6 (ix_tb_at tb_X12_keepCore 30 rfl) (pc1 := 49) rfl ?_
      refine ix_iload_n (i := 2) (j := 1) X (ix_tb_at tb_X12_keepCore 31 rfl) rfl rfl (pc1 := 50) rfl ?_
      obtain ⟨k_15, h⟩ := ix_ck_some h
      obtain ⟨d_16, e_17, h⟩ := ix_lt_ex h
      refine iz_iast X k_15 (ix_tb_at tb_X12_keepCore 32 rfl) e_17 (pc1 := 51) rfl ?_
      refine ix_aload_n (i := 0) (j := 0) X (ix_tb_at tb_X12_keepCore 33 rfl) rfl rfl (pc1 := 52) rfl ?_
      refine ix_dup X (ix_tb_at tb_X12_keepCore 34 rfl) rfl (pc1 := 53) rfl ?_
      refine iz_getI X fl_RX12_514 k_6 (ix_tb_at tb_X12_keepCore 35 rfl) (pc1 := 56) rfl ?_
      refine ix_iconst (v := 1) X (ix_tb_at tb_X12_keepCore 36 rfl) (by decide) (pc1 := 57) rfl ?_
      refine ix_iadd X (ix_tb_at tb_X12_keepCore 37 rfl) (pc1 := 58) rfl ?_
      obtain ⟨d_18, e_19, h⟩ := ix_lt_ex h
      refine iz_putI X fp_RX12_514 k_6 (ix_tb_at tb_X12_keepCore 38 rfl) e_19 (pc1 := 61) rfl ?_
      refine ix_sub (L1 := [(0, .ref (K.2.2.1 + a0)), (2, .int x2)]) [0, 1] rfl ?_
      exact t_X12_keepCore_61 hKp X hr hlk hrec13 h
theorem t_X12_keepCore_13 {l : Launch} {p : Program} {e : Env} {s : State} {m : MethodId} {args : Array Value} {below : List Frame} {meth : Method} {c : Code} {K : ix_Cx} (hKp : ix_Kp K) {n : Nat} {z : ix_Z} (X : ix_X p s m args c K cX12_keepCore RX12 3) (hr : meth.sig.returnType = (none : Option Jvm.ClassFile.FieldType)) (hlk : meth.locks = false)  {a0 : Nat} {d1 : ix_D2}  {x2 : Int32} {d : ix_D2} (h : f_X12_keepCore_13 n z  a0 x2 d = some d1) : ix_G p l e (ix_rm 0 0 0 0) s m args below meth c (MQ below (ix_Post K none (ix_w z d1)) args s 0 0 (ix_A K)) K 3 0 0 13 [(0, .ref (K.2.2.1 + a0)), (2, .int x2)] [] (ix_w z d) := by
  have key : ∀ (f : Nat) (x2 : Int32) (d : ix_D2), ix_fix (b_X12_keepCore_13 n z  a0) (fun _ _ => none) f x2 d = some d1 → ix_G p l e (ix_rm 0 0 0 0) s m args below meth c (MQ below (ix_Post K none (ix_w z d1)) args s 0 0 (ix_A K)) K 3 0 0 13 [(0, .ref (K.2.2.1 + a0)), (2, .int x2)] [] (ix_w z d) := by
    intro f
    induction f with
    | zero =>
      intro x2 d h
      have h : (none : Option (ix_D2)) = some d1 := h
      cases h
    | succ f ih =>
      intro x2 d h
      exact tb_X12_keepCore_13 hKp X hr hlk (rec13 := ix_fix (b_X12_keepCore_13 n z  a0) (fun _ _ => none) f)  ih h
  exact key n x2 d h
set_option maxRecDepth 20000 in
theorem c_X12_keepCore {l : Launch} {K : ix_Cx} (hKp : ix_Kp K) {n : Nat} {z : ix_Z} {a0 : Nat} {x1 : Int32} {d : ix_D2} {d1 : ix_D2} (h : f_X12_keepCore n z a0 x1 d = some d1) : ix_M l K yX12_keepCore cX12_keepCore 3 (none : Option Jvm.ClassFile.FieldType) 0 0 0 0 [.ref (K.2.2.1 + a0), .int x1] (ix_w z d) none (ix_w z d1) := by
  refine ix_met mf_X12_keepCore hKp (Nat.le_of_ble_eq_true rfl) ?_
  intro p e s m args below meth c hr hlk hnm X
  have X : ix_X p s m args c K cX12_keepCore RX12 3 := X
  show ix_G p l e (ix_rm 0 0 0 0) s m args below meth c (MQ below (ix_Post K none (ix_w z d1)) args s 0 0 (ix_A K)) K 3 0 0 0 [(0, .ref (K.2.2.1 + a0)), (1, .int x1)] [] (ix_w z d)
  unfold f_X12_keepCore at h
  refine ix_iload_n (i := 1) (j := 1) X (ix_tb_at tb_X12_keepCore 0 rfl) rfl rfl (pc1 := 1) rfl ?_
  refine ix_iconst (v := 1) X (ix_tb_at tb_X12_keepCore 1 rfl) (by decide) (pc1 := 2) rfl ?_
  refine ix_icmp_ne (tgt := 6) X (ix_tb_at tb_X12_keepCore 2 rfl) (by decide) (pc1 := 5) rfl (fun q_1 => ?_) (fun q_1 => ?_)
  · have h := ix_iff q_1 h
    refine ix_aload_n (i := 0) (j := 0) X (ix_tb_at tb_X12_keepCore 4 rfl) rfl rfl (pc1 := 7) rfl ?_
    refine ix_iconst (v := 0) X (ix_tb_at tb_X12_keepCore 5 rfl) (by decide) (pc1 := 8) rfl ?_
    obtain ⟨k_2, h⟩ := ix_ck_some h
    obtain ⟨d_3, e_4, h⟩ := ix_lt_ex h
    refine iz_putI X fp_RX12_514 k_2 (ix_tb_at tb_X12_keepCore 6 rfl) e_4 (pc1 := 11) rfl ?_
    refine ix_iconst (v := 0) X (ix_tb_at tb_X12_keepCore 7 rfl) (by decide) (pc1 := 12) rfl ?_
    refine ix_istore_n (i := 2) (L1 := [(2, .int 0), (0, .ref (K.2.2.1 + a0)), (1, .int x1)]) X (ix_tb_at tb_X12_keepCore 8 rfl) rfl (Nat.le_of_ble_eq_true rfl) rfl (pc1 := 13) rfl ?_
    refine ix_sub (L1 := [(0, .ref (K.2.2.1 + a0)), (2, .int 0)]) [1, 0] rfl ?_
    exact t_X12_keepCore_13 hKp X hr hlk  h
  · have h := ix_ift q_1 h
    exact ix_vret X hr hlk (ix_r1 (g := ix_w z) h) (ix_tb_at tb_X12_keepCore 3 rfl)

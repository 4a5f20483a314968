theorem mf_J0_coder_7d493 : ix_mf yJ0_coder_7d493 cJ0_coder_7d493 1 (some .byte) 0 := ⟨ix_wm (i := 732) (by decide +kernel), ix_wm (i := 17) (by decide +kernel), ⟨by decide +kernel, by decide +kernel⟩, by decide +kernel, by decide +kernel⟩
theorem mi_J0_coder_7d493 : Cond.instanceMethod yJ0_coder_7d493 ∈ lw_tbl := ix_wm (i := 730) (by decide +kernel)
theorem mf_J0_isLatin1_aae02 : ix_mf yJ0_isLatin1_aae02 cJ0_isLatin1_aae02 1 (some .boolean) 0 := ⟨ix_wm (i := 722) (by decide +kernel), ix_wm (i := 17) (by decide +kernel), ⟨by decide +kernel, by decide +kernel⟩, by decide +kernel, by decide +kernel⟩
theorem mi_J0_isLatin1_aae02 : Cond.instanceMethod yJ0_isLatin1_aae02 ∈ lw_tbl := ix_wm (i := 720) (by decide +kernel)
theorem ms_J0_coder_7d493 : Cond.selects yJ0_coder_7d493.cls yJ0_coder_7d493 yJ0_coder_7d493 ∈ lw_tbl := ix_wm (i := 731) (by decide +kernel)
theorem ml_RJ0_335 : tables_1[729]? = some (Cond.methodLink RJ0 335 yJ0_coder_7d493) := by decide +kernel
theorem mf_J0_length_8abf5 : ix_mf yJ0_length_8abf5 cJ0_length_8abf5 1 (some .int) 0 := ⟨ix_wm (i := 728) (by decide +kernel), ix_wm (i := 17) (by decide +kernel), ⟨by decide +kernel, by decide +kernel⟩, by decide +kernel, by decide +kernel⟩
theorem mi_J0_length_8abf5 : Cond.instanceMethod yJ0_length_8abf5 ∈ lw_tbl := ix_wm (i := 726) (by decide +kernel)
theorem mf_J3_checkIndex_8e157 : ix_mf yJ3_checkIndex_8e157 cJ3_checkIndex_8e157 3 (some .int) 3 := ⟨ix_wm (i := 1040) (by decide +kernel), ix_wm (i := 20) (by decide +kernel), ⟨by decide +kernel, by decide +kernel⟩, by decide +kernel, by decide +kernel⟩
theorem st_J3_checkIndex_8e157 : Cond.static yJ3_checkIndex_8e157 ∈ lw_tbl := ix_wm (i := 1039) (by decide +kernel)
theorem ml_RJ0_1059 : tables_1[1038]? = some (Cond.methodLink RJ0 1059 yJ3_checkIndex_8e157) := by decide +kernel
theorem mf_J0_checkIndex_df160 : ix_mf yJ0_checkIndex_df160 cJ0_checkIndex_df160 2 (none : Option Jvm.ClassFile.FieldType) 2 := ⟨ix_wm (i := 1037) (by decide +kernel), ix_wm (i := 17) (by decide +kernel), ⟨by decide +kernel, by decide +kernel⟩, by decide +kernel, by decide +kernel⟩
theorem st_J0_checkIndex_df160 : Cond.static yJ0_checkIndex_df160 ∈ lw_tbl := ix_wm (i := 1036) (by decide +kernel)
theorem ml_RJ1_9 : tables_1[1035]? = some (Cond.methodLink RJ1 9 yJ0_checkIndex_df160) := by decide +kernel
theorem mf_J1_charAt_3b067 : ix_mf yJ1_charAt_3b067 cJ1_charAt_3b067 2 (some .char) 2 := ⟨ix_wm (i := 1034) (by decide +kernel), ix_wm (i := 18) (by decide +kernel), ⟨by decide +kernel, by decide +kernel⟩, by decide +kernel, by decide +kernel⟩
theorem st_J1_charAt_3b067 : Cond.static yJ1_charAt_3b067 ∈ lw_tbl := ix_wm (i := 1033) (by decide +kernel)
theorem ms_J0_isLatin1_aae02 : Cond.selects yJ0_isLatin1_aae02.cls yJ0_isLatin1_aae02 yJ0_isLatin1_aae02 ∈ lw_tbl := ix_wm (i := 721) (by decide +kernel)
theorem ml_RJ0_492 : tables_1[719]? = some (Cond.methodLink RJ0 492 yJ0_isLatin1_aae02) := by decide +kernel
theorem ml_RJ0_495 : tables_1[1032]? = some (Cond.methodLink RJ0 495 yJ1_charAt_3b067) := by decide +kernel
theorem mf_J0_charAt_5068e : ix_mf yJ0_charAt_5068e cJ0_charAt_5068e 2 (some .char) 1 := ⟨ix_wm (i := 1031) (by decide +kernel), ix_wm (i := 17) (by decide +kernel), ⟨by decide +kernel, by decide +kernel⟩, by decide +kernel, by decide +kernel⟩
theorem mi_J0_charAt_5068e : Cond.instanceMethod yJ0_charAt_5068e ∈ lw_tbl := ix_wm (i := 1029) (by decide +kernel)
theorem mf_J1_canEncode_9a6ad : ix_mf yJ1_canEncode_9a6ad cJ1_canEncode_9a6ad 1 (some .boolean) 1 := ⟨ix_wm (i := 738) (by decide +kernel), ix_wm (i := 18) (by decide +kernel), ⟨by decide +kernel, by decide +kernel⟩, by decide +kernel, by decide +kernel⟩
theorem st_J1_canEncode_9a6ad : Cond.static yJ1_canEncode_9a6ad ∈ lw_tbl := ix_wm (i := 737) (by decide +kernel)
theorem oi_1 : Int32.ofInt 1 = 1 := by decide
theorem mf_J1_indexOfChar_4cfef : ix_mf yJ1_indexOfChar_4cfef cJ1_indexOfChar_4cfef 6 (some .int) 4 := ⟨ix_wm (i := 743) (by decide +kernel), ix_wm (i := 18) (by decide +kernel), ⟨by decide +kernel, by decide +kernel⟩, by decide +kernel, by decide +kernel⟩
theorem st_J1_indexOfChar_4cfef : Cond.static yJ1_indexOfChar_4cfef ∈ lw_tbl := ix_wm (i := 742) (by decide +kernel)
theorem ml_RJ1_88 : tables_1[736]? = some (Cond.methodLink RJ1 88 yJ1_canEncode_9a6ad) := by decide +kernel
theorem ml_RJ1_92 : tables_1[739]? = some (Cond.methodLink RJ1 92 Lib.Math.max.name) := by decide +kernel
theorem ml_RJ1_38 : tables_1[740]? = some (Cond.methodLink RJ1 38 Lib.Math.min.name) := by decide +kernel
theorem ml_RJ1_95 : tables_1[741]? = some (Cond.methodLink RJ1 95 yJ1_indexOfChar_4cfef) := by decide +kernel
theorem mf_J1_indexOf_4cfef : ix_mf yJ1_indexOf_4cfef cJ1_indexOf_4cfef 4 (some .int) 4 := ⟨ix_wm (i := 735) (by decide +kernel), ix_wm (i := 18) (by decide +kernel), ⟨by decide +kernel, by decide +kernel⟩, by decide +kernel, by decide +kernel⟩
theorem st_J1_indexOf_4cfef : Cond.static yJ1_indexOf_4cfef ∈ lw_tbl := ix_wm (i := 734) (by decide +kernel)
theorem ms_J0_length_8abf5 : Cond.selects yJ0_length_8abf5.cls yJ0_length_8abf5 yJ0_length_8abf5 ∈ lw_tbl := ix_wm (i := 727) (by decide +kernel)
theorem ml_RJ0_505 : tables_1[725]? = some (Cond.methodLink RJ0 505 yJ0_length_8abf5) := by decide +kernel
theorem ml_RJ0_637 : tables_1[733]? = some (Cond.methodLink RJ0 637 yJ1_indexOf_4cfef) := by decide +kernel
theorem mf_J0_indexOf_7cf53 : ix_mf yJ0_indexOf_7cf53 cJ0_indexOf_7cf53 3 (some .int) 2 := ⟨ix_wm (i := 718) (by decide +kernel), ix_wm (i := 17) (by decide +kernel), ⟨by decide +kernel, by decide +kernel⟩, by decide +kernel, by decide +kernel⟩
theorem mi_J0_indexOf_7cf53 : Cond.instanceMethod yJ0_indexOf_7cf53 ∈ lw_tbl := ix_wm (i := 716) (by decide +kernel)
theorem ms_J0_indexOf_7cf53 : Cond.selects yJ0_indexOf_7cf53.cls yJ0_indexOf_7cf53 yJ0_indexOf_7cf53 ∈ lw_tbl := ix_wm (i := 717) (by decide +kernel)
theorem ml_RJ0_633 : tables_1[715]? = some (Cond.methodLink RJ0 633 yJ0_indexOf_7cf53) := by decide +kernel
theorem mf_J0_indexOf_0f7a4 : ix_mf yJ0_indexOf_0f7a4 cJ0_indexOf_0f7a4 2 (some .int) 1 := ⟨ix_wm (i := 714) (by decide +kernel), ix_wm (i := 17) (by decide +kernel), ⟨by decide +kernel, by decide +kernel⟩, by decide +kernel, by decide +kernel⟩
theorem mi_J0_indexOf_0f7a4 : Cond.instanceMethod yJ0_indexOf_0f7a4 ∈ lw_tbl := ix_wm (i := 712) (by decide +kernel)
theorem mf_X0_kindNumber : ix_mf yX0_kindNumber cX0_kindNumber 1 (some .int) 0 := ⟨ix_wm (i := 851) (by decide +kernel), ix_wm (i := 15) (by decide +kernel), ⟨by decide +kernel, by decide +kernel⟩, by decide +kernel, by decide +kernel⟩
theorem mi_X0_kindNumber : Cond.instanceMethod yX0_kindNumber ∈ lw_tbl := ix_wm (i := 850) (by decide +kernel)
theorem fl_RX2_40 : ix_flb 146 0 false RX2 40 "ClauseCourt$Case" [2] 5 0 = true := by decide +kernel
theorem fp_RX2_40 : ix_fpb 146 0 false RX2 40 "ClauseCourt$Case" [2] 5 "I" false = true := by decide +kernel
theorem fl_RX2_47 : ix_flb 156 0 false RX2 47 "ClauseCourt$Case" [2] 11 0 = true := by decide +kernel
theorem fp_RX2_47 : ix_fpb 156 0 false RX2 47 "ClauseCourt$Case" [2] 11 "Z" false = true := by decide +kernel
theorem mf_X2_makeName : ix_mf yX2_makeName cX2_makeName 1 (some .int) 0 := ⟨ix_wm (i := 548) (by decide +kernel), ix_wm (i := 3) (by decide +kernel), ⟨by decide +kernel, by decide +kernel⟩, by decide +kernel, by decide +kernel⟩
theorem mi_X2_makeName : Cond.instanceMethod yX2_makeName ∈ lw_tbl := ix_wm (i := 546) (by decide +kernel)
theorem fl_RX2_51 : ix_flb 154 0 false RX2 51 "ClauseCourt$Case" [2] 10 0 = true := by decide +kernel
theorem fl_RX2_31 : ix_flb 142 0 false RX2 31 "ClauseCourt$Case" [2] 4 2 = true := by decide +kernel
theorem fp_RX2_51 : ix_fpb 154 0 false RX2 51 "ClauseCourt$Case" [2] 10 "I" false = true := by decide +kernel
theorem mf_X2_add : ix_mf yX2_add cX2_add 3 (none : Option Jvm.ClassFile.FieldType) 1 := ⟨ix_wm (i := 556) (by decide +kernel), ix_wm (i := 3) (by decide +kernel), ⟨by decide +kernel, by decide +kernel⟩, by decide +kernel, by decide +kernel⟩
theorem mi_X2_add : Cond.instanceMethod yX2_add ∈ lw_tbl := ix_wm (i := 554) (by decide +kernel)
theorem fl_RX7_18 : ix_flb 120 0 false RX7 18 "ClauseCourt$Rows" [7] 2 0 = true := by decide +kernel
theorem fl_RX7_15 : ix_flb 116 0 false RX7 15 "ClauseCourt$Rows" [7] 1 2 = true := by decide +kernel
theorem fl_RX7_9 : ix_flb 112 0 false RX7 9 "ClauseCourt$Rows" [7] 0 2 = true := by decide +kernel
theorem ml_RX7_22 : tables_1[565]? = some (Cond.methodLink RX7 22 arraycopyName) := by decide +kernel
theorem fp_RX7_18 : ix_fpb 120 0 false RX7 18 "ClauseCourt$Rows" [7] 2 "I" false = true := by decide +kernel
theorem mf_X7_push : ix_mf yX7_push cX7_push 5 (some .boolean) 3 := ⟨ix_wm (i := 564) (by decide +kernel), ix_wm (i := 4) (by decide +kernel), ⟨by decide +kernel, by decide +kernel⟩, by decide +kernel, by decide +kernel⟩
theorem mi_X7_push : Cond.instanceMethod yX7_push ∈ lw_tbl := ix_wm (i := 562) (by decide +kernel)
theorem fl_RX2_14 : ix_flb 131 0 false RX2 14 "ClauseCourt$Case" [2] 0 2 = true := by decide +kernel
theorem ms_X7_push : Cond.selects yX7_push.cls yX7_push yX7_push ∈ lw_tbl := ix_wm (i := 563) (by decide +kernel)
theorem ml_RX2_54 : tables_1[561]? = some (Cond.methodLink RX2 54 yX7_push) := by decide +kernel
theorem mf_X2_layDraft : ix_mf yX2_layDraft cX2_layDraft 2 (none : Option Jvm.ClassFile.FieldType) 0 := ⟨ix_wm (i := 560) (by decide +kernel), ix_wm (i := 3) (by decide +kernel), ⟨by decide +kernel, by decide +kernel⟩, by decide +kernel, by decide +kernel⟩
theorem mi_X2_layDraft : Cond.instanceMethod yX2_layDraft ∈ lw_tbl := ix_wm (i := 558) (by decide +kernel)
theorem ms_X2_add : Cond.selects yX2_add.cls yX2_add yX2_add ∈ lw_tbl := ix_wm (i := 555) (by decide +kernel)
theorem ml_RX2_58 : tables_1[553]? = some (Cond.methodLink RX2 58 yX2_add) := by decide +kernel
theorem ms_X2_layDraft : Cond.selects yX2_layDraft.cls yX2_layDraft yX2_layDraft ∈ lw_tbl := ix_wm (i := 559) (by decide +kernel)
theorem ml_RX2_62 : tables_1[557]? = some (Cond.methodLink RX2 62 yX2_layDraft) := by decide +kernel
theorem mf_X2_lay : ix_mf yX2_lay cX2_lay 4 (none : Option Jvm.ClassFile.FieldType) 3 := ⟨ix_wm (i := 552) (by decide +kernel), ix_wm (i := 3) (by decide +kernel), ⟨by decide +kernel, by decide +kernel⟩, by decide +kernel, by decide +kernel⟩
theorem mi_X2_lay : Cond.instanceMethod yX2_lay ∈ lw_tbl := ix_wm (i := 550) (by decide +kernel)
theorem fl_RX4_18 : ix_flb 48 0 false RX4 18 "ClauseCourt$Desk" [4] 4 2 = true := by decide +kernel
theorem fl_RX4_132 : ix_flb 49 0 false RX4 132 "ClauseCourt$Desk" [4] 5 0 = true := by decide +kernel
theorem fp_RX4_132 : ix_fpb 49 0 false RX4 132 "ClauseCourt$Desk" [4] 5 "I" false = true := by decide +kernel
theorem mf_X4_note : ix_mf yX4_note cX4_note 2 (none : Option Jvm.ClassFile.FieldType) 1 := ⟨ix_wm (i := 912) (by decide +kernel), ix_wm (i := 2) (by decide +kernel), ⟨by decide +kernel, by decide +kernel⟩, by decide +kernel, by decide +kernel⟩
theorem mi_X4_note : Cond.instanceMethod yX4_note ∈ lw_tbl := ix_wm (i := 910) (by decide +kernel)
theorem fl_RX1_40 : ix_flb 210 0 false RX1 40 "ClauseCourt$Board" [1] 7 2 = true := by decide +kernel
theorem mf_X1_valueOf : ix_mf yX1_valueOf cX1_valueOf 2 (some .int) 1 := ⟨ix_wm (i := 927) (by decide +kernel), ix_wm (i := 6) (by decide +kernel), ⟨by decide +kernel, by decide +kernel⟩, by decide +kernel, by decide +kernel⟩
theorem mi_X1_valueOf : Cond.instanceMethod yX1_valueOf ∈ lw_tbl := ix_wm (i := 925) (by decide +kernel)
theorem ms_X1_valueOf : Cond.selects yX1_valueOf.cls yX1_valueOf yX1_valueOf ∈ lw_tbl := ix_wm (i := 926) (by decide +kernel)
theorem ml_RX1_78 : tables_1[924]? = some (Cond.methodLink RX1 78 yX1_valueOf) := by decide +kernel
theorem mf_X1_isTrue : ix_mf yX1_isTrue cX1_isTrue 2 (some .boolean) 1 := ⟨ix_wm (i := 923) (by decide +kernel), ix_wm (i := 6) (by decide +kernel), ⟨by decide +kernel, by decide +kernel⟩, by decide +kernel, by decide +kernel⟩
theorem mi_X1_isTrue : Cond.instanceMethod yX1_isTrue ∈ lw_tbl := ix_wm (i := 921) (by decide +kernel)
theorem fl_RX8_7 : ix_flb 509 0 false RX8 7 "ClauseCourt$Rule" [0, 3, 5, 6, 9] 0 2 = true := by decide +kernel
theorem ms_X1_isTrue : Cond.selects yX1_isTrue.cls yX1_isTrue yX1_isTrue ∈ lw_tbl := ix_wm (i := 922) (by decide +kernel)
theorem ml_RX8_23 : tables_1[920]? = some (Cond.methodLink RX8 23 yX1_isTrue) := by decide +kernel
theorem mf_X8_trueOnes : ix_mf yX8_trueOnes cX8_trueOnes 4 (some .int) 1 := ⟨ix_wm (i := 919) (by decide +kernel), ix_wm (i := 11) (by decide +kernel), ⟨by decide +kernel, by decide +kernel⟩, by decide +kernel, by decide +kernel⟩
theorem mi_X8_trueOnes : Cond.instanceMethod yX8_trueOnes ∈ lw_tbl := ix_wm (i := 918) (by decide +kernel)
theorem ms_X4_note : Cond.selects yX4_note.cls yX4_note yX4_note ∈ lw_tbl := ix_wm (i := 911) (by decide +kernel)
theorem ml_RX0_31 : tables_1[909]? = some (Cond.methodLink RX0 31 yX4_note) := by decide +kernel
theorem ml_RX0_37 : tables_1[913]? = some (Cond.methodLink RX0 37 (⟨"ClauseCourt$AtMost", "trueOnes", "(LClauseCourt$Board;)I"⟩ : MethodName)) := by decide +kernel
theorem fl_RX0_7 : ix_flb 638 0 false RX0 7 "ClauseCourt$AtMost" [0, 5] 3 0 = true := by decide +kernel
theorem mf_X0_holds : ix_mf yX0_holds cX0_holds 3 (some .boolean) 2 := ⟨ix_wm (i := 908) (by decide +kernel), ix_wm (i := 15) (by decide +kernel), ⟨by decide +kernel, by decide +kernel⟩, by decide +kernel, by decide +kernel⟩
theorem mi_X0_holds : Cond.instanceMethod yX0_holds ∈ lw_tbl := ix_wm (i := 907) (by decide +kernel)
theorem ml_RX8_13 : tables_1[982]? = some (Cond.methodLink RX8 13 yX4_note) := by decide +kernel
theorem mf_X8_fewest : ix_mf yX8_fewest cX8_fewest 2 (some .int) 1 := ⟨ix_wm (i := 981) (by decide +kernel), ix_wm (i := 11) (by decide +kernel), ⟨by decide +kernel, by decide +kernel⟩, by decide +kernel, by decide +kernel⟩
theorem mi_X8_fewest : Cond.instanceMethod yX8_fewest ∈ lw_tbl := ix_wm (i := 963) (by decide +kernel)
theorem ml_RX3_23 : tables_1[931]? = some (Cond.methodLink RX3 23 yX4_note) := by decide +kernel
theorem ml_RX3_32 : tables_1[971]? = some (Cond.methodLink RX3 32 (⟨"ClauseCourt$Rule", "fewest", "(LClauseCourt$Desk;)I"⟩ : MethodName)) := by decide +kernel
theorem mf_X3_fewest : ix_mf yX3_fewest cX3_fewest 2 (some .int) 1 := ⟨ix_wm (i := 970) (by decide +kernel), ix_wm (i := 12) (by decide +kernel), ⟨by decide +kernel, by decide +kernel⟩, by decide +kernel, by decide +kernel⟩
theorem mi_X3_fewest : Cond.instanceMethod yX3_fewest ∈ lw_tbl := ix_wm (i := 969) (by decide +kernel)
theorem ml_RX0_41 : tables_1[968]? = some (Cond.methodLink RX0 41 (⟨"ClauseCourt$Clause", "fewest", "(LClauseCourt$Desk;)I"⟩ : MethodName)) := by decide +kernel
theorem mf_X0_fewest : ix_mf yX0_fewest cX0_fewest 2 (some .int) 1 := ⟨ix_wm (i := 967) (by decide +kernel), ix_wm (i := 15) (by decide +kernel), ⟨by decide +kernel, by decide +kernel⟩, by decide +kernel, by decide +kernel⟩
theorem mi_X0_fewest : Cond.instanceMethod yX0_fewest ∈ lw_tbl := ix_wm (i := 966) (by decide +kernel)
theorem mf_X8_greatest : ix_mf yX8_greatest cX8_greatest 2 (some .int) 1 := ⟨ix_wm (i := 1002) (by decide +kernel), ix_wm (i := 11) (by decide +kernel), ⟨by decide +kernel, by decide +kernel⟩, by decide +kernel, by decide +kernel⟩
theorem mi_X8_greatest : Cond.instanceMethod yX8_greatest ∈ lw_tbl := ix_wm (i := 984) (by decide +kernel)
theorem ml_RX0_45 : tables_1[989]? = some (Cond.methodLink RX0 45 (⟨"ClauseCourt$Clause", "greatest", "(LClauseCourt$Desk;)I"⟩ : MethodName)) := by decide +kernel
theorem ml_RX0_48 : tables_1[992]? = some (Cond.methodLink RX0 48 Lib.Math.min.name) := by decide +kernel
theorem mf_X0_greatest : ix_mf yX0_greatest cX0_greatest 2 (some .int) 1 := ⟨ix_wm (i := 988) (by decide +kernel), ix_wm (i := 15) (by decide +kernel), ⟨by decide +kernel, by decide +kernel⟩, by decide +kernel, by decide +kernel⟩
theorem mi_X0_greatest : Cond.instanceMethod yX0_greatest ∈ lw_tbl := ix_wm (i := 987) (by decide +kernel)
theorem fl_RX4_103 : ix_flb 46 0 false RX4 103 "ClauseCourt$Desk" [4] 3 0 = true := by decide +kernel
theorem fl_RX4_15 : ix_flb 44 0 false RX4 15 "ClauseCourt$Desk" [4] 2 2 = true := by decide +kernel
theorem fp_RX4_103 : ix_fpb 46 0 false RX4 103 "ClauseCourt$Desk" [4] 3 "I" false = true := by decide +kernel
theorem mf_X4_writeByte : ix_mf yX4_writeByte cX4_writeByte 2 (none : Option Jvm.ClassFile.FieldType) 1 := ⟨ix_wm (i := 1051) (by decide +kernel), ix_wm (i := 2) (by decide +kernel), ⟨by decide +kernel, by decide +kernel⟩, by decide +kernel, by decide +kernel⟩
theorem mi_X4_writeByte : Cond.instanceMethod yX4_writeByte ∈ lw_tbl := ix_wm (i := 1049) (by decide +kernel)
theorem ml_RX4_106 : tables_1[1027]? = some (Cond.methodLink RX4 106 yJ0_length_8abf5) := by decide +kernel
theorem ms_J0_charAt_5068e : Cond.selects yJ0_charAt_5068e.cls yJ0_charAt_5068e yJ0_charAt_5068e ∈ lw_tbl := ix_wm (i := 1030) (by decide +kernel)
theorem ml_RX4_110 : tables_1[1028]? = some (Cond.methodLink RX4 110 yJ0_charAt_5068e) := by decide +kernel
theorem ms_X4_writeByte : Cond.selects yX4_writeByte.cls yX4_writeByte yX4_writeByte ∈ lw_tbl := ix_wm (i := 1050) (by decide +kernel)
theorem ml_RX4_114 : tables_1[1048]? = some (Cond.methodLink RX4 114 yX4_writeByte) := by decide +kernel
theorem mf_X4_writeText : ix_mf yX4_writeText cX4_writeText 3 (none : Option Jvm.ClassFile.FieldType) 1 := ⟨ix_wm (i := 1026) (by decide +kernel), ix_wm (i := 2) (by decide +kernel), ⟨by decide +kernel, by decide +kernel⟩, by decide +kernel, by decide +kernel⟩
theorem mi_X4_writeText : Cond.instanceMethod yX4_writeText ∈ lw_tbl := ix_wm (i := 1024) (by decide +kernel)
theorem ml_RX4_98 : tables_1[814]? = some (Cond.methodLink RX4 98 Lib.Math.abs.name) := by decide +kernel
theorem mf_X4_writeNumber : ix_mf yX4_writeNumber cX4_writeNumber 3 (none : Option Jvm.ClassFile.FieldType) 1 := ⟨ix_wm (i := 1055) (by decide +kernel), ix_wm (i := 2) (by decide +kernel), ⟨by decide +kernel, by decide +kernel⟩, by decide +kernel, by decide +kernel⟩
theorem mi_X4_writeNumber : Cond.instanceMethod yX4_writeNumber ∈ lw_tbl := ix_wm (i := 1053) (by decide +kernel)
theorem ml_RX4_117 : tables_1[1060]? = some (Cond.methodLink RX4 117 yX4_note) := by decide +kernel
theorem ms_X4_writeNumber : Cond.selects yX4_writeNumber.cls yX4_writeNumber yX4_writeNumber ∈ lw_tbl := ix_wm (i := 1054) (by decide +kernel)
theorem ml_RX4_120 : tables_1[1061]? = some (Cond.methodLink RX4 120 yX4_writeNumber) := by decide +kernel
theorem mf_X4_writeList : ix_mf yX4_writeList cX4_writeList 3 (none : Option Jvm.ClassFile.FieldType) 1 := ⟨ix_wm (i := 1059) (by decide +kernel), ix_wm (i := 2) (by decide +kernel), ⟨by decide +kernel, by decide +kernel⟩, by decide +kernel, by decide +kernel⟩
theorem mi_X4_writeList : Cond.instanceMethod yX4_writeList ∈ lw_tbl := ix_wm (i := 1057) (by decide +kernel)
theorem ms_X4_writeText : Cond.selects yX4_writeText.cls yX4_writeText yX4_writeText ∈ lw_tbl := ix_wm (i := 1025) (by decide +kernel)
theorem ml_RX0_56 : tables_1[1023]? = some (Cond.methodLink RX0 56 yX4_writeText) := by decide +kernel
theorem ml_RX0_60 : tables_1[1052]? = some (Cond.methodLink RX0 60 yX4_writeNumber) := by decide +kernel
theorem fl_RX0_17 : ix_flb 514 515 false RX0 17 "ClauseCourt$AtMost" [0, 5] 0 2 = true := by decide +kernel
theorem ms_X4_writeList : Cond.selects yX4_writeList.cls yX4_writeList yX4_writeList ∈ lw_tbl := ix_wm (i := 1058) (by decide +kernel)
theorem ml_RX0_63 : tables_1[1056]? = some (Cond.methodLink RX0 63 yX4_writeList) := by decide +kernel
theorem mf_X0_write : ix_mf yX0_write cX0_write 2 (none : Option Jvm.ClassFile.FieldType) 1 := ⟨ix_wm (i := 1021) (by decide +kernel), ix_wm (i := 15) (by decide +kernel), ⟨by decide +kernel, by decide +kernel⟩, by decide +kernel, by decide +kernel⟩
theorem mi_X0_write : Cond.instanceMethod yX0_write ∈ lw_tbl := ix_wm (i := 1020) (by decide +kernel)
theorem mf_X7_shortenTo : ix_mf yX7_shortenTo cX7_shortenTo 2 (none : Option Jvm.ClassFile.FieldType) 1 := ⟨ix_wm (i := 627) (by decide +kernel), ix_wm (i := 4) (by decide +kernel), ⟨by decide +kernel, by decide +kernel⟩, by decide +kernel, by decide +kernel⟩
theorem mi_X7_shortenTo : Cond.instanceMethod yX7_shortenTo ∈ lw_tbl := ix_wm (i := 625) (by decide +kernel)
theorem mf_J7_fill_53178 : ix_mf yJ7_fill_53178 cJ7_fill_53178 4 (none : Option Jvm.ClassFile.FieldType) 2 := ⟨ix_wm (i := 275) (by decide +kernel), ix_wm (i := 7) (by decide +kernel), ⟨by decide +kernel, by decide +kernel⟩, by decide +kernel, by decide +kernel⟩
theorem st_J7_fill_53178 : Cond.static yJ7_fill_53178 ∈ lw_tbl := ix_wm (i := 274) (by decide +kernel)
theorem mf_J7_fill_d0a16 : ix_mf yJ7_fill_d0a16 cJ7_fill_d0a16 5 (none : Option Jvm.ClassFile.FieldType) 2 := ⟨ix_wm (i := 1150) (by decide +kernel), ix_wm (i := 7) (by decide +kernel), ⟨by decide +kernel, by decide +kernel⟩, by decide +kernel, by decide +kernel⟩
theorem st_J7_fill_d0a16 : Cond.static yJ7_fill_d0a16 ∈ lw_tbl := ix_wm (i := 1149) (by decide +kernel)
theorem fl_RX1_16 : ix_flb 200 0 false RX1 16 "ClauseCourt$Board" [1] 0 2 = true := by decide +kernel
theorem ms_X7_shortenTo : Cond.selects yX7_shortenTo.cls yX7_shortenTo yX7_shortenTo ∈ lw_tbl := ix_wm (i := 626) (by decide +kernel)
theorem ml_RX1_55 : tables_1[1146]? = some (Cond.methodLink RX1 55 yX7_shortenTo) := by decide +kernel
theorem fl_RX1_20 : ix_flb 203 0 false RX1 20 "ClauseCourt$Board" [1] 1 2 = true := by decide +kernel
theorem ml_RX1_59 : tables_1[1147]? = some (Cond.methodLink RX1 59 yJ7_fill_53178) := by decide +kernel
theorem fl_RX1_33 : ix_flb 208 0 false RX1 33 "ClauseCourt$Board" [1] 5 2 = true := by decide +kernel
theorem ml_RX1_65 : tables_1[1148]? = some (Cond.methodLink RX1 65 yJ7_fill_d0a16) := by decide +kernel
theorem fl_RX1_37 : ix_flb 209 0 false RX1 37 "ClauseCourt$Board" [1] 6 2 = true := by decide +kernel
theorem fl_RX1_43 : ix_flb 212 0 false RX1 43 "ClauseCourt$Board" [1] 8 2 = true := by decide +kernel
theorem fp_RX1_68 : ix_fpb 222 0 false RX1 68 "ClauseCourt$Board" [1] 12 "I" false = true := by decide +kernel
theorem fp_RX1_72 : ix_fpb 225 0 false RX1 72 "ClauseCourt$Board" [1] 13 "I" false = true := by decide +kernel
theorem fp_RX1_75 : ix_fpb 227 0 false RX1 75 "ClauseCourt$Board" [1] 14 "I" false = true := by decide +kernel
theorem mf_X1_clear : ix_mf yX1_clear cX1_clear 2 (none : Option Jvm.ClassFile.FieldType) 1 := ⟨ix_wm (i := 1145) (by decide +kernel), ix_wm (i := 6) (by decide +kernel), ⟨by decide +kernel, by decide +kernel⟩, by decide +kernel, by decide +kernel⟩
theorem mi_X1_clear : Cond.instanceMethod yX1_clear ∈ lw_tbl := ix_wm (i := 1143) (by decide +kernel)
theorem mf_X7_has : ix_mf yX7_has cX7_has 2 (some .boolean) 1 := ⟨ix_wm (i := 890) (by decide +kernel), ix_wm (i := 4) (by decide +kernel), ⟨by decide +kernel, by decide +kernel⟩, by decide +kernel, by decide +kernel⟩
theorem mi_X7_has : Cond.instanceMethod yX7_has ∈ lw_tbl := ix_wm (i := 888) (by decide +kernel)
theorem ms_X7_has : Cond.selects yX7_has.cls yX7_has yX7_has ∈ lw_tbl := ix_wm (i := 889) (by decide +kernel)
theorem ml_RX7_28 : tables_1[887]? = some (Cond.methodLink RX7 28 yX7_has) := by decide +kernel
theorem mf_X7_size : ix_mf yX7_size cX7_size 2 (some .int) 1 := ⟨ix_wm (i := 894) (by decide +kernel), ix_wm (i := 4) (by decide +kernel), ⟨by decide +kernel, by decide +kernel⟩, by decide +kernel, by decide +kernel⟩
theorem mi_X7_size : Cond.instanceMethod yX7_size ∈ lw_tbl := ix_wm (i := 892) (by decide +kernel)
theorem fl_RX1_30 : ix_flb 206 0 false RX1 30 "ClauseCourt$Board" [1] 4 2 = true := by decide +kernel
theorem mf_X1_sort : ix_mf yX1_sort cX1_sort 5 (none : Option Jvm.ClassFile.FieldType) 1 := ⟨ix_wm (i := 1169) (by decide +kernel), ix_wm (i := 6) (by decide +kernel), ⟨by decide +kernel, by decide +kernel⟩, by decide +kernel, by decide +kernel⟩
theorem mi_X1_sort : Cond.instanceMethod yX1_sort ∈ lw_tbl := ix_wm (i := 1168) (by decide +kernel)
theorem fl_RX1_95 : ix_flb 122 0 true RX1 95 "ClauseCourt$Rows" [7] 2 0 = true := by decide +kernel
theorem ml_RX1_98 : tables_1[1165]? = some (Cond.methodLink RX1 98 yX7_push) := by decide +kernel
theorem fl_RX1_85 : ix_flb 117 0 true RX1 85 "ClauseCourt$Rows" [7] 1 2 = true := by decide +kernel
theorem ms_X1_sort : Cond.selects yX1_sort.cls yX1_sort yX1_sort ∈ lw_tbl := List.mem_append_left _ (List.mem_of_getElem? (i := 21) (by decide +kernel))
theorem ml_RX1_102 : tables_1[1166]? = some (Cond.methodLink RX1 102 yX1_sort) := by decide +kernel
theorem fl_RX1_82 : ix_flb 113 0 true RX1 82 "ClauseCourt$Rows" [7] 0 2 = true := by decide +kernel
theorem fl_RX1_27 : ix_flb 205 0 false RX1 27 "ClauseCourt$Board" [1] 3 2 = true := by decide +kernel
theorem fl_RX1_24 : ix_flb 204 0 false RX1 24 "ClauseCourt$Board" [1] 2 2 = true := by decide +kernel
theorem mf_X1_lay : ix_mf yX1_lay cX1_lay 8 (none : Option Jvm.ClassFile.FieldType) 3 := ⟨ix_wm (i := 1164) (by decide +kernel), ix_wm (i := 6) (by decide +kernel), ⟨by decide +kernel, by decide +kernel⟩, by decide +kernel, by decide +kernel⟩
theorem mi_X1_lay : Cond.instanceMethod yX1_lay ∈ lw_tbl := ix_wm (i := 1162) (by decide +kernel)
theorem ms_X7_size : Cond.selects yX7_size.cls yX7_size yX7_size ∈ lw_tbl := ix_wm (i := 893) (by decide +kernel)
theorem ml_RX1_88 : tables_1[1160]? = some (Cond.methodLink RX1 88 yX7_size) := by decide +kernel
theorem ms_X1_lay : Cond.selects yX1_lay.cls yX1_lay yX1_lay ∈ lw_tbl := ix_wm (i := 1163) (by decide +kernel)
theorem ml_RX1_91 : tables_1[1161]? = some (Cond.methodLink RX1 91 yX1_lay) := by decide +kernel
theorem mf_X1_layRow : ix_mf yX1_layRow cX1_layRow 3 (none : Option Jvm.ClassFile.FieldType) 2 := ⟨ix_wm (i := 1159) (by decide +kernel), ix_wm (i := 6) (by decide +kernel), ⟨by decide +kernel, by decide +kernel⟩, by decide +kernel, by decide +kernel⟩
theorem mi_X1_layRow : Cond.instanceMethod yX1_layRow ∈ lw_tbl := ix_wm (i := 1157) (by decide +kernel)
theorem mf_X1_bury : ix_mf yX1_bury cX1_bury 2 (none : Option Jvm.ClassFile.FieldType) 1 := ⟨ix_wm (i := 1313) (by decide +kernel), ix_wm (i := 6) (by decide +kernel), ⟨by decide +kernel, by decide +kernel⟩, by decide +kernel, by decide +kernel⟩
theorem mi_X1_bury : Cond.instanceMethod yX1_bury ∈ lw_tbl := ix_wm (i := 1311) (by decide +kernel)
theorem mf_X1_recount : ix_mf yX1_recount cX1_recount 7 (none : Option Jvm.ClassFile.FieldType) 2 := ⟨ix_wm (i := 1287) (by decide +kernel), ix_wm (i := 6) (by decide +kernel), ⟨by decide +kernel, by decide +kernel⟩, by decide +kernel, by decide +kernel⟩
theorem mi_X1_recount : Cond.instanceMethod yX1_recount ∈ lw_tbl := ix_wm (i := 1286) (by decide +kernel)
theorem ml_RX1_108 : tables_1[1283]? = some (Cond.methodLink RX1 108 Lib.Math.abs.name) := by decide +kernel
theorem fl_RX1_68 : ix_flb 222 0 false RX1 68 "ClauseCourt$Board" [1] 12 0 = true := by decide +kernel
theorem fl_RX1_52 : ix_flb 219 0 false RX1 52 "ClauseCourt$Board" [1] 11 2 = true := by decide +kernel
theorem fl_RX1_46 : ix_flb 214 0 false RX1 46 "ClauseCourt$Board" [1] 9 2 = true := by decide +kernel
theorem fl_RX1_72 : ix_flb 225 0 false RX1 72 "ClauseCourt$Board" [1] 13 0 = true := by decide +kernel
theorem fl_RX1_49 : ix_flb 216 0 false RX1 49 "ClauseCourt$Board" [1] 10 2 = true := by decide +kernel
theorem ms_X1_recount : Cond.selects yX1_recount.cls yX1_recount yX1_recount ∈ lw_tbl := List.mem_append_left _ (List.mem_of_getElem? (i := 36) (by decide +kernel))
theorem ml_RX1_113 : tables_1[1284]? = some (Cond.methodLink RX1 113 yX1_recount) := by decide +kernel
theorem mf_X1_assign : ix_mf yX1_assign cX1_assign 4 (none : Option Jvm.ClassFile.FieldType) 2 := ⟨ix_wm (i := 1327) (by decide +kernel), ix_wm (i := 6) (by decide +kernel), ⟨by decide +kernel, by decide +kernel⟩, by decide +kernel, by decide +kernel⟩
theorem mi_X1_assign : Cond.instanceMethod yX1_assign ∈ lw_tbl := ix_wm (i := 1325) (by decide +kernel)
theorem oi_m1 : Int32.ofInt (-1) = (-1) := by decide
theorem mf_X1_backTo : ix_mf yX1_backTo cX1_backTo 5 (none : Option Jvm.ClassFile.FieldType) 1 := ⟨ix_wm (i := 1282) (by decide +kernel), ix_wm (i := 6) (by decide +kernel), ⟨by decide +kernel, by decide +kernel⟩, by decide +kernel, by decide +kernel⟩
theorem mi_X1_backTo : Cond.instanceMethod yX1_backTo ∈ lw_tbl := ix_wm (i := 1280) (by decide +kernel)
theorem mf_J13_bitCount_95d88 : ix_mf yJ13_bitCount_95d88 cJ13_bitCount_95d88 2 (some .int) 1 := ⟨ix_wm (i := 1192) (by decide +kernel), ix_wm (i := 22) (by decide +kernel), ⟨by decide +kernel, by decide +kernel⟩, by decide +kernel, by decide +kernel⟩
theorem st_J13_bitCount_95d88 : Cond.static yJ13_bitCount_95d88 ∈ lw_tbl := ix_wm (i := 1191) (by decide +kernel)
def tab_J0_coder_7d493 : List (Nat × Instr × Nat) := [(0, .getstatic 38, 3), (3, .ifCond .eq 10, 3), (6, .aload_n 0, 1), (7, .getfield 15, 3), (10, .goto 4, 3), (13, .iconst 1, 1), (14, .ireturn, 1)]
theorem tb_J0_coder_7d493 : ix_tab cJ0_coder_7d493 tab_J0_coder_7d493 := by
  unfold ix_tab
  decide +kernel
noncomputable def f_J0_coder_7d493 (n : Nat) (z : ix_Z) (a0 : Nat) (d : ix_D2) : Option (Int32 × ix_D2) :=
  ix_if ((1 : Int32) = 0) (some (1, d)) (ix_ck (a0 < 6) (some (0, d)))
set_option maxRecDepth 20000 in
theorem c_J0_coder_7d493 {l : Launch} {K : ix_Cx} (hKp : ix_Kp K) (hT : ix_Tc K) {n : Nat} {z : ix_Z} {a0 : Nat} {d : ix_D2} {r : Int32} {d1 : ix_D2} (h : f_J0_coder_7d493 n z a0 d = some (r, d1)) : ix_M l K yJ0_coder_7d493 cJ0_coder_7d493 1 (some .byte) 0 0 0 0 [.ref (K.2.1 (100 + a0))] (ix_w z d) (some (.int r)) (ix_w z d1) := by
  refine ix_met mf_J0_coder_7d493 hKp (Nat.le_of_ble_eq_true rfl) ?_
  intro p e s m args below meth c hr hlk hnm X
  have X : ix_X p s m args c K cJ0_coder_7d493 RJ0 1 := X
  show ix_G p l e (ix_rm 0 0 0 0) s m args below meth c (MQ below (ix_Post K (some (.int r)) (ix_w z d1)) args s 0 0 (ix_A K)) K 1 0 0 0 [(0, .ref (K.2.1 (100 + a0)))] [] (ix_w z d)
  unfold f_J0_coder_7d493 at h
  refine ix_tsta (pl := 723) X hT (by decide +kernel) (ix_tb_at tb_J0_coder_7d493 0 rfl) (pc1 := 3) rfl ?_
  refine ix_if_eq (tgt := 13) X (ix_tb_at tb_J0_coder_7d493 1 rfl) (by decide) (pc1 := 6) rfl (fun q_1 => ?_) (fun q_1 => ?_)
  · have h := ix_ift q_1 h
    refine ix_iconst (v := 1) X (ix_tb_at tb_J0_coder_7d493 5 rfl) (by decide) (pc1 := 14) rfl ?_
    exact ix_nret X hr hlk rfl (ix_r2 (f := fun r => some (.int r)) (g := ix_w z) h) (ix_tb_at tb_J0_coder_7d493 6 rfl)
  · have h := ix_iff q_1 h
    refine ix_aload_n (i := 0) (j := 0) X (ix_tb_at tb_J0_coder_7d493 2 rfl) rfl rfl (pc1 := 7) rfl ?_
    obtain ⟨k_2, h⟩ := ix_ck_some h
    refine ix_tcod (pl := 2489) X hT k_2 (by decide +kernel) (ix_tb_at tb_J0_coder_7d493 3 rfl) (pc1 := 10) rfl ?_
    refine ix_goto (tgt := 14) X (ix_tb_at tb_J0_coder_7d493 4 rfl) (by decide) ?_
    exact ix_nret X hr hlk rfl (ix_r2 (f := fun r => some (.int r)) (g := ix_w z) h) (ix_tb_at tb_J0_coder_7d493 6 rfl)
def tab_J0_isLatin1_aae02 : List (Nat × Instr × Nat) := [(0, .getstatic 38, 3), (3, .ifCond .eq 14, 3), (6, .aload_n 0, 1), (7, .getfield 15, 3), (10, .ifCond .ne 7, 3), (13, .iconst 1, 1), (14, .goto 4, 3), (17, .iconst 0, 1), (18, .ireturn, 1)]
theorem tb_J0_isLatin1_aae02 : ix_tab cJ0_isLatin1_aae02 tab_J0_isLatin1_aae02 := by
  unfold ix_tab
  decide +kernel
noncomputable def f_J0_isLatin1_aae02 (n : Nat) (z : ix_Z) (a0 : Nat) (d : ix_D2) : Option (Int32 × ix_D2) :=
  ix_if ((1 : Int32) = 0) (some (0, d)) (ix_ck (a0 < 6) (ix_if ((0 : Int32) = 0) (some (1, d)) (some (0, d))))
set_option maxRecDepth 20000 in
theorem c_J0_isLatin1_aae02 {l : Launch} {K : ix_Cx} (hKp : ix_Kp K) (hT : ix_Tc K) {n : Nat} {z : ix_Z} {a0 : Nat} {d : ix_D2} {r : Int32} {d1 : ix_D2} (h : f_J0_isLatin1_aae02 n z a0 d = some (r, d1)) : ix_M l K yJ0_isLatin1_aae02 cJ0_isLatin1_aae02 1 (some .boolean) 0 0 0 0 [.ref (K.2.1 (100 + a0))] (ix_w z d) (some (.int r)) (ix_w z d1) := by
  refine ix_met mf_J0_isLatin1_aae02 hKp (Nat.le_of_ble_eq_true rfl) ?_
  intro p e s m args below meth c hr hlk hnm X
  have X : ix_X p s m args c K cJ0_isLatin1_aae02 RJ0 1 := X
  show ix_G p l e (ix_rm 0 0 0 0) s m args below meth c (MQ below (ix_Post K (some (.int r)) (ix_w z d1)) args s 0 0 (ix_A K)) K 1 0 0 0 [(0, .ref (K.2.1 (100 + a0)))] [] (ix_w z d)
  unfold f_J0_isLatin1_aae02 at h
  refine ix_tsta (pl := 723) X hT (by decide +kernel) (ix_tb_at tb_J0_isLatin1_aae02 0 rfl) (pc1 := 3) rfl ?_
  refine ix_if_eq (tgt := 17) X (ix_tb_at tb_J0_isLatin1_aae02 1 rfl) (by decide) (pc1 := 6) rfl (fun q_1 => ?_) (fun q_1 => ?_)
  · have h := ix_ift q_1 h
    refine ix_iconst (v := 0) X (ix_tb_at tb_J0_isLatin1_aae02 7 rfl) (by decide) (pc1 := 18) rfl ?_
    exact ix_zret X hr hlk (by decide) (ix_r2 (f := fun r => some (.int r)) (g := ix_w z) h) (ix_tb_at tb_J0_isLatin1_aae02 8 rfl)
  · have h := ix_iff q_1 h
    refine ix_aload_n (i := 0) (j := 0) X (ix_tb_at tb_J0_isLatin1_aae02 2 rfl) rfl rfl (pc1 := 7) rfl ?_
    obtain ⟨k_2, h⟩ := ix_ck_some h
    refine ix_tcod (pl := 2489) X hT k_2 (by decide +kernel) (ix_tb_at tb_J0_isLatin1_aae02 3 rfl) (pc1 := 10) rfl ?_
    refine ix_if_ne (tgt := 17) X (ix_tb_at tb_J0_isLatin1_aae02 4 rfl) (by decide) (pc1 := 13) rfl (fun q_3 => ?_) (fun q_3 => ?_)
    · have h := ix_iff q_3 h
      refine ix_iconst (v := 0) X (ix_tb_at tb_J0_isLatin1_aae02 7 rfl) (by decide) (pc1 := 18) rfl ?_
      exact ix_zret X hr hlk (by decide) (ix_r2 (f := fun r => some (.int r)) (g := ix_w z) h) (ix_tb_at tb_J0_isLatin1_aae02 8 rfl)
    · have h := ix_ift q_3 h
      refine ix_iconst (v := 1) X (ix_tb_at tb_J0_isLatin1_aae02 5 rfl) (by decide) (pc1 := 14) rfl ?_
      refine ix_goto (tgt := 18) X (ix_tb_at tb_J0_isLatin1_aae02 6 rfl) (by decide) ?_
      exact ix_zret X hr hlk (by decide) (ix_r2 (f := fun r => some (.int r)) (g := ix_w z) h) (ix_tb_at tb_J0_isLatin1_aae02 8 rfl)
def tab_J0_length_8abf5 : List (Nat × Instr × Nat) := [(0, .aload_n 0, 1), (1, .getfield 9, 3), (4, .arraylength, 1), (5, .aload_n 0, 1), (6, .invokevirtual 335, 3), (9, .ishr, 1), (10, .ireturn, 1)]
theorem tb_J0_length_8abf5 : ix_tab cJ0_length_8abf5 tab_J0_length_8abf5 := by
  unfold ix_tab
  decide +kernel
noncomputable def f_J0_length_8abf5 (n : Nat) (z : ix_Z) (a0 : Nat) (d : ix_D2) : Option (Int32 × ix_D2) :=
  ix_ck (a0 < 6) (ix_bd2 (f_J0_coder_7d493 n z a0  d) (fun r_2 d_3 => some ((nI (ix_slen.getD a0 0)) >>> (r_2 &&& 31), d_3)))
set_option maxRecDepth 20000 in
theorem c_J0_length_8abf5 {l : Launch} {K : ix_Cx} (hKp : ix_Kp K) (hT : ix_Tc K) {n : Nat} {z : ix_Z} {a0 : Nat} {d : ix_D2} {r : Int32} {d1 : ix_D2} (h : f_J0_length_8abf5 n z a0 d = some (r, d1)) : ix_M l K yJ0_length_8abf5 cJ0_length_8abf5 1 (some .int) 1 20 0 0 [.ref (K.2.1 (100 + a0))] (ix_w z d) (some (.int r)) (ix_w z d1) := by
  refine ix_met mf_J0_length_8abf5 hKp (Nat.le_of_ble_eq_true rfl) ?_
  intro p e s m args below meth c hr hlk hnm X
  have X : ix_X p s m args c K cJ0_length_8abf5 RJ0 1 := X
  show ix_G p l e (ix_rm 1 20 0 0) s m args below meth c (MQ below (ix_Post K (some (.int r)) (ix_w z d1)) args s 0 0 (ix_A K)) K 1 0 0 0 [(0, .ref (K.2.1 (100 + a0)))] [] (ix_w z d)
  unfold f_J0_length_8abf5 at h
  refine ix_aload_n (i := 0) (j := 0) X (ix_tb_at tb_J0_length_8abf5 0 rfl) rfl rfl (pc1 := 1) rfl ?_
  obtain ⟨k_1, h⟩ := ix_ck_some h
  refine ix_tval (pl := 2490) X hT k_1 (by decide +kernel) (ix_tb_at tb_J0_length_8abf5 1 rfl) (pc1 := 4) rfl ?_
  refine ix_tlen X hT k_1 (ix_tb_at tb_J0_length_8abf5 2 rfl) (pc1 := 5) rfl ?_
  refine ix_aload_n (i := 0) (j := 0) X (ix_tb_at tb_J0_length_8abf5 3 rfl) rfl rfl (pc1 := 6) rfl ?_
  obtain ⟨r_2, d_3, h_4, h⟩ := ix_bd2_ex h
  refine ix_callT (As := []) (rest := [.int (nI (ix_slen.getD a0 0))]) X hT k_1 rfl mf_J0_coder_7d493 mi_J0_coder_7d493 ms_J0_coder_7d493 ml_RJ0_335 ⟨Nat.le_of_ble_eq_true rfl, Nat.le_of_ble_eq_true rfl⟩ ⟨Nat.le_of_ble_eq_true rfl, Nat.le_of_ble_eq_true rfl⟩ rfl (Nat.le_of_ble_eq_true rfl) (ix_tb_at tb_J0_length_8abf5 4 rfl) (c_J0_coder_7d493 hKp hT h_4) rfl (pc1 := 9) rfl ?_
  refine ix_ishr X (ix_tb_at tb_J0_length_8abf5 5 rfl) (pc1 := 10) rfl ?_
  exact ix_iret X hr hlk (ix_r2 (f := fun r => some (.int r)) (g := ix_w z) h) (ix_tb_at tb_J0_length_8abf5 6 rfl)
def tab_J3_checkIndex_8e157 : List (Nat × Instr × Nat) := [(0, .iload_n 0, 1), (1, .ifCond .lt 8, 3), (4, .iload_n 0, 1), (5, .iload_n 1, 1), (6, .if_icmp .lt 10, 3), (9, .aload_n 2, 1), (10, .iload_n 0, 1), (11, .iload_n 1, 1), (12, .invokestatic 95, 3), (15, .athrow, 1), (16, .iload_n 0, 1), (17, .ireturn, 1)]
theorem tb_J3_checkIndex_8e157 : ix_tab cJ3_checkIndex_8e157 tab_J3_checkIndex_8e157 := by
  unfold ix_tab
  decide +kernel
noncomputable def f_J3_checkIndex_8e157_9 (n : Nat) (z : ix_Z)  (x0 : Int32) (x1 : Int32) (d : ix_D2) : Option (Int32 × ix_D2) :=
  none
noncomputable def f_J3_checkIndex_8e157 (n : Nat) (z : ix_Z) (x0 : Int32) (x1 : Int32) (d : ix_D2) : Option (Int32 × ix_D2) :=
  ix_if (x0 < 0) (f_J3_checkIndex_8e157_9 n z  x0 x1 d) (ix_if (x0 < x1) (some (x0, d)) (f_J3_checkIndex_8e157_9 n z  x0 x1 d))
set_option maxRecDepth 20000 in
theorem t_J3_checkIndex_8e157_9 {l : Launch} {p : Program} {e : Env} {s : State} {m : MethodId} {args : Array Value} {below : List Frame} {meth : Method} {c : Code} {K : ix_Cx} (hKp : ix_Kp K) {n : Nat} {z : ix_Z} (X : ix_X p s m args c K cJ3_checkIndex_8e157 RJ3 3) (hr : meth.sig.returnType = (some .int)) (hlk : meth.locks = false)  {x0 : Int32} {x1 : Int32} {r : Int32} {d1 : ix_D2}  {d : ix_D2} (h : f_J3_checkIndex_8e157_9 n z  x0 x1 d = some (r, d1)) : ix_G p l e (ix_rm 0 0 0 0) s m args below meth c (MQ below (ix_Post K (some (.int r)) (ix_w z d1)) args s 0 0 (ix_A K)) K 3 0 0 9 [(0, .int x0), (1, .int x1)] [] (ix_w z d) := by
  unfold f_J3_checkIndex_8e157_9 at h
  cases h
set_option maxRecDepth 20000 in
theorem c_J3_checkIndex_8e157 {l : Launch} {K : ix_Cx} (hKp : ix_Kp K) {n : Nat} {z : ix_Z} {x0 : Int32} {x1 : Int32} {d : ix_D2} {r : Int32} {d1 : ix_D2} (h : f_J3_checkIndex_8e157 n z x0 x1 d = some (r, d1)) : ix_M l K yJ3_checkIndex_8e157 cJ3_checkIndex_8e157 3 (some .int) 0 0 0 0 [.int x0, .int x1, ix_fmt K] (ix_w z d) (some (.int r)) (ix_w z d1) := by
  refine ix_met mf_J3_checkIndex_8e157 hKp (by simp only [lg_sl, List.flatMap_cons, List.flatMap_nil, ix_fcat]; exact Nat.le_of_ble_eq_true rfl) ?_
  intro p e s m args below meth c hr hlk hnm X
  have X : ix_X p s m args c K cJ3_checkIndex_8e157 RJ3 3 := X
  show ix_G p l e (ix_rm 0 0 0 0) s m args below meth c (MQ below (ix_Post K (some (.int r)) (ix_w z d1)) args s 0 0 (ix_A K)) K 3 0 0 0 [(0, .int x0), (1, .int x1), (2, ix_fmt K)] [] (ix_w z d)
  unfold f_J3_checkIndex_8e157 at h
  refine ix_iload_n (i := 0) (j := 0) X (ix_tb_at tb_J3_checkIndex_8e157 0 rfl) rfl rfl (pc1 := 1) rfl ?_
  refine ix_if_lt (tgt := 9) X (ix_tb_at tb_J3_checkIndex_8e157 1 rfl) (by decide) (pc1 := 4) rfl (fun q_1 => ?_) (fun q_1 => ?_)
  · have h := ix_ift q_1 h
    refine ix_sub (L1 := [(0, .int x0), (1, .int x1)]) [0, 1] rfl ?_
    exact t_J3_checkIndex_8e157_9 hKp X hr hlk  h
  · have h := ix_iff q_1 h
    refine ix_iload_n (i := 0) (j := 0) X (ix_tb_at tb_J3_checkIndex_8e157 2 rfl) rfl rfl (pc1 := 5) rfl ?_
    refine ix_iload_n (i := 1) (j := 1) X (ix_tb_at tb_J3_checkIndex_8e157 3 rfl) rfl rfl (pc1 := 6) rfl ?_
    refine ix_icmp_lt (tgt := 16) X (ix_tb_at tb_J3_checkIndex_8e157 4 rfl) (by decide) (pc1 := 9) rfl (fun q_2 => ?_) (fun q_2 => ?_)
    · have h := ix_ift q_2 h
      refine ix_iload_n (i := 0) (j := 0) X (ix_tb_at tb_J3_checkIndex_8e157 10 rfl) rfl rfl (pc1 := 17) rfl ?_
      exact ix_iret X hr hlk (ix_r2 (f := fun r => some (.int r)) (g := ix_w z) h) (ix_tb_at tb_J3_checkIndex_8e157 11 rfl)
    · have h := ix_iff q_2 h
      refine ix_sub (L1 := [(0, .int x0), (1, .int x1)]) [0, 1] rfl ?_
      exact t_J3_checkIndex_8e157_9 hKp X hr hlk  h
def tab_J0_checkIndex_df160 : List (Nat × Instr × Nat) := [(0, .iload_n 0, 1), (1, .iload_n 1, 1), (2, .getstatic 1053, 3), (5, .invokestatic 1059, 3), (8, .pop, 1), (9, .return_, 1)]
theorem tb_J0_checkIndex_df160 : ix_tab cJ0_checkIndex_df160 tab_J0_checkIndex_df160 := by
  unfold ix_tab
  decide +kernel
noncomputable def f_J0_checkIndex_df160 (n : Nat) (z : ix_Z) (x0 : Int32) (x1 : Int32) (d : ix_D2) : Option (ix_D2) :=
  ix_bd2 (f_J3_checkIndex_8e157 n z x0 x1 d) (fun r_3 d_1 => some d_1)
set_option maxRecDepth 20000 in
theorem c_J0_checkIndex_df160 {l : Launch} {K : ix_Cx} (hKp : ix_Kp K) (hT : ix_Tc K) {n : Nat} {z : ix_Z} {x0 : Int32} {x1 : Int32} {d : ix_D2} {d1 : ix_D2} (h : f_J0_checkIndex_df160 n z x0 x1 d = some d1) : ix_M l K yJ0_checkIndex_df160 cJ0_checkIndex_df160 2 (none : Option Jvm.ClassFile.FieldType) 1 22 0 0 [.int x0, .int x1] (ix_w z d) none (ix_w z d1) := by
  refine ix_met mf_J0_checkIndex_df160 hKp (Nat.le_of_ble_eq_true rfl) ?_
  intro p e s m args below meth c hr hlk hnm X
  have X : ix_X p s m args c K cJ0_checkIndex_df160 RJ0 2 := X
  show ix_G p l e (ix_rm 1 22 0 0) s m args below meth c (MQ below (ix_Post K none (ix_w z d1)) args s 0 0 (ix_A K)) K 2 0 0 0 [(0, .int x0), (1, .int x1)] [] (ix_w z d)
  unfold f_J0_checkIndex_df160 at h
  refine ix_iload_n (i := 0) (j := 0) X (ix_tb_at tb_J0_checkIndex_df160 0 rfl) rfl rfl (pc1 := 1) rfl ?_
  refine ix_iload_n (i := 1) (j := 1) X (ix_tb_at tb_J0_checkIndex_df160 1 rfl) rfl rfl (pc1 := 2) rfl ?_
  refine ix_tfmt (pl := 762) X hT (by decide +kernel) (ix_tb_at tb_J0_checkIndex_df160 2 rfl) (pc1 := 5) rfl ?_
  obtain ⟨r_3, d_1, h_2, h⟩ := ix_bd2_ex h
  refine ix_callS (As := [.int x0, .int x1, ix_fmt K]) (rest := []) X mf_J3_checkIndex_8e157 st_J3_checkIndex_8e157 ml_RJ0_1059 ⟨Nat.le_of_ble_eq_true rfl, Nat.le_of_ble_eq_true rfl⟩ ⟨Nat.le_of_ble_eq_true rfl, Nat.le_of_ble_eq_true rfl⟩ rfl (Nat.le_of_ble_eq_true rfl) (ix_tb_at tb_J0_checkIndex_df160 3 rfl) (c_J3_checkIndex_8e157 hKp h_2) rfl (pc1 := 8) rfl ?_
  refine ix_pop X (ix_tb_at tb_J0_checkIndex_df160 4 rfl) rfl (pc1 := 9) rfl ?_
  exact ix_vret X hr hlk (ix_r1 (g := ix_w z) h) (ix_tb_at tb_J0_checkIndex_df160 5 rfl)
def tab_J1_charAt_3b067 : List (Nat × Instr × Nat) := [(0, .iload_n 1, 1), (1, .aload_n 0, 1), (2, .arraylength, 1), (3, .invokestatic 9, 3), (6, .aload_n 0, 1), (7, .iload_n 1, 1), (8, .baload, 1), (9, .sipush 255, 3), (12, .iand, 1), (13, .i2c, 1), (14, .ireturn, 1)]
theorem tb_J1_charAt_3b067 : ix_tab cJ1_charAt_3b067 tab_J1_charAt_3b067 := by
  unfold ix_tab
  decide +kernel
noncomputable def f_J1_charAt_3b067 (n : Nat) (z : ix_Z) (a0 : Nat) (x1 : Int32) (d : ix_D2) : Option (Int32 × ix_D2) :=
  ix_ck (a0 < 6) (ix_bd1 (f_J0_checkIndex_df160 n z x1 (nI (ix_slen.getD a0 0)) d) (fun d_2 => ix_ck (a0 < 6 ∧ vp_in x1 (ix_slen.getD a0 0)) (ix_ck (narrow .char (.int (((((ix_byt.getD a0 []).getD (ix_n x1) 0) &&& 255).toUInt32 % 65536).toInt32)) = .int (((((ix_byt.getD a0 []).getD (ix_n x1) 0) &&& 255).toUInt32 % 65536).toInt32)) (some (((((ix_byt.getD a0 []).getD (ix_n x1) 0) &&& 255).toUInt32 % 65536).toInt32, d_2)))))
set_option maxRecDepth 20000 in
theorem c_J1_charAt_3b067 {l : Launch} {K : ix_Cx} (hKp : ix_Kp K) (hT : ix_Tc K) {n : Nat} {z : ix_Z} {a0 : Nat} {x1 : Int32} {d : ix_D2} {r : Int32} {d1 : ix_D2} (h : f_J1_charAt_3b067 n z a0 x1 d = some (r, d1)) : ix_M l K yJ1_charAt_3b067 cJ1_charAt_3b067 2 (some .char) 2 43 0 0 [.ref (K.2.1 (200 + a0)), .int x1] (ix_w z d) (some (.int r)) (ix_w z d1) := by
  refine ix_met mf_J1_charAt_3b067 hKp (Nat.le_of_ble_eq_true rfl) ?_
  intro p e s m args below meth c hr hlk hnm X
  have X : ix_X p s m args c K cJ1_charAt_3b067 RJ1 2 := X
  show ix_G p l e (ix_rm 2 43 0 0) s m args below meth c (MQ below (ix_Post K (some (.int r)) (ix_w z d1)) args s 0 0 (ix_A K)) K 2 0 0 0 [(0, .ref (K.2.1 (200 + a0))), (1, .int x1)] [] (ix_w z d)
  unfold f_J1_charAt_3b067 at h
  refine ix_iload_n (i := 1) (j := 1) X (ix_tb_at tb_J1_charAt_3b067 0 rfl) rfl rfl (pc1 := 1) rfl ?_
  refine ix_aload_n (i := 0) (j := 0) X (ix_tb_at tb_J1_charAt_3b067 1 rfl) rfl rfl (pc1 := 2) rfl ?_
  obtain ⟨k_1, h⟩ := ix_ck_some h
  refine ix_tlen X hT k_1 (ix_tb_at tb_J1_charAt_3b067 2 rfl) (pc1 := 3) rfl ?_
  obtain ⟨d_2, h_3, h⟩ := ix_bd1_ex h
  refine ix_callS (As := [.int x1, .int (nI (ix_slen.getD a0 0))]) (rest := []) X mf_J0_checkIndex_df160 st_J0_checkIndex_df160 ml_RJ1_9 ⟨Nat.le_of_ble_eq_true rfl, Nat.le_of_ble_eq_true rfl⟩ ⟨Nat.le_of_ble_eq_true rfl, Nat.le_of_ble_eq_true rfl⟩ rfl (Nat.le_of_ble_eq_true rfl) (ix_tb_at tb_J1_charAt_3b067 3 rfl) (c_J0_checkIndex_df160 hKp hT h_3) rfl (pc1 := 6) rfl ?_
  refine ix_aload_n (i := 0) (j := 0) X (ix_tb_at tb_J1_charAt_3b067 4 rfl) rfl rfl (pc1 := 7) rfl ?_
  refine ix_iload_n (i := 1) (j := 1) X (ix_tb_at tb_J1_charAt_3b067 5 rfl) rfl rfl (pc1 := 8) rfl ?_
  obtain ⟨k_4, h⟩ := ix_ck_some h
  refine ix_tbyt X hT k_4 (ix_tb_at tb_J1_charAt_3b067 6 rfl) (pc1 := 9) rfl ?_
  refine ix_sipush (v := 255) X (ix_tb_at tb_J1_charAt_3b067 7 rfl) (by decide) (pc1 := 12) rfl ?_
  refine ix_iand X (ix_tb_at tb_J1_charAt_3b067 8 rfl) (pc1 := 13) rfl ?_
  refine ix_i2c X (ix_tb_at tb_J1_charAt_3b067 9 rfl) (pc1 := 14) rfl ?_
  obtain ⟨k_5, h⟩ := ix_ck_some h
  exact ix_nret X hr hlk k_5 (ix_r2 (f := fun r => some (.int r)) (g := ix_w z) h) (ix_tb_at tb_J1_charAt_3b067 10 rfl)
def tab_J0_charAt_5068e : List (Nat × Instr × Nat) := [(0, .aload_n 0, 1), (1, .invokevirtual 492, 3), (4, .ifCond .eq 12, 3), (7, .aload_n 0, 1), (8, .getfield 9, 3), (11, .iload_n 1, 1), (12, .invokestatic 495, 3), (15, .ireturn, 1), (16, .aload_n 0, 1), (17, .getfield 9, 3), (20, .iload_n 1, 1), (21, .invokestatic 498, 3), (24, .ireturn, 1)]
theorem tb_J0_charAt_5068e : ix_tab cJ0_charAt_5068e tab_J0_charAt_5068e := by
  unfold ix_tab
  decide +kernel
noncomputable def f_J0_charAt_5068e (n : Nat) (z : ix_Z) (a0 : Nat) (x1 : Int32) (d : ix_D2) : Option (Int32 × ix_D2) :=
  ix_ck (a0 < 6) (ix_bd2 (f_J0_isLatin1_aae02 n z a0  d) (fun r_2 d_3 => ix_if (r_2 = 0) (none) (ix_bd2 (f_J1_charAt_3b067 n z a0 x1 d_3) (fun r_8 d_6 => ix_ck (narrow .char (.int r_8) = .int r_8) (some (r_8, d_6))))))
set_option maxRecDepth 20000 in
theorem c_J0_charAt_5068e {l : Launch} {K : ix_Cx} (hKp : ix_Kp K) (hT : ix_Tc K) {n : Nat} {z : ix_Z} {a0 : Nat} {x1 : Int32} {d : ix_D2} {r : Int32} {d1 : ix_D2} (h : f_J0_charAt_5068e n z a0 x1 d = some (r, d1)) : ix_M l K yJ0_charAt_5068e cJ0_charAt_5068e 2 (some .char) 3 64 0 0 [.ref (K.2.1 (100 + a0)), .int x1] (ix_w z d) (some (.int r)) (ix_w z d1) := by
  refine ix_met mf_J0_charAt_5068e hKp (Nat.le_of_ble_eq_true rfl) ?_
  intro p e s m args below meth c hr hlk hnm X
  have X : ix_X p s m args c K cJ0_charAt_5068e RJ0 2 := X
  show ix_G p l e (ix_rm 3 64 0 0) s m args below meth c (MQ below (ix_Post K (some (.int r)) (ix_w z d1)) args s 0 0 (ix_A K)) K 2 0 0 0 [(0, .ref (K.2.1 (100 + a0))), (1, .int x1)] [] (ix_w z d)
  unfold f_J0_charAt_5068e at h
  refine ix_aload_n (i := 0) (j := 0) X (ix_tb_at tb_J0_charAt_5068e 0 rfl) rfl rfl (pc1 := 1) rfl ?_
  obtain ⟨k_1, h⟩ := ix_ck_some h
  obtain ⟨r_2, d_3, h_4, h⟩ := ix_bd2_ex h
  refine ix_callT (As := []) (rest := []) X hT k_1 rfl mf_J0_isLatin1_aae02 mi_J0_isLatin1_aae02 ms_J0_isLatin1_aae02 ml_RJ0_492 ⟨Nat.le_of_ble_eq_true rfl, Nat.le_of_ble_eq_true rfl⟩ ⟨Nat.le_of_ble_eq_true rfl, Nat.le_of_ble_eq_true rfl⟩ rfl (Nat.le_of_ble_eq_true rfl) (ix_tb_at tb_J0_charAt_5068e 1 rfl) (c_J0_isLatin1_aae02 hKp hT h_4) rfl (pc1 := 4) rfl ?_
  refine ix_if_eq (tgt := 16) X (ix_tb_at tb_J0_charAt_5068e 2 rfl) (by decide) (pc1 := 7) rfl (fun q_5 => ?_) (fun q_5 => ?_)
  · have h := ix_ift q_5 h
    refine ix_aload_n (i := 0) (j := 0) X (ix_tb_at tb_J0_charAt_5068e 8 rfl) rfl rfl (pc1 := 17) rfl ?_
    refine ix_tval (pl := 2490) X hT k_1 (by decide +kernel) (ix_tb_at tb_J0_charAt_5068e 9 rfl) (pc1 := 20) rfl ?_
    refine ix_iload_n (i := 1) (j := 1) X (ix_tb_at tb_J0_charAt_5068e 10 rfl) rfl rfl (pc1 := 21) rfl ?_
    cases h
  · have h := ix_iff q_5 h
    refine ix_aload_n (i := 0) (j := 0) X (ix_tb_at tb_J0_charAt_5068e 3 rfl) rfl rfl (pc1 := 8) rfl ?_
    refine ix_tval (pl := 2490) X hT k_1 (by decide +kernel) (ix_tb_at tb_J0_charAt_5068e 4 rfl) (pc1 := 11) rfl ?_
    refine ix_iload_n (i := 1) (j := 1) X (ix_tb_at tb_J0_charAt_5068e 5 rfl) rfl rfl (pc1 := 12) rfl ?_
    obtain ⟨r_8, d_6, h_7, h⟩ := ix_bd2_ex h
    refine ix_callS (As := [.ref (K.2.1 (200 + a0)), .int x1]) (rest := []) X mf_J1_charAt_3b067 st_J1_charAt_3b067 ml_RJ0_495 ⟨Nat.le_of_ble_eq_true rfl, Nat.le_of_ble_eq_true rfl⟩ ⟨Nat.le_of_ble_eq_true rfl, Nat.le_of_ble_eq_true rfl⟩ rfl (Nat.le_of_ble_eq_true rfl) (ix_tb_at tb_J0_charAt_5068e 6 rfl) (c_J1_charAt_3b067 hKp hT h_7) rfl (pc1 := 15) rfl ?_
    obtain ⟨k_9, h⟩ := ix_ck_some h
    exact ix_nret X hr hlk k_9 (ix_r2 (f := fun r => some (.int r)) (g := ix_w z) h) (ix_tb_at tb_J0_charAt_5068e 7 rfl)
def tab_J1_canEncode_9a6ad : List (Nat × Instr × Nat) := [(0, .iload_n 0, 1), (1, .ifCond .lt 14, 3), (4, .iload_n 0, 1), (5, .sipush 255, 3), (8, .if_icmp .gt 7, 3), (11, .iconst 1, 1), (12, .goto 4, 3), (15, .iconst 0, 1), (16, .ireturn, 1)]
theorem tb_J1_canEncode_9a6ad : ix_tab cJ1_canEncode_9a6ad tab_J1_canEncode_9a6ad := by
  unfold ix_tab
  decide +kernel
noncomputable def f_J1_canEncode_9a6ad (n : Nat) (z : ix_Z) (x0 : Int32) (d : ix_D2) : Option (Int32 × ix_D2) :=
  ix_if (x0 < 0) (some (0, d)) (ix_if (255 < x0) (some (0, d)) (some (1, d)))
set_option maxRecDepth 20000 in
theorem c_J1_canEncode_9a6ad {l : Launch} {K : ix_Cx} (hKp : ix_Kp K) {n : Nat} {z : ix_Z} {x0 : Int32} {d : ix_D2} {r : Int32} {d1 : ix_D2} (h : f_J1_canEncode_9a6ad n z x0 d = some (r, d1)) : ix_M l K yJ1_canEncode_9a6ad cJ1_canEncode_9a6ad 1 (some .boolean) 0 0 0 0 [.int x0] (ix_w z d) (some (.int r)) (ix_w z d1) := by
  refine ix_met mf_J1_canEncode_9a6ad hKp (Nat.le_of_ble_eq_true rfl) ?_
  intro p e s m args below meth c hr hlk hnm X
  have X : ix_X p s m args c K cJ1_canEncode_9a6ad RJ1 1 := X
  show ix_G p l e (ix_rm 0 0 0 0) s m args below meth c (MQ below (ix_Post K (some (.int r)) (ix_w z d1)) args s 0 0 (ix_A K)) K 1 0 0 0 [(0, .int x0)] [] (ix_w z d)
  unfold f_J1_canEncode_9a6ad at h
  refine ix_iload_n (i := 0) (j := 0) X (ix_tb_at tb_J1_canEncode_9a6ad 0 rfl) rfl rfl (pc1 := 1) rfl ?_
  refine ix_if_lt (tgt := 15) X (ix_tb_at tb_J1_canEncode_9a6ad 1 rfl) (by decide) (pc1 := 4) rfl (fun q_1 => ?_) (fun q_1 => ?_)
  · have h := ix_ift q_1 h
    refine ix_iconst (v := 0) X (ix_tb_at tb_J1_canEncode_9a6ad 7 rfl) (by decide) (pc1 := 16) rfl ?_
    exact ix_zret X hr hlk (by decide) (ix_r2 (f := fun r => some (.int r)) (g := ix_w z) h) (ix_tb_at tb_J1_canEncode_9a6ad 8 rfl)
  · have h := ix_iff q_1 h
    refine ix_iload_n (i := 0) (j := 0) X (ix_tb_at tb_J1_canEncode_9a6ad 2 rfl) rfl rfl (pc1 := 5) rfl ?_
    refine ix_sipush (v := 255) X (ix_tb_at tb_J1_canEncode_9a6ad 3 rfl) (by decide) (pc1 := 8) rfl ?_
    refine ix_icmp_gt (tgt := 15) X (ix_tb_at tb_J1_canEncode_9a6ad 4 rfl) (by decide) (pc1 := 11) rfl (fun q_2 => ?_) (fun q_2 => ?_)
    · have h := ix_ift q_2 h
      refine ix_iconst (v := 0) X (ix_tb_at tb_J1_canEncode_9a6ad 7 rfl) (by decide) (pc1 := 16) rfl ?_
      exact ix_zret X hr hlk (by decide) (ix_r2 (f := fun r => some (.int r)) (g := ix_w z) h) (ix_tb_at tb_J1_canEncode_9a6ad 8 rfl)
    · have h := ix_iff q_2 h
      refine ix_iconst (v := 1) X (ix_tb_at tb_J1_canEncode_9a6ad 5 rfl) (by decide) (pc1 := 12) rfl ?_
      refine ix_goto (tgt := 16) X (ix_tb_at tb_J1_canEncode_9a6ad 6 rfl) (by decide) ?_
      exact ix_zret X hr hlk (by decide) (ix_r2 (f := fun r => some (.int r)) (g := ix_w z) h) (ix_tb_at tb_J1_canEncode_9a6ad 8 rfl)
def tab_J1_indexOfChar_4cfef : List (Nat × Instr × Nat) := [(0, .iload_n 1, 1), (1, .i2b, 1), (2, .istore 4, 2), (4, .iload_n 2, 1), (5, .istore 5, 2), (7, .iload 5, 2), (9, .iload_n 3, 1), (10, .if_icmp .ge 21, 3), (13, .aload_n 0, 1), (14, .iload 5, 2), (16, .baload, 1), (17, .iload 4, 2), (19, .if_icmp .ne 6, 3), (22, .iload 5, 2), (24, .ireturn, 1), (25, .iinc 5 1, 3), (28, .goto (-21), 3), (31, .iconst (-1), 1), (32, .ireturn, 1)]
theorem tb_J1_indexOfChar_4cfef : ix_tab cJ1_indexOfChar_4cfef tab_J1_indexOfChar_4cfef := by
  unfold ix_tab
  decide +kernel
noncomputable def b_J1_indexOfChar_4cfef_7 (n : Nat) (z : ix_Z)  (a0 : Nat) (x3 : Int32) (x4 : Int32) (rec7 : Int32 → ix_D2 → Option (Int32 × ix_D2)) (x5 : Int32) (d : ix_D2) : Option (Int32 × ix_D2) :=
  ix_if (x3 ≤ x5) (some ((-1), d)) (ix_ck (a0 < 6 ∧ vp_in x5 (ix_slen.getD a0 0)) (ix_if ((ix_byt.getD a0 []).getD (ix_n x5) 0 = x4) (some (x5, d)) (ix_lt (x5 + 1) (fun x5_6 => rec7 x5_6 d))))
noncomputable def f_J1_indexOfChar_4cfef_7 (n : Nat) (z : ix_Z)  (a0 : Nat) (x3 : Int32) (x4 : Int32) (x5 : Int32) (d : ix_D2) : Option (Int32 × ix_D2) := ix_fix (b_J1_indexOfChar_4cfef_7 n z  a0 x3 x4) (fun _ _ => none) n x5 d
noncomputable def f_J1_indexOfChar_4cfef (n : Nat) (z : ix_Z) (a0 : Nat) (x1 : Int32) (x2 : Int32) (x3 : Int32) (d : ix_D2) : Option (Int32 × ix_D2) :=
  ix_lt (x1.toInt8.toInt32) (fun x4_1 => f_J1_indexOfChar_4cfef_7 n z  a0 x3 x4_1 x2 d)
set_option maxRecDepth 20000 in
theorem tb_J1_indexOfChar_4cfef_7 {l : Launch} {p : Program} {e : Env} {s : State} {m : MethodId} {args : Array Value} {below : List Frame} {meth : Method} {c : Code} {K : ix_Cx} (hKp : ix_Kp K) {n : Nat} {z : ix_Z} (hT : ix_Tc K) (X : ix_X p s m args c K cJ1_indexOfChar_4cfef RJ1 6) (hr : meth.sig.returnType = (some .int)) (hlk : meth.locks = false)  {a0 : Nat} {x3 : Int32} {x4 : Int32} {rec7 : Int32 → ix_D2 → Option (Int32 × ix_D2)} {r : Int32} {d1 : ix_D2} (hrec7 : ∀ (x5 : Int32) (d : ix_D2), rec7 x5 d = some (r, d1) → ix_G p l e (ix_rm 0 0 0 0) s m args below meth c (MQ below (ix_Post K (some (.int r)) (ix_w z d1)) args s 0 0 (ix_A K)) K 6 0 0 7 [(0, .ref (K.2.1 (200 + a0))), (3, .int x3), (4, .int x4), (5, .int x5)] [] (ix_w z d)) {x5 : Int32} {d : ix_D2} (h : b_J1_indexOfChar_4cfef_7 n z  a0 x3 x4 rec7 x5 d = some (r, d1)) : ix_G p l e (ix_rm 0 0 0 0) s m args below meth c (MQ below (ix_Post K (some (.int r)) (ix_w z d1)) args s 0 0 (ix_A K)) K 6 0 0 7 [(0, .ref (K.2.1 (200 + a0))), (3, .int x3), (4, .int x4), (5, .int x5)] [] (ix_w z d) := by
  unfold b_J1_indexOfChar_4cfef_7 at h
  refine ix_iload (i := 5) (j := 3) X (ix_tb_at tb_J1_indexOfChar_4cfef 5 rfl) rfl (pc1 := 9) rfl ?_
  refine ix_iload_n (i := 3) (j := 1) X (ix_tb_at tb_J1_indexOfChar_4cfef 6 rfl) rfl rfl (pc1 := 10) rfl ?_
  refine ix_icmp_ge (tgt := 31) X (ix_tb_at tb_J1_indexOfChar_4cfef 7 rfl) (by decide) (pc1 := 13) rfl (fun q_3 => ?_) (fun q_3 => ?_)
  · have h := ix_ift q_3 h
    refine ix_iconst (v := (-1)) X (ix_tb_at tb_J1_indexOfChar_4cfef 17 rfl) (by decide) (pc1 := 32) rfl ?_
    exact ix_iret X hr hlk (ix_r2 (f := fun r => some (.int r)) (g := ix_w z) h) (ix_tb_at tb_J1_indexOfChar_4cfef 18 rfl)
  · have h := ix_iff q_3 h
    refine ix_aload_n (i := 0) (j := 0) X (ix_tb_at tb_J1_indexOfChar_4cfef 8 rfl) rfl rfl (pc1 := 14) rfl ?_
    refine ix_iload (i := 5) (j := 3) X (ix_tb_at tb_J1_indexOfChar_4cfef 9 rfl) rfl (pc1 := 16) rfl ?_
    obtain ⟨k_4, h⟩ := ix_ck_some h
    refine ix_tbyt X hT k_4 (ix_tb_at tb_J1_indexOfChar_4cfef 10 rfl) (pc1 := 17) rfl ?_
    refine ix_iload (i := 4) (j := 2) X (ix_tb_at tb_J1_indexOfChar_4cfef 11 rfl) rfl (pc1 := 19) rfl ?_
    refine ix_icmp_ne (tgt := 25) X (ix_tb_at tb_J1_indexOfChar_4cfef 12 rfl) (by decide) (pc1 := 22) rfl (fun q_5 => ?_) (fun q_5 => ?_)
    · have h := ix_iff q_5 h
      obtain ⟨x5_6, e_7, h⟩ := ix_lt_ex h
      refine ix_iinc (i := 5) (j := 3) (v := x5_6) (L1 := [(5, .int x5_6), (0, .ref (K.2.1 (200 + a0))), (3, .int x3), (4, .int x4)]) X (ix_tb_at tb_J1_indexOfChar_4cfef 15 rfl) rfl (by rw [oi_1]; exact e_7.symm) (Nat.le_of_ble_eq_true rfl) rfl (pc1 := 28) rfl ?_
      refine ix_goto (tgt := 7) X (ix_tb_at tb_J1_indexOfChar_4cfef 16 rfl) (by decide) ?_
      refine ix_sub (L1 := [(0, .ref (K.2.1 (200 + a0))), (3, .int x3), (4, .int x4), (5, .int x5_6)]) [1, 2, 3, 0] rfl ?_
      exact hrec7 x5_6 d h
    · have h := ix_ift q_5 h
      refine ix_iload (i := 5) (j := 3) X (ix_tb_at tb_J1_indexOfChar_4cfef 13 rfl) rfl (pc1 := 24) rfl ?_
      exact ix_iret X hr hlk (ix_r2 (f := fun r => some (.int r)) (g := ix_w z) h) (ix_tb_at tb_J1_indexOfChar_4cfef 14 rfl)
theorem t_J1_indexOfChar_4cfef_7 {l : Launch} {p : Program} {e : Env} {s : State} {m : MethodId} {args : Array Value} {below : List Frame} {meth : Method} {c : Code} {K : ix_Cx} (hKp : ix_Kp K) {n : Nat} {z : ix_Z} (hT : ix_Tc K) (X : ix_X p s m args c K cJ1_indexOfChar_4cfef RJ1 6) (hr : meth.sig.returnType = (some .int)) (hlk : meth.locks = false)  {a0 : Nat} {x3 : Int32} {x4 : Int32} {r : Int32} {d1 : ix_D2}  {x5 : Int32} {d : ix_D2} (h : f_J1_indexOfChar_4cfef_7 n z  a0 x3 x4 x5 d = some (r, d1)) : ix_G p l e (ix_rm 0 0 0 0) s m args below meth c (MQ below (ix_Post K (some (.int r)) (ix_w z d1)) args s 0 0 (ix_A K)) K 6 0 0 7 [(0, .ref (K.2.1 (200 + a0))), (3, .int x3), (4, .int x4), (5, .int x5)] [] (ix_w z d) := by
  have key : ∀ (f : Nat) (x5 : Int32) (d : ix_D2), ix_fix (b_J1_indexOfChar_4cfef_7 n z  a0 x3 x4) (fun _ _ => none) f x5 d = some (r, d1) → ix_G p l e (ix_rm 0 0 0 0) s m args below meth c (MQ below (ix_Post K (some (.int r)) (ix_w z d1)) args s 0 0 (ix_A K)) K 6 0 0 7 [(0, .ref (K.2.1 (200 + a0))), (3, .int x3), (4, .int x4), (5, .int x5)] [] (ix_w z d) := by
    intro f
    induction f with
    | zero =>
      intro x5 d h
      have h : (none : Option (Int32 × ix_D2)) = some (r, d1) := h
      cases h
    | succ f ih =>
      intro x5 d h
      exact tb_J1_indexOfChar_4cfef_7 hKp hT X hr hlk (rec7 := ix_fix (b_J1_indexOfChar_4cfef_7 n z  a0 x3 x4) (fun _ _ => none) f)  ih h
  exact key n x5 d h
set_option maxRecDepth 20000 in
theorem c_J1_indexOfChar_4cfef {l : Launch} {K : ix_Cx} (hKp : ix_Kp K) (hT : ix_Tc K) {n : Nat} {z : ix_Z} {a0 : Nat} {x1 : Int32} {x2 : Int32} {x3 : Int32} {d : ix_D2} {r : Int32} {d1 : ix_D2} (h : f_J1_indexOfChar_4cfef n z a0 x1 x2 x3 d = some (r, d1)) : ix_M l K yJ1_indexOfChar_4cfef cJ1_indexOfChar_4cfef 6 (some .int) 0 0 0 0 [.ref (K.2.1 (200 + a0)), .int x1, .int x2, .int x3] (ix_w z d) (some (.int r)) (ix_w z d1) := by
  refine ix_met mf_J1_indexOfChar_4cfef hKp (Nat.le_of_ble_eq_true rfl) ?_
  intro p e s m args below meth c hr hlk hnm X
  have X : ix_X p s m args c K cJ1_indexOfChar_4cfef RJ1 6 := X
  show ix_G p l e (ix_rm 0 0 0 0) s m args below meth c (MQ below (ix_Post K (some (.int r)) (ix_w z d1)) args s 0 0 (ix_A K)) K 6 0 0 0 [(0, .ref (K.2.1 (200 + a0))), (1, .int x1), (2, .int x2), (3, .int x3)] [] (ix_w z d)
  unfold f_J1_indexOfChar_4cfef at h
  refine ix_iload_n (i := 1) (j := 1) X (ix_tb_at tb_J1_indexOfChar_4cfef 0 rfl) rfl rfl (pc1 := 1) rfl ?_
  refine ix_i2b X (ix_tb_at tb_J1_indexOfChar_4cfef 1 rfl) (pc1 := 2) rfl ?_
  obtain ⟨x4_1, e_2, h⟩ := ix_lt_ex h
  refine ix_nmi e_2 ?_
  refine ix_istore (i := 4) (L1 := [(4, .int x4_1), (0, .ref (K.2.1 (200 + a0))), (1, .int x1), (2, .int x2), (3, .int x3)]) X (ix_tb_at tb_J1_indexOfChar_4cfef 2 rfl) (Nat.le_of_ble_eq_true rfl) rfl (pc1 := 4) rfl ?_
  refine ix_iload_n (i := 2) (j := 3) X (ix_tb_at tb_J1_indexOfChar_4cfef 3 rfl) rfl rfl (pc1 := 5) rfl ?_
  refine ix_istore (i := 5) (L1 := [(5, .int x2), (4, .int x4_1), (0, .ref (K.2.1 (200 + a0))), (1, .int x1), (2, .int x2), (3, .int x3)]) X (ix_tb_at tb_J1_indexOfChar_4cfef 4 rfl) (Nat.le_of_ble_eq_true rfl) rfl (pc1 := 7) rfl ?_
  refine ix_sub (L1 := [(0, .ref (K.2.1 (200 + a0))), (3, .int x3), (4, .int x4_1), (5, .int x2)]) [2, 5, 1, 0] rfl ?_
  exact t_J1_indexOfChar_4cfef_7 hKp hT X hr hlk  h
def tab_J1_indexOf_4cfef : List (Nat × Instr × Nat) := [(0, .iload_n 1, 1), (1, .invokestatic 88, 3), (4, .ifCond .ne 5, 3), (7, .iconst (-1), 1), (8, .ireturn, 1), (9, .iload_n 2, 1), (10, .iconst 0, 1), (11, .invokestatic 92, 3), (14, .istore_n 2, 1), (15, .iload_n 3, 1), (16, .aload_n 0, 1), (17, .arraylength, 1), (18, .invokestatic 38, 3), (21, .istore_n 3, 1), (22, .iload_n 2, 1), (23, .iload_n 3, 1), (24, .if_icmp .lt 5, 3), (27, .iconst (-1), 1), (28, .ireturn, 1), (29, .aload_n 0, 1), (30, .iload_n 1, 1), (31, .iload_n 2, 1), (32, .iload_n 3, 1), (33, .invokestatic 95, 3), (36, .ireturn, 1)]
theorem tb_J1_indexOf_4cfef : ix_tab cJ1_indexOf_4cfef tab_J1_indexOf_4cfef := by
  unfold ix_tab
  decide +kernel
noncomputable def f_J1_indexOf_4cfef (n : Nat) (z : ix_Z) (a0 : Nat) (x1 : Int32) (x2 : Int32) (x3 : Int32) (d : ix_D2) : Option (Int32 × ix_D2) :=
  ix_bd2 (f_J1_canEncode_9a6ad n z x1 d) (fun r_3 d_1 => ix_if (r_3 = 0) (some ((-1), d_1)) (ix_lt (ix_max x2 0) (fun x2_5 => ix_ck (a0 < 6) (ix_lt (ix_min x3 (nI (ix_slen.getD a0 0))) (fun x3_8 => ix_if (x2_5 < x3_8) (ix_bd2 (f_J1_indexOfChar_4cfef n z a0 x1 x2_5 x3_8 d_1) (fun r_13 d_11 => some (r_13, d_11))) (some ((-1), d_1)))))))
set_option maxRecDepth 20000 in
theorem c_J1_indexOf_4cfef {l : Launch} {K : ix_Cx} (hKp : ix_Kp K) (hT : ix_Tc K) {n : Nat} {z : ix_Z} {a0 : Nat} {x1 : Int32} {x2 : Int32} {x3 : Int32} {d : ix_D2} {r : Int32} {d1 : ix_D2} (h : f_J1_indexOf_4cfef n z a0 x1 x2 x3 d = some (r, d1)) : ix_M l K yJ1_indexOf_4cfef cJ1_indexOf_4cfef 4 (some .int) 1 25 0 0 [.ref (K.2.1 (200 + a0)), .int x1, .int x2, .int x3] (ix_w z d) (some (.int r)) (ix_w z d1) := by
  refine ix_met mf_J1_indexOf_4cfef hKp (Nat.le_of_ble_eq_true rfl) ?_
  intro p e s m args below meth c hr hlk hnm X
  have X : ix_X p s m args c K cJ1_indexOf_4cfef RJ1 4 := X
  show ix_G p l e (ix_rm 1 25 0 0) s m args below meth c (MQ below (ix_Post K (some (.int r)) (ix_w z d1)) args s 0 0 (ix_A K)) K 4 0 0 0 [(0, .ref (K.2.1 (200 + a0))), (1, .int x1), (2, .int x2), (3, .int x3)] [] (ix_w z d)
  unfold f_J1_indexOf_4cfef at h
  refine ix_iload_n (i := 1) (j := 1) X (ix_tb_at tb_J1_indexOf_4cfef 0 rfl) rfl rfl (pc1 := 1) rfl ?_
  obtain ⟨r_3, d_1, h_2, h⟩ := ix_bd2_ex h
  refine ix_callS (As := [.int x1]) (rest := []) X mf_J1_canEncode_9a6ad st_J1_canEncode_9a6ad ml_RJ1_88 ⟨Nat.le_of_ble_eq_true rfl, Nat.le_of_ble_eq_true rfl⟩ ⟨Nat.le_of_ble_eq_true rfl, Nat.le_of_ble_eq_true rfl⟩ rfl (Nat.le_of_ble_eq_true rfl) (ix_tb_at tb_J1_indexOf_4cfef 1 rfl) (c_J1_canEncode_9a6ad hKp h_2) rfl (pc1 := 4) rfl ?_
  refine ix_if_ne (tgt := 9) X (ix_tb_at tb_J1_indexOf_4cfef 2 rfl) (by decide) (pc1 := 7) rfl (fun q_4 => ?_) (fun q_4 => ?_)
  · have h := ix_iff q_4 h
    refine ix_iload_n (i := 2) (j := 2) X (ix_tb_at tb_J1_indexOf_4cfef 5 rfl) rfl rfl (pc1 := 10) rfl ?_
    refine ix_iconst (v := 0) X (ix_tb_at tb_J1_indexOf_4cfef 6 rfl) (by decide) (pc1 := 11) rfl ?_
    refine ix_mmax X ml_RJ1_92 (Nat.le_of_ble_eq_true rfl) (Nat.le_of_ble_eq_true rfl) ⟨Nat.le_of_ble_eq_true rfl, Nat.le_of_ble_eq_true rfl⟩ (ix_tb_at tb_J1_indexOf_4cfef 7 rfl) (pc1 := 14) rfl ?_
    obtain ⟨x2_5, e_6, h⟩ := ix_lt_ex h
    refine ix_nmi e_6 ?_
    refine ix_istore_n (i := 2) (L1 := [(2, .int x2_5), (0, .ref (K.2.1 (200 + a0))), (1, .int x1), (3, .int x3)]) X (ix_tb_at tb_J1_indexOf_4cfef 8 rfl) rfl (Nat.le_of_ble_eq_true rfl) rfl (pc1 := 15) rfl ?_
    refine ix_iload_n (i := 3) (j := 3) X (ix_tb_at tb_J1_indexOf_4cfef 9 rfl) rfl rfl (pc1 := 16) rfl ?_
    refine ix_aload_n (i := 0) (j := 1) X (ix_tb_at tb_J1_indexOf_4cfef 10 rfl) rfl rfl (pc1 := 17) rfl ?_
    obtain ⟨k_7, h⟩ := ix_ck_some h
    refine ix_tlen X hT k_7 (ix_tb_at tb_J1_indexOf_4cfef 11 rfl) (pc1 := 18) rfl ?_
    refine ix_mmin X ml_RJ1_38 (Nat.le_of_ble_eq_true rfl) (Nat.le_of_ble_eq_true rfl) ⟨Nat.le_of_ble_eq_true rfl, Nat.le_of_ble_eq_true rfl⟩ (ix_tb_at tb_J1_indexOf_4cfef 12 rfl) (pc1 := 21) rfl ?_
    obtain ⟨x3_8, e_9, h⟩ := ix_lt_ex h
    refine ix_nmi e_9 ?_
    refine ix_istore_n (i := 3) (L1 := [(3, .int x3_8), (2, .int x2_5), (0, .ref (K.2.1 (200 + a0))), (1, .int x1)]) X (ix_tb_at tb_J1_indexOf_4cfef 13 rfl) rfl (Nat.le_of_ble_eq_true rfl) rfl (pc1 := 22) rfl ?_
    refine ix_iload_n (i := 2) (j := 1) X (ix_tb_at tb_J1_indexOf_4cfef 14 rfl) rfl rfl (pc1 := 23) rfl ?_
    refine ix_iload_n (i := 3) (j := 0) X (ix_tb_at tb_J1_indexOf_4cfef 15 rfl) rfl rfl (pc1 := 24) rfl ?_
    refine ix_icmp_lt (tgt := 29) X (ix_tb_at tb_J1_indexOf_4cfef 16 rfl) (by decide) (pc1 := 27) rfl (fun q_10 => ?_) (fun q_10 => ?_)
    · have h := ix_ift q_10 h
      refine ix_aload_n (i := 0) (j := 2) X (ix_tb_at tb_J1_indexOf_4cfef 19 rfl) rfl rfl (pc1 := 30) rfl ?_
      refine ix_iload_n (i := 1) (j := 3) X (ix_tb_at tb_J1_indexOf_4cfef 20 rfl) rfl rfl (pc1 := 31) rfl ?_
      refine ix_iload_n (i := 2) (j := 1) X (ix_tb_at tb_J1_indexOf_4cfef 21 rfl) rfl rfl (pc1 := 32) rfl ?_
      refine ix_iload_n (i := 3) (j := 0) X (ix_tb_at tb_J1_indexOf_4cfef 22 rfl) rfl rfl (pc1 := 33) rfl ?_
      obtain ⟨r_13, d_11, h_12, h⟩ := ix_bd2_ex h
      refine ix_callS (As := [.ref (K.2.1 (200 + a0)), .int x1, .int x2_5, .int x3_8]) (rest := []) X mf_J1_indexOfChar_4cfef st_J1_indexOfChar_4cfef ml_RJ1_95 ⟨Nat.le_of_ble_eq_true rfl, Nat.le_of_ble_eq_true rfl⟩ ⟨Nat.le_of_ble_eq_true rfl, Nat.le_of_ble_eq_true rfl⟩ rfl (Nat.le_of_ble_eq_true rfl) (ix_tb_at tb_J1_indexOf_4cfef 23 rfl) (c_J1_indexOfChar_4cfef hKp hT h_12) rfl (pc1 := 36) rfl ?_
      exact ix_iret X hr hlk (ix_r2 (f := fun r => some (.int r)) (g := ix_w z) h) (ix_tb_at tb_J1_indexOf_4cfef 24 rfl)
    · have h := ix_iff q_10 h
      refine ix_iconst (v := (-1)) X (ix_tb_at tb_J1_indexOf_4cfef 17 rfl) (by decide) (pc1 := 28) rfl ?_
      exact ix_iret X hr hlk (ix_r2 (f := fun r => some (.int r)) (g := ix_w z) h) (ix_tb_at tb_J1_indexOf_4cfef 18 rfl)
  · have h := ix_ift q_4 h
    refine ix_iconst (v := (-1)) X (ix_tb_at tb_J1_indexOf_4cfef 3 rfl) (by decide) (pc1 := 8) rfl ?_
    exact ix_iret X hr hlk (ix_r2 (f := fun r => some (.int r)) (g := ix_w z) h) (ix_tb_at tb_J1_indexOf_4cfef 4 rfl)
def tab_J0_indexOf_7cf53 : List (Nat × Instr × Nat) := [(0, .aload_n 0, 1), (1, .invokevirtual 492, 3), (4, .ifCond .eq 19, 3), (7, .aload_n 0, 1), (8, .getfield 9, 3), (11, .iload_n 1, 1), (12, .iload_n 2, 1), (13, .aload_n 0, 1), (14, .invokevirtual 505, 3), (17, .invokestatic 637, 3), (20, .goto 16, 3), (23, .aload_n 0, 1), (24, .getfield 9, 3), (27, .iload_n 1, 1), (28, .iload_n 2, 1), (29, .aload_n 0, 1), (30, .invokevirtual 505, 3), (33, .invokestatic 640, 3), (36, .ireturn, 1)]
theorem tb_J0_indexOf_7cf53 : ix_tab cJ0_indexOf_7cf53 tab_J0_indexOf_7cf53 := by
  unfold ix_tab
  decide +kernel
noncomputable def f_J0_indexOf_7cf53 (n : Nat) (z : ix_Z) (a0 : Nat) (x1 : Int32) (x2 : Int32) (d : ix_D2) : Option (Int32 × ix_D2) :=
  ix_ck (a0 < 6) (ix_bd2 (f_J0_isLatin1_aae02 n z a0  d) (fun r_2 d_3 => ix_if (r_2 = 0) (ix_bd2 (f_J0_length_8abf5 n z a0  d_3) (fun r_6 d_7 => none)) (ix_bd2 (f_J0_length_8abf5 n z a0  d_3) (fun r_9 d_10 => ix_bd2 (f_J1_indexOf_4cfef n z a0 x1 x2 r_9 d_10) (fun r_14 d_12 => some (r_14, d_12))))))
set_option maxRecDepth 20000 in
theorem c_J0_indexOf_7cf53 {l : Launch} {K : ix_Cx} (hKp : ix_Kp K) (hT : ix_Tc K) {n : Nat} {z : ix_Z} {a0 : Nat} {x1 : Int32} {x2 : Int32} {d : ix_D2} {r : Int32} {d1 : ix_D2} (h : f_J0_indexOf_7cf53 n z a0 x1 x2 d = some (r, d1)) : ix_M l K yJ0_indexOf_7cf53 cJ0_indexOf_7cf53 3 (some .int) 2 48 0 0 [.ref (K.2.1 (100 + a0)), .int x1, .int x2] (ix_w z d) (some (.int r)) (ix_w z d1) := by
  refine ix_met mf_J0_indexOf_7cf53 hKp (Nat.le_of_ble_eq_true rfl) ?_
  intro p e s m args below meth c hr hlk hnm X
  have X : ix_X p s m args c K cJ0_indexOf_7cf53 RJ0 3 := X
  show ix_G p l e (ix_rm 2 48 0 0) s m args below meth c (MQ below (ix_Post K (some (.int r)) (ix_w z d1)) args s 0 0 (ix_A K)) K 3 0 0 0 [(0, .ref (K.2.1 (100 + a0))), (1, .int x1), (2, .int x2)] [] (ix_w z d)
  unfold f_J0_indexOf_7cf53 at h
  refine ix_aload_n (i := 0) (j := 0) X (ix_tb_at tb_J0_indexOf_7cf53 0 rfl) rfl rfl (pc1 := 1) rfl ?_
  obtain ⟨k_1, h⟩ := ix_ck_some h
  obtain ⟨r_2, d_3, h_4, h⟩ := ix_bd2_ex h
  refine ix_callT (As := []) (rest := []) X hT k_1 rfl mf_J0_isLatin1_aae02 mi_J0_isLatin1_aae02 ms_J0_isLatin1_aae02 ml_RJ0_492 ⟨Nat.le_of_ble_eq_true rfl, Nat.le_of_ble_eq_true rfl⟩ ⟨Nat.le_of_ble_eq_true rfl, Nat.le_of_ble_eq_true rfl⟩ rfl (Nat.le_of_ble_eq_true rfl) (ix_tb_at tb_J0_indexOf_7cf53 1 rfl) (c_J0_isLatin1_aae02 hKp hT h_4) rfl (pc1 := 4) rfl ?_
  refine ix_if_eq (tgt := 23) X (ix_tb_at tb_J0_indexOf_7cf53 2 rfl) (by decide) (pc1 := 7) rfl (fun q_5 => ?_) (fun q_5 => ?_)
  · have h := ix_ift q_5 h
    refine ix_aload_n (i := 0) (j := 0) X (ix_tb_at tb_J0_indexOf_7cf53 11 rfl) rfl rfl (pc1 := 24) rfl ?_
    refine ix_tval (pl := 2490) X hT k_1 (by decide +kernel) (ix_tb_at tb_J0_indexOf_7cf53 12 rfl) (pc1 := 27) rfl ?_
    refine ix_iload_n (i := 1) (j := 1) X (ix_tb_at tb_J0_indexOf_7cf53 13 rfl) rfl rfl (pc1 := 28) rfl ?_
    refine ix_iload_n (i := 2) (j := 2) X (ix_tb_at tb_J0_indexOf_7cf53 14 rfl) rfl rfl (pc1 := 29) rfl ?_
    refine ix_aload_n (i := 0) (j := 0) X (ix_tb_at tb_J0_indexOf_7cf53 15 rfl) rfl rfl (pc1 := 30) rfl ?_
    obtain ⟨r_6, d_7, h_8, h⟩ := ix_bd2_ex h
    refine ix_callT (As := []) (rest := [.int x2, .int x1, .ref (K.2.1 (200 + a0))]) X hT k_1 rfl mf_J0_length_8abf5 mi_J0_length_8abf5 ms_J0_length_8abf5 ml_RJ0_505 ⟨Nat.le_of_ble_eq_true rfl, Nat.le_of_ble_eq_true rfl⟩ ⟨Nat.le_of_ble_eq_true rfl, Nat.le_of_ble_eq_true rfl⟩ rfl (Nat.le_of_ble_eq_true rfl) (ix_tb_at tb_J0_indexOf_7cf53 16 rfl) (c_J0_length_8abf5 hKp hT h_8) rfl (pc1 := 33) rfl ?_
    cases h
  · have h := ix_iff q_5 h
    refine ix_aload_n (i := 0) (j := 0) X (ix_tb_at tb_J0_indexOf_7cf53 3 rfl) rfl rfl (pc1 := 8) rfl ?_
    refine ix_tval (pl := 2490) X hT k_1 (by decide +kernel) (ix_tb_at tb_J0_indexOf_7cf53 4 rfl) (pc1 := 11) rfl ?_
    refine ix_iload_n (i := 1) (j := 1) X (ix_tb_at tb_J0_indexOf_7cf53 5 rfl) rfl rfl (pc1 := 12) rfl ?_
    refine ix_iload_n (i := 2) (j := 2) X (ix_tb_at tb_J0_indexOf_7cf53 6 rfl) rfl rfl (pc1 := 13) rfl ?_
    refine ix_aload_n (i := 0) (j := 0) X (ix_tb_at tb_J0_indexOf_7cf53 7 rfl) rfl rfl (pc1 := 14) rfl ?_
    obtain ⟨r_9, d_10, h_11, h⟩ := ix_bd2_ex h
    refine ix_callT (As := []) (rest := [.int x2, .int x1, .ref (K.2.1 (200 + a0))]) X hT k_1 rfl mf_J0_length_8abf5 mi_J0_length_8abf5 ms_J0_length_8abf5 ml_RJ0_505 ⟨Nat.le_of_ble_eq_true rfl, Nat.le_of_ble_eq_true rfl⟩ ⟨Nat.le_of_ble_eq_true rfl, Nat.le_of_ble_eq_true rfl⟩ rfl (Nat.le_of_ble_eq_true rfl) (ix_tb_at tb_J0_indexOf_7cf53 8 rfl) (c_J0_length_8abf5 hKp hT h_11) rfl (pc1 := 17) rfl ?_
    obtain ⟨r_14, d_12, h_13, h⟩ := ix_bd2_ex h
    refine ix_callS (As := [.ref (K.2.1 (200 + a0)), .int x1, .int x2, .int r_9]) (rest := []) X mf_J1_indexOf_4cfef st_J1_indexOf_4cfef ml_RJ0_637 ⟨Nat.le_of_ble_eq_true rfl, Nat.le_of_ble_eq_true rfl⟩ ⟨Nat.le_of_ble_eq_true rfl, Nat.le_of_ble_eq_true rfl⟩ rfl (Nat.le_of_ble_eq_true rfl) (ix_tb_at tb_J0_indexOf_7cf53 9 rfl) (c_J1_indexOf_4cfef hKp hT h_13) rfl (pc1 := 20) rfl ?_
    refine ix_goto (tgt := 36) X (ix_tb_at tb_J0_indexOf_7cf53 10 rfl) (by decide) ?_
    exact ix_iret X hr hlk (ix_r2 (f := fun r => some (.int r)) (g := ix_w z) h) (ix_tb_at tb_J0_indexOf_7cf53 18 rfl)
def tab_J0_indexOf_0f7a4 : List (Nat × Instr × Nat) := [(0, .aload_n 0, 1), (1, .iload_n 1, 1), (2, .iconst 0, 1), (3, .invokevirtual 633, 3), (6, .ireturn, 1)]
theorem tb_J0_indexOf_0f7a4 : ix_tab cJ0_indexOf_0f7a4 tab_J0_indexOf_0f7a4 := by
  unfold ix_tab
  decide +kernel
noncomputable def f_J0_indexOf_0f7a4 (n : Nat) (z : ix_Z) (a0 : Nat) (x1 : Int32) (d : ix_D2) : Option (Int32 × ix_D2) :=
  ix_ck (a0 < 6) (ix_bd2 (f_J0_indexOf_7cf53 n z a0 x1 0 d) (fun r_2 d_3 => some (r_2, d_3)))
set_option maxRecDepth 20000 in
theorem c_J0_indexOf_0f7a4 {l : Launch} {K : ix_Cx} (hKp : ix_Kp K) (hT : ix_Tc K) {n : Nat} {z : ix_Z} {a0 : Nat} {x1 : Int32} {d : ix_D2} {r : Int32} {d1 : ix_D2} (h : f_J0_indexOf_0f7a4 n z a0 x1 d = some (r, d1)) : ix_M l K yJ0_indexOf_0f7a4 cJ0_indexOf_0f7a4 2 (some .int) 3 70 0 0 [.ref (K.2.1 (100 + a0)), .int x1] (ix_w z d) (some (.int r)) (ix_w z d1) := by
  refine ix_met mf_J0_indexOf_0f7a4 hKp (Nat.le_of_ble_eq_true rfl) ?_
  intro p e s m args below meth c hr hlk hnm X
  have X : ix_X p s m args c K cJ0_indexOf_0f7a4 RJ0 2 := X
  show ix_G p l e (ix_rm 3 70 0 0) s m args below meth c (MQ below (ix_Post K (some (.int r)) (ix_w z d1)) args s 0 0 (ix_A K)) K 2 0 0 0 [(0, .ref (K.2.1 (100 + a0))), (1, .int x1)] [] (ix_w z d)
  unfold f_J0_indexOf_0f7a4 at h
  refine ix_aload_n (i := 0) (j := 0) X (ix_tb_at tb_J0_indexOf_0f7a4 0 rfl) rfl rfl (pc1 := 1) rfl ?_
  refine ix_iload_n (i := 1) (j := 1) X (ix_tb_at tb_J0_indexOf_0f7a4 1 rfl) rfl rfl (pc1 := 2) rfl ?_
  refine ix_iconst (v := 0) X (ix_tb_at tb_J0_indexOf_0f7a4 2 rfl) (by decide) (pc1 := 3) rfl ?_
  obtain ⟨k_1, h⟩ := ix_ck_some h
  obtain ⟨r_2, d_3, h_4, h⟩ := ix_bd2_ex h
  refine ix_callT (As := [.int x1, .int 0]) (rest := []) X hT k_1 rfl mf_J0_indexOf_7cf53 mi_J0_indexOf_7cf53 ms_J0_indexOf_7cf53 ml_RJ0_633 ⟨Nat.le_of_ble_eq_true rfl, Nat.le_of_ble_eq_true rfl⟩ ⟨Nat.le_of_ble_eq_true rfl, Nat.le_of_ble_eq_true rfl⟩ rfl (Nat.le_of_ble_eq_true rfl) (ix_tb_at tb_J0_indexOf_0f7a4 3 rfl) (c_J0_indexOf_7cf53 hKp hT h_4) rfl (pc1 := 6) rfl ?_
  exact ix_iret X hr hlk (ix_r2 (f := fun r => some (.int r)) (g := ix_w z) h) (ix_tb_at tb_J0_indexOf_0f7a4 4 rfl)
def tab_X0_kindNumber : List (Nat × Instr × Nat) := [(0, .iconst 1, 1), (1, .ireturn, 1)]
theorem tb_X0_kindNumber : ix_tab cX0_kindNumber tab_X0_kindNumber := by
  unfold ix_tab
  decide +kernel
noncomputable def f_X0_kindNumber (n : Nat) (z : ix_Z) (a0 : Nat) (d : ix_D2) : Option (Int32 × ix_D2) :=
  some (1, d)
set_option maxRecDepth 20000 in
theorem c_X0_kindNumber {l : Launch} {K : ix_Cx} (hKp : ix_Kp K) {n : Nat} {z : ix_Z} {a0 : Nat} {d : ix_D2} {r : Int32} {d1 : ix_D2} (h : f_X0_kindNumber n z a0 d = some (r, d1)) : ix_M l K yX0_kindNumber cX0_kindNumber 1 (some .int) 0 0 0 0 [.ref (K.2.2.1 + a0)] (ix_w z d) (some (.int r)) (ix_w z d1) := by
  refine ix_met mf_X0_kindNumber hKp (Nat.le_of_ble_eq_true rfl) ?_
  intro p e s m args below meth c hr hlk hnm X
  have X : ix_X p s m args c K cX0_kindNumber RX0 1 := X
  show ix_G p l e (ix_rm 0 0 0 0) s m args below meth c (MQ below (ix_Post K (some (.int r)) (ix_w z d1)) args s 0 0 (ix_A K)) K 1 0 0 0 [(0, .ref (K.2.2.1 + a0))] [] (ix_w z d)
  unfold f_X0_kindNumber at h
  refine ix_iconst (v := 1) X (ix_tb_at tb_X0_kindNumber 0 rfl) (by decide) (pc1 := 1) rfl ?_
  exact ix_iret X hr hlk (ix_r2 (f := fun r => some (.int r)) (g := ix_w z) h) (ix_tb_at tb_X0_kindNumber 1 rfl)
def tab_X2_makeName : List (Nat × Instr × Nat) := [(0, .aload_n 0, 1), (1, .dup, 1), (2, .getfield 40, 3), (5, .iconst 1, 1), (6, .iadd, 1), (7, .putfield 40, 3), (10, .aload_n 0, 1), (11, .aload_n 0, 1), (12, .getfield 47, 3), (15, .ifCond .ne 13, 3), (18, .aload_n 0, 1), (19, .getfield 40, 3), (22, .sipush 300, 3), (25, .if_icmp .le 7, 3), (28, .iconst 1, 1), (29, .goto 4, 3), (32, .iconst 0, 1), (33, .putfield 47, 3), (36, .aload_n 0, 1), (37, .getfield 40, 3), (40, .ireturn, 1)]
theorem tb_X2_makeName : ix_tab cX2_makeName tab_X2_makeName := by
  unfold ix_tab
  decide +kernel
noncomputable def f_X2_makeName_33 (n : Nat) (z : ix_Z)  (a0 : Nat) (s0 : Int32) (s1 : Nat) (d : ix_D2) : Option (Int32 × ix_D2) :=
  ix_ck (ix_ok z [2] s1) (ix_ck (s0 = 0 ∨ s0 = 1) (ix_lt (ix_di d s1 11 s0) (fun d_7 => ix_ck (ix_ok z [2] a0) (some (d_7.1 a0 5, d_7)))))
noncomputable def f_X2_makeName_28 (n : Nat) (z : ix_Z)  (a0 : Nat) (s0 : Nat) (d : ix_D2) : Option (Int32 × ix_D2) :=
  f_X2_makeName_33 n z  a0 1 s0 d
noncomputable def f_X2_makeName (n : Nat) (z : ix_Z) (a0 : Nat) (d : ix_D2) : Option (Int32 × ix_D2) :=
  ix_ck (ix_ok z [2] a0) (ix_lt (ix_di d a0 5 ((d.1 a0 5) + 1)) (fun d_2 => ix_if (d_2.1 a0 11 = 0) (ix_if (d_2.1 a0 5 ≤ 300) (f_X2_makeName_33 n z  a0 0 a0 d_2) (f_X2_makeName_28 n z  a0 a0 d_2)) (f_X2_makeName_28 n z  a0 a0 d_2)))
set_option maxRecDepth 20000 in
theorem t_X2_makeName_33 {l : Launch} {p : Program} {e : Env} {s : State} {m : MethodId} {args : Array Value} {below : List Frame} {meth : Method} {c : Code} {K : ix_Cx} (hKp : ix_Kp K) {n : Nat} {z : ix_Z} (X : ix_X p s m args c K cX2_makeName RX2 1) (hr : meth.sig.returnType = (some .int)) (hlk : meth.locks = false)  {a0 : Nat} {s0 : Int32} {s1 : Nat} {r : Int32} {d1 : ix_D2}  {d : ix_D2} (h : f_X2_makeName_33 n z  a0 s0 s1 d = some (r, d1)) : ix_G p l e (ix_rm 0 0 0 0) s m args below meth c (MQ below (ix_Post K (some (.int r)) (ix_w z d1)) args s 0 0 (ix_A K)) K 1 0 0 33 [(0, .ref (K.2.2.1 + a0))] [.int s0, .ref (K.2.2.1 + s1)] (ix_w z d) := by
  unfold f_X2_makeName_33 at h
  obtain ⟨k_5, h⟩ := ix_ck_some h
  obtain ⟨k_6, h⟩ := ix_ck_some h
  obtain ⟨d_7, e_8, h⟩ := ix_lt_ex h
  refine iz_putZ X fp_RX2_47 k_5 (ix_tb_at tb_X2_makeName 17 rfl) k_6 e_8 (pc1 := 36) rfl ?_
  refine ix_aload_n (i := 0) (j := 0) X (ix_tb_at tb_X2_makeName 18 rfl) rfl rfl (pc1 := 37) rfl ?_
  obtain ⟨k_9, h⟩ := ix_ck_some h
  refine iz_getI X fl_RX2_40 k_9 (ix_tb_at tb_X2_makeName 19 rfl) (pc1 := 40) rfl ?_
  exact ix_iret X hr hlk (ix_r2 (f := fun r => some (.int r)) (g := ix_w z) h) (ix_tb_at tb_X2_makeName 20 rfl)
set_option maxRecDepth 20000 in
theorem t_X2_makeName_28 {l : Launch} {p : Program} {e : Env} {s : State} {m : MethodId} {args : Array Value} {below : List Frame} {meth : Method} {c : Code} {K : ix_Cx} (hKp : ix_Kp K) {n : Nat} {z : ix_Z} (X : ix_X p s m args c K cX2_makeName RX2 1) (hr : meth.sig.returnType = (some .int)) (hlk : meth.locks = false)  {a0 : Nat} {s0 : Nat} {r : Int32} {d1 : ix_D2}  {d : ix_D2} (h : f_X2_makeName_28 n z  a0 s0 d = some (r, d1)) : ix_G p l e (ix_rm 0 0 0 0) s m args below meth c (MQ below (ix_Post K (some (.int r)) (ix_w z d1)) args s 0 0 (ix_A K)) K 1 0 0 28 [(0, .ref (K.2.2.1 + a0))] [.ref (K.2.2.1 + s0)] (ix_w z d) := by
  unfold f_X2_makeName_28 at h
  refine ix_iconst (v := 1) X (ix_tb_at tb_X2_makeName 14 rfl) (by decide) (pc1 := 29) rfl ?_
  refine ix_goto (tgt := 33) X (ix_tb_at tb_X2_makeName 15 rfl) (by decide) ?_
  refine ix_sub (L1 := [(0, .ref (K.2.2.1 + a0))]) [0] rfl ?_
  exact t_X2_makeName_33 hKp X hr hlk  h
set_option maxRecDepth 20000 in
theorem c_X2_makeName {l : Launch} {K : ix_Cx} (hKp : ix_Kp K) {n : Nat} {z : ix_Z} {a0 : Nat} {d : ix_D2} {r : Int32} {d1 : ix_D2} (h : f_X2_makeName n z a0 d = some (r, d1)) : ix_M l K yX2_makeName cX2_makeName 1 (some .int) 0 0 0 0 [.ref (K.2.2.1 + a0)] (ix_w z d) (some (.int r)) (ix_w z d1) := by
  refine ix_met mf_X2_makeName hKp (Nat.le_of_ble_eq_true rfl) ?_
  intro p e s m args below meth c hr hlk hnm X
  have X : ix_X p s m args c K cX2_makeName RX2 1 := X
  show ix_G p l e (ix_rm 0 0 0 0) s m args below meth c (MQ below (ix_Post K (some (.int r)) (ix_w z d1)) args s 0 0 (ix_A K)) K 1 0 0 0 [(0, .ref (K.2.2.1 + a0))] [] (ix_w z d)
  unfold f_X2_makeName at h
  refine ix_aload_n (i := 0) (j := 0) X (ix_tb_at tb_X2_makeName 0 rfl) rfl rfl (pc1 := 1) rfl ?_
  refine ix_dup X (ix_tb_at tb_X2_makeName 1 rfl) rfl (pc1 := 2) rfl ?_
  obtain ⟨k_1, h⟩ := ix_ck_some h
  refine iz_getI X fl_RX2_40 k_1 (ix_tb_at tb_X2_makeName 2 rfl) (pc1 := 5) rfl ?_
  refine ix_iconst (v := 1) X (ix_tb_at tb_X2_makeName 3 rfl) (by decide) (pc1 := 6) rfl ?_
  refine ix_iadd X (ix_tb_at tb_X2_makeName 4 rfl) (pc1 := 7) rfl ?_
  obtain ⟨d_2, e_3, h⟩ := ix_lt_ex h
  refine iz_putI X fp_RX2_40 k_1 (ix_tb_at tb_X2_makeName 5 rfl) e_3 (pc1 := 10) rfl ?_
  refine ix_aload_n (i := 0) (j := 0) X (ix_tb_at tb_X2_makeName 6 rfl) rfl rfl (pc1 := 11) rfl ?_
  refine ix_aload_n (i := 0) (j := 0) X (ix_tb_at tb_X2_makeName 7 rfl) rfl rfl (pc1 := 12) rfl ?_
  refine iz_getI X fl_RX2_47 k_1 (ix_tb_at tb_X2_makeName 8 rfl) (pc1 := 15) rfl ?_
  refine ix_if_ne (tgt := 28) X (ix_tb_at tb_X2_makeName 9 rfl) (by decide) (pc1 := 18) rfl (fun q_4 => ?_) (fun q_4 => ?_)
  · have h := ix_iff q_4 h
    refine ix_sub (L1 := [(0, .ref (K.2.2.1 + a0))]) [0] rfl ?_
    exact t_X2_makeName_28 hKp X hr hlk  h
  · have h := ix_ift q_4 h
    refine ix_aload_n (i := 0) (j := 0) X (ix_tb_at tb_X2_makeName 10 rfl) rfl rfl (pc1 := 19) rfl ?_
    refine iz_getI X fl_RX2_40 k_1 (ix_tb_at tb_X2_makeName 11 rfl) (pc1 := 22) rfl ?_
    refine ix_sipush (v := 300) X (ix_tb_at tb_X2_makeName 12 rfl) (by decide) (pc1 := 25) rfl ?_
    refine ix_icmp_le (tgt := 32) X (ix_tb_at tb_X2_makeName 13 rfl) (by decide) (pc1 := 28) rfl (fun q_10 => ?_) (fun q_10 => ?_)
    · have h := ix_ift q_10 h
      refine ix_iconst (v := 0) X (ix_tb_at tb_X2_makeName 16 rfl) (by decide) (pc1 := 33) rfl ?_
      refine ix_sub (L1 := [(0, .ref (K.2.2.1 + a0))]) [0] rfl ?_
      exact t_X2_makeName_33 hKp X hr hlk  h
    · have h := ix_iff q_10 h
      refine ix_sub (L1 := [(0, .ref (K.2.2.1 + a0))]) [0] rfl ?_
      exact t_X2_makeName_28 hKp X hr hlk  h
def tab_X2_add : List (Nat × Instr × Nat) := [(0, .iconst 0, 1), (1, .istore_n 2, 1), (2, .iload_n 2, 1), (3, .aload_n 0, 1), (4, .getfield 51, 3), (7, .if_icmp .ge 20, 3), (10, .aload_n 0, 1), (11, .getfield 31, 3), (14, .iload_n 2, 1), (15, .iaload, 1), (16, .iload_n 1, 1), (17, .if_icmp .ne 4, 3), (20, .return_, 1), (21, .iinc 2 1, 3), (24, .goto (-22), 3), (27, .iload_n 1, 1), (28, .ifCond .eq 35, 3), (31, .aload_n 0, 1), (32, .getfield 51, 3), (35, .aload_n 0, 1), (36, .getfield 31, 3), (39, .arraylength, 1), (40, .if_icmp .ge 23, 3), (43, .aload_n 0, 1), (44, .getfield 31, 3), (47, .aload_n 0, 1), (48, .getfield 51, 3), (51, .iload_n 1, 1), (52, .iastore, 1), (53, .aload_n 0, 1), (54, .dup, 1), (55, .getfield 51, 3), (58, .iconst 1, 1), (59, .iadd, 1), (60, .putfield 51, 3), (63, .return_, 1)]
theorem tb_X2_add : ix_tab cX2_add tab_X2_add := by
  unfold ix_tab
  decide +kernel
noncomputable def b_X2_add_2 (n : Nat) (z : ix_Z)  (a0 : Nat) (x1 : Int32) (rec2 : Int32 → ix_D2 → Option (ix_D2)) (x2 : Int32) (d : ix_D2) : Option (ix_D2) :=
  ix_ck (ix_ok z [2] a0) (ix_if (d.1 a0 10 ≤ x2) (ix_if (x1 = 0) (some d) (ix_bd1 (z.1 a0 4) (fun b_4 => ix_ck (b_4 < z.2.2 ∧ 20 ≤ (z.2.1 b_4).1 ∧ (z.2.1 b_4).1 < 26) (ix_if (nI (z.2.1 b_4).2 ≤ d.1 a0 10) (some d) (ix_ck (ix_ix z 20 b_4 (d.1 a0 10)) (ix_lt (ix_di d b_4 (ix_n (d.1 a0 10)) x1) (fun d_9 => ix_lt (ix_di d_9 a0 10 ((d_9.1 a0 10) + 1)) (fun d_11 => some d_11)))))))) (ix_bd1 (z.1 a0 4) (fun b_13 => ix_ck (ix_ix z 20 b_13 x2) (ix_if (d.1 b_13 (ix_n x2) = x1) (some d) (ix_lt (x2 + 1) (fun x2_17 => rec2 x2_17 d))))))
noncomputable def f_X2_add_2 (n : Nat) (z : ix_Z)  (a0 : Nat) (x1 : Int32) (x2 : Int32) (d : ix_D2) : Option (ix_D2) := ix_fix (b_X2_add_2 n z  a0 x1) (fun _ _ => none) n x2 d
noncomputable def f_X2_add (n : Nat) (z : ix_Z) (a0 : Nat) (x1 : Int32) (d : ix_D2) : Option (ix_D2) :=
  f_X2_add_2 n z  a0 x1 0 d
set_option maxRecDepth 20000 in
theorem tb_X2_add_2 {l : Launch} {p : Program} {e : Env} {s : State} {m : MethodId} {args : Array Value} {below : List Frame} {meth : Method} {c : Code} {K : ix_Cx} (hKp : ix_Kp K) {n : Nat} {z : ix_Z} (X : ix_X p s m args c K cX2_add RX2 3) (hr : meth.sig.returnType = (none : Option Jvm.ClassFile.FieldType)) (hlk : meth.locks = false)  {a0 : Nat} {x1 : Int32} {rec2 : Int32 → ix_D2 → Option (ix_D2)} {d1 : ix_D2} (hrec2 : ∀ (x2 : Int32) (d : ix_D2), rec2 x2 d = some d1 → ix_G p l e (ix_rm 0 0 0 0) s m args below meth c (MQ below (ix_Post K none (ix_w z d1)) args s 0 0 (ix_A K)) K 3 0 0 2 [(0, .ref (K.2.2.1 + a0)), (1, .int x1), (2, .int x2)] [] (ix_w z d)) {x2 : Int32} {d : ix_D2} (h : b_X2_add_2 n z  a0 x1 rec2 x2 d = some d1) : ix_G p l e (ix_rm 0 0 0 0) s m args below meth c (MQ below (ix_Post K none (ix_w z d1)) args s 0 0 (ix_A K)) K 3 0 0 2 [(0, .ref (K.2.2.1 + a0)), (1, .int x1), (2, .int x2)] [] (ix_w z d) := by
  unfold b_X2_add_2 at h
  refine ix_iload_n (i := 2) (j := 2) X (ix_tb_at tb_X2_add 2 rfl) rfl rfl (pc1 := 3) rfl ?_
  refine ix_aload_n (i := 0) (j := 0) X (ix_tb_at tb_X2_add 3 rfl) rfl rfl (pc1 := 4) rfl ?_
  obtain ⟨k_1, h⟩ := ix_ck_some h
  refine iz_getI X fl_RX2_51 k_1 (ix_tb_at tb_X2_add 4 rfl) (pc1 := 7) rfl ?_
  refine ix_icmp_ge (tgt := 27) X (ix_tb_at tb_X2_add 5 rfl) (by decide) (pc1 := 10) rfl (fun q_2 => ?_) (fun q_2 => ?_)
  · have h := ix_ift q_2 h
    refine ix_iload_n (i := 1) (j := 1) X (ix_tb_at tb_X2_add 15 rfl) rfl rfl (pc1 := 28) rfl ?_
    refine ix_if_eq (tgt := 63) X (ix_tb_at tb_X2_add 16 rfl) (by decide) (pc1 := 31) rfl (fun q_3 => ?_) (fun q_3 => ?_)
    · have h := ix_ift q_3 h
      exact ix_vret X hr hlk (ix_r1 (g := ix_w z) h) (ix_tb_at tb_X2_add 35 rfl)
    · have h := ix_iff q_3 h
      refine ix_aload_n (i := 0) (j := 0) X (ix_tb_at tb_X2_add 17 rfl) rfl rfl (pc1 := 32) rfl ?_
      refine iz_getI X fl_RX2_51 k_1 (ix_tb_at tb_X2_add 18 rfl) (pc1 := 35) rfl ?_
      refine ix_aload_n (i := 0) (j := 0) X (ix_tb_at tb_X2_add 19 rfl) rfl rfl (pc1 := 36) rfl ?_
      obtain ⟨b_4, q_5, h⟩ := ix_bd1_ex h
      refine iz_getR X fl_RX2_31 k_1 q_5 (ix_tb_at tb_X2_add 20 rfl) (pc1 := 39) rfl ?_
      obtain ⟨k_6, h⟩ := ix_ck_some h
      refine iz_alen X k_6 (ix_tb_at tb_X2_add 21 rfl) (pc1 := 40) rfl ?_
      refine ix_icmp_ge (tgt := 63) X (ix_tb_at tb_X2_add 22 rfl) (by decide) (pc1 := 43) rfl (fun q_7 => ?_) (fun q_7 => ?_)
      · have h := ix_ift q_7 h
        exact ix_vret X hr hlk (ix_r1 (g := ix_w z) h) (ix_tb_at tb_X2_add 35 rfl)
      · have h := ix_iff q_7 h
        refine ix_aload_n (i := 0) (j := 0) X (ix_tb_at tb_X2_add 23 rfl) rfl rfl (pc1 := 44) rfl ?_
        refine iz_getR X fl_RX2_31 k_1 q_5 (ix_tb_at tb_X2_add 24 rfl) (pc1 := 47) rfl ?_
        refine ix_aload_n (i := 0) (j := 0) X (ix_tb_at tb_X2_add 25 rfl) rfl rfl (pc1 := 48) rfl ?_
        refine iz_getI X fl_RX2_51 k_1 (ix_tb_at tb_X2_add 26 rfl) (pc1 := 51) rfl ?_
        refine ix_iload_n (i := 1) (j := 1) X (ix_tb_at tb_X2_add 27 rfl) rfl rfl (pc1 := 52) rfl ?_
        obtain ⟨k_8, h⟩ := ix_ck_some h
        obtain ⟨d_9, e_10, h⟩ := ix_lt_ex h
        refine iz_iast X k_8 (ix_tb_at tb_X2_add 28 rfl) e_10 (pc1 := 53) rfl ?_
        refine ix_aload_n (i := 0) (j := 0) X (ix_tb_at tb_X2_add 29 rfl) rfl rfl (pc1 := 54) rfl ?_
        refine ix_dup X (ix_tb_at tb_X2_add 30 rfl) rfl (pc1 := 55) rfl ?_
        refine iz_getI X fl_RX2_51 k_1 (ix_tb_at tb_X2_add 31 rfl) (pc1 := 58) rfl ?_
        refine ix_iconst (v := 1) X (ix_tb_at tb_X2_add 32 rfl) (by decide) (pc1 := 59) rfl ?_
        refine ix_iadd X (ix_tb_at tb_X2_add 33 rfl) (pc1 := 60) rfl ?_
        obtain ⟨d_11, e_12, h⟩ := ix_lt_ex h
        refine iz_putI X fp_RX2_51 k_1 (ix_tb_at tb_X2_add 34 rfl) e_12 (pc1 := 63) rfl ?_
        exact ix_vret X hr hlk (ix_r1 (g := ix_w z) h) (ix_tb_at tb_X2_add 35 rfl)
  · have h := ix_iff q_2 h
    refine ix_aload_n (i := 0) (j := 0) X (ix_tb_at tb_X2_add 6 rfl) rfl rfl (pc1 := 11) rfl ?_
    obtain ⟨b_13, q_14, h⟩ := ix_bd1_ex h
    refine iz_getR X fl_RX2_31 k_1 q_14 (ix_tb_at tb_X2_add 7 rfl) (pc1 := 14) rfl ?_
    refine ix_iload_n (i := 2) (j := 2) X (ix_tb_at tb_X2_add 8 rfl) rfl rfl (pc1 := 15) rfl ?_
    obtain ⟨k_15, h⟩ := ix_ck_some h
    refine iz_iald X k_15 (ix_tb_at tb_X2_add 9 rfl) (pc1 := 16) rfl ?_
    refine ix_iload_n (i := 1) (j := 1) X (ix_tb_at tb_X2_add 10 rfl) rfl rfl (pc1 := 17) rfl ?_
    refine ix_icmp_ne (tgt := 21) X (ix_tb_at tb_X2_add 11 rfl) (by decide) (pc1 := 20) rfl (fun q_16 => ?_) (fun q_16 => ?_)
    · have h := ix_iff q_16 h
      obtain ⟨x2_17, e_18, h⟩ := ix_lt_ex h
      refine ix_iinc (i := 2) (j := 2) (v := x2_17) (L1 := [(2, .int x2_17), (0, .ref (K.2.2.1 + a0)), (1, .int x1)]) X (ix_tb_at tb_X2_add 13 rfl) rfl (by rw [oi_1]; exact e_18.symm) (Nat.le_of_ble_eq_true rfl) rfl (pc1 := 24) rfl ?_
      refine ix_goto (tgt := 2) X (ix_tb_at tb_X2_add 14 rfl) (by decide) ?_
      refine ix_sub (L1 := [(0, .ref (K.2.2.1 + a0)), (1, .int x1), (2, .int x2_17)]) [1, 2, 0] rfl ?_
      exact hrec2 x2_17 d h
    · have h := ix_ift q_16 h
      exact ix_vret X hr hlk (ix_r1 (g := ix_w z) h) (ix_tb_at tb_X2_add 12 rfl)
theorem t_X2_add_2 {l : Launch} {p : Program} {e : Env} {s : State} {m : MethodId} {args : Array Value} {below : List Frame} {meth : Method} {c : Code} {K : ix_Cx} (hKp : ix_Kp K) {n : Nat} {z : ix_Z} (X : ix_X p s m args c K cX2_add RX2 3) (hr : meth.sig.returnType = (none : Option Jvm.ClassFile.FieldType)) (hlk : meth.locks = false)  {a0 : Nat} {x1 : Int32} {d1 : ix_D2}  {x2 : Int32} {d : ix_D2} (h : f_X2_add_2 n z  a0 x1 x2 d = some d1) : ix_G p l e (ix_rm 0 0 0 0) s m args below meth c (MQ below (ix_Post K none (ix_w z d1)) args s 0 0 (ix_A K)) K 3 0 0 2 [(0, .ref (K.2.2.1 + a0)), (1, .int x1), (2, .int x2)] [] (ix_w z d) := by
  have key : ∀ (f : Nat) (x2 : Int32) (d : ix_D2), ix_fix (b_X2_add_2 n z  a0 x1) (fun _ _ => none) f x2 d = some d1 → ix_G p l e (ix_rm 0 0 0 0) s m args below meth c (MQ below (ix_Post K none (ix_w z d1)) args s 0 0 (ix_A K)) K 3 0 0 2 [(0, .ref (K.2.2.1 + a0)), (1, .int x1), (2, .int x2)] [] (ix_w z d) := by
    intro f
    induction f with
    | zero =>
      intro x2 d h
      have h : (none : Option (ix_D2)) = some d1 := h
      cases h
    | succ f ih =>
      intro x2 d h
      exact tb_X2_add_2 hKp X hr hlk (rec2 := ix_fix (b_X2_add_2 n z  a0 x1) (fun _ _ => none) f)  ih h
  exact key n x2 d h
set_option maxRecDepth 20000 in
theorem c_X2_add {l : Launch} {K : ix_Cx} (hKp : ix_Kp K) {n : Nat} {z : ix_Z} {a0 : Nat} {x1 : Int32} {d : ix_D2} {d1 : ix_D2} (h : f_X2_add n z a0 x1 d = some d1) : ix_M l K yX2_add cX2_add 3 (none : Option Jvm.ClassFile.FieldType) 0 0 0 0 [.ref (K.2.2.1 + a0), .int x1] (ix_w z d) none (ix_w z d1) := by
  refine ix_met mf_X2_add hKp (Nat.le_of_ble_eq_true rfl) ?_
  intro p e s m args below meth c hr hlk hnm X
  have X : ix_X p s m args c K cX2_add RX2 3 := X
  show ix_G p l e (ix_rm 0 0 0 0) s m args below meth c (MQ below (ix_Post K none (ix_w z d1)) args s 0 0 (ix_A K)) K 3 0 0 0 [(0, .ref (K.2.2.1 + a0)), (1, .int x1)] [] (ix_w z d)
  unfold f_X2_add at h
  refine ix_iconst (v := 0) X (ix_tb_at tb_X2_add 0 rfl) (by decide) (pc1 := 1) rfl ?_
  refine ix_istore_n (i := 2) (L1 := [(2, .int 0), (0, .ref (K.2.2.1 + a0)), (1, .int x1)]) X (ix_tb_at tb_X2_add 1 rfl) rfl (Nat.le_of_ble_eq_true rfl) rfl (pc1 := 2) rfl ?_
  refine ix_sub (L1 := [(0, .ref (K.2.2.1 + a0)), (1, .int x1), (2, .int 0)]) [1, 2, 0] rfl ?_
  exact t_X2_add_2 hKp X hr hlk  h
def tab_X7_push : List (Nat × Instr × Nat) := [(0, .aload_n 0, 1), (1, .getfield 18, 3), (4, .iconst 1, 1), (5, .iadd, 1), (6, .aload_n 0, 1), (7, .getfield 15, 3), (10, .arraylength, 1), (11, .if_icmp .ge 30, 3), (14, .iload_n 3, 1), (15, .ifCond .lt 26, 3), (18, .iload_n 3, 1), (19, .aload_n 0, 1), (20, .getfield 9, 3), (23, .arraylength, 1), (24, .aload_n 0, 1), (25, .getfield 15, 3), (28, .aload_n 0, 1), (29, .getfield 18, 3), (32, .iaload, 1), (33, .isub, 1), (34, .if_icmp .gt 7, 3), (37, .iconst 1, 1), (38, .goto 4, 3), (41, .iconst 0, 1), (42, .istore 4, 2), (44, .iload 4, 2), (46, .ifCond .eq 15, 3), (49, .iload_n 2, 1), (50, .ifCond .lt 11, 3), (53, .iload_n 3, 1), (54, .aload_n 1, 1), (55, .arraylength, 1), (56, .iload_n 2, 1), (57, .isub, 1), (58, .if_icmp .le 5, 3), (61, .iconst 0, 1), (62, .ireturn, 1), (63, .aload_n 1, 1), (64, .iload_n 2, 1), (65, .aload_n 0, 1), (66, .getfield 9, 3), (69, .aload_n 0, 1), (70, .getfield 15, 3), (73, .aload_n 0, 1), (74, .getfield 18, 3), (77, .iaload, 1), (78, .iload_n 3, 1), (79, .invokestatic 22, 3), (82, .aload_n 0, 1), (83, .getfield 15, 3), (86, .aload_n 0, 1), (87, .getfield 18, 3), (90, .iconst 1, 1), (91, .iadd, 1), (92, .aload_n 0, 1), (93, .getfield 15, 3), (96, .aload_n 0, 1), (97, .getfield 18, 3), (100, .iaload, 1), (101, .iload_n 3, 1), (102, .iadd, 1), (103, .iastore, 1), (104, .aload_n 0, 1), (105, .dup, 1), (106, .getfield 18, 3), (109, .iconst 1, 1), (110, .iadd, 1), (111, .putfield 18, 3), (114, .iconst 1, 1), (115, .ireturn, 1)]
theorem tb_X7_push : ix_tab cX7_push tab_X7_push := by
  unfold ix_tab
  decide +kernel
noncomputable def f_X7_push_42 (n : Nat) (z : ix_Z)  (a0 : Nat) (a1 : Nat) (x2 : Int32) (x3 : Int32) (s0 : Int32) (d : ix_D2) : Option (Int32 × ix_D2) :=
  ix_if (s0 = 0) (some (0, d)) (ix_if (x2 < 0) (some (0, d)) (ix_ck (a1 < z.2.2 ∧ 20 ≤ (z.2.1 a1).1 ∧ (z.2.1 a1).1 < 26) (ix_if (x3 ≤ (nI (z.2.1 a1).2) - x2) (ix_ck (ix_ok z [7] a0) (ix_bd1 (z.1 a0 0) (fun b_11 => ix_bd1 (z.1 a0 1) (fun b_13 => ix_ck (ix_ix z 20 b_13 (d.1 a0 2)) (ix_ck (ix_cpk z 20 a1 x2 b_11 (d.1 b_13 (ix_n (d.1 a0 2))) x3) (ix_lt (ix_cpI d a1 b_11 (ix_n x2) (ix_n (d.1 b_13 (ix_n (d.1 a0 2)))) (ix_n x3)) (fun d_17 => ix_ck (ix_ix z 20 b_13 (d_17.1 a0 2)) (ix_ck (ix_ix z 20 b_13 ((d_17.1 a0 2) + 1)) (ix_lt (ix_di d_17 b_13 (ix_n ((d_17.1 a0 2) + 1)) ((d_17.1 b_13 (ix_n (d_17.1 a0 2))) + x3)) (fun d_21 => ix_lt (ix_di d_21 a0 2 ((d_21.1 a0 2) + 1)) (fun d_23 => some (1, d_23)))))))))))) (some (0, d)))))
noncomputable def f_X7_push_41 (n : Nat) (z : ix_Z)  (a0 : Nat) (a1 : Nat) (x2 : Int32) (x3 : Int32) (d : ix_D2) : Option (Int32 × ix_D2) :=
  f_X7_push_42 n z  a0 a1 x2 x3 0 d
noncomputable def f_X7_push (n : Nat) (z : ix_Z) (a0 : Nat) (a1 : Nat) (x2 : Int32) (x3 : Int32) (d : ix_D2) : Option (Int32 × ix_D2) :=
  ix_ck (ix_ok z [7] a0) (ix_bd1 (z.1 a0 1) (fun b_2 => ix_ck (b_2 < z.2.2 ∧ 20 ≤ (z.2.1 b_2).1 ∧ (z.2.1 b_2).1 < 26) (ix_if (nI (z.2.1 b_2).2 ≤ (d.1 a0 2) + 1) (f_X7_push_41 n z  a0 a1 x2 x3 d) (ix_if (x3 < 0) (f_X7_push_41 n z  a0 a1 x2 x3 d) (ix_bd1 (z.1 a0 0) (fun b_26 => ix_ck (b_26 < z.2.2 ∧ 20 ≤ (z.2.1 b_26).1 ∧ (z.2.1 b_26).1 < 26) (ix_ck (ix_ix z 20 b_2 (d.1 a0 2)) (ix_if ((nI (z.2.1 b_26).2) - (d.1 b_2 (ix_n (d.1 a0 2))) < x3) (f_X7_push_41 n z  a0 a1 x2 x3 d) (f_X7_push_42 n z  a0 a1 x2 x3 1 d)))))))))
set_option maxRecDepth 20000 in
theorem t_X7_push_42 {l : Launch} {p : Program} {e : Env} {s : State} {m : MethodId} {args : Array Value} {below : List Frame} {meth : Method} {c : Code} {K : ix_Cx} (hKp : ix_Kp K) {n : Nat} {z : ix_Z} (hsz : s.heap.size + 0 = K.2.2.1 + z.2.2) (X : ix_X p s m args c K cX7_push RX7 5) (hr : meth.sig.returnType = (some .boolean)) (hlk : meth.locks = false)  {a0 : Nat} {a1 : Nat} {x2 : Int32} {x3 : Int32} {s0 : Int32} {r : Int32} {d1 : ix_D2}  {d : ix_D2} (h : f_X7_push_42 n z  a0 a1 x2 x3 s0 d = some (r, d1)) : ix_G p l e (ix_rm 1 26 0 0) s m args below meth c (MQ below (ix_Post K (some (.int r)) (ix_w z d1)) args s 0 0 (ix_A K)) K 5 0 0 42 [(0, .ref (K.2.2.1 + a0)), (1, .ref (K.2.2.1 + a1)), (2, .int x2), (3, .int x3)] [.int s0] (ix_w z d) := by
  unfold f_X7_push_42 at h
  refine ix_istore (i := 4) (L1 := [(4, .int s0), (0, .ref (K.2.2.1 + a0)), (1, .ref (K.2.2.1 + a1)), (2, .int x2), (3, .int x3)]) X (ix_tb_at tb_X7_push 24 rfl) (Nat.le_of_ble_eq_true rfl) rfl (pc1 := 44) rfl ?_
  refine ix_iload (i := 4) (j := 0) X (ix_tb_at tb_X7_push 25 rfl) rfl (pc1 := 46) rfl ?_
  refine ix_if_eq (tgt := 61) X (ix_tb_at tb_X7_push 26 rfl) (by decide) (pc1 := 49) rfl (fun q_6 => ?_) (fun q_6 => ?_)
  · have h := ix_ift q_6 h
    refine ix_iconst (v := 0) X (ix_tb_at tb_X7_push 35 rfl) (by decide) (pc1 := 62) rfl ?_
    exact ix_zret X hr hlk (by decide) (ix_r2 (f := fun r => some (.int r)) (g := ix_w z) h) (ix_tb_at tb_X7_push 36 rfl)
  · have h := ix_iff q_6 h
    refine ix_iload_n (i := 2) (j := 3) X (ix_tb_at tb_X7_push 27 rfl) rfl rfl (pc1 := 50) rfl ?_
    refine ix_if_lt (tgt := 61) X (ix_tb_at tb_X7_push 28 rfl) (by decide) (pc1 := 53) rfl (fun q_7 => ?_) (fun q_7 => ?_)
    · have h := ix_ift q_7 h
      refine ix_iconst (v := 0) X (ix_tb_at tb_X7_push 35 rfl) (by decide) (pc1 := 62) rfl ?_
      exact ix_zret X hr hlk (by decide) (ix_r2 (f := fun r => some (.int r)) (g := ix_w z) h) (ix_tb_at tb_X7_push 36 rfl)
    · have h := ix_iff q_7 h
      refine ix_iload_n (i := 3) (j := 4) X (ix_tb_at tb_X7_push 29 rfl) rfl rfl (pc1 := 54) rfl ?_
      refine ix_aload_n (i := 1) (j := 2) X (ix_tb_at tb_X7_push 30 rfl) rfl rfl (pc1 := 55) rfl ?_
      obtain ⟨k_8, h⟩ := ix_ck_some h
      refine iz_alen X k_8 (ix_tb_at tb_X7_push 31 rfl) (pc1 := 56) rfl ?_
      refine ix_iload_n (i := 2) (j := 3) X (ix_tb_at tb_X7_push 32 rfl) rfl rfl (pc1 := 57) rfl ?_
      refine ix_isub X (ix_tb_at tb_X7_push 33 rfl) (pc1 := 58) rfl ?_
      refine ix_icmp_le (tgt := 63) X (ix_tb_at tb_X7_push 34 rfl) (by decide) (pc1 := 61) rfl (fun q_9 => ?_) (fun q_9 => ?_)
      · have h := ix_ift q_9 h
        refine ix_aload_n (i := 1) (j := 2) X (ix_tb_at tb_X7_push 37 rfl) rfl rfl (pc1 := 64) rfl ?_
        refine ix_iload_n (i := 2) (j := 3) X (ix_tb_at tb_X7_push 38 rfl) rfl rfl (pc1 := 65) rfl ?_
        refine ix_aload_n (i := 0) (j := 1) X (ix_tb_at tb_X7_push 39 rfl) rfl rfl (pc1 := 66) rfl ?_
        obtain ⟨k_10, h⟩ := ix_ck_some h
        obtain ⟨b_11, q_12, h⟩ := ix_bd1_ex h
        refine iz_getR X fl_RX7_9 k_10 q_12 (ix_tb_at tb_X7_push 40 rfl) (pc1 := 69) rfl ?_
        refine ix_aload_n (i := 0) (j := 1) X (ix_tb_at tb_X7_push 41 rfl) rfl rfl (pc1 := 70) rfl ?_
        obtain ⟨b_13, q_14, h⟩ := ix_bd1_ex h
        refine iz_getR X fl_RX7_15 k_10 q_14 (ix_tb_at tb_X7_push 42 rfl) (pc1 := 73) rfl ?_
        refine ix_aload_n (i := 0) (j := 1) X (ix_tb_at tb_X7_push 43 rfl) rfl rfl (pc1 := 74) rfl ?_
        refine iz_getI X fl_RX7_18 k_10 (ix_tb_at tb_X7_push 44 rfl) (pc1 := 77) rfl ?_
        obtain ⟨k_15, h⟩ := ix_ck_some h
        refine iz_iald X k_15 (ix_tb_at tb_X7_push 45 rfl) (pc1 := 78) rfl ?_
        refine ix_iload_n (i := 3) (j := 4) X (ix_tb_at tb_X7_push 46 rfl) rfl rfl (pc1 := 79) rfl ?_
        obtain ⟨k_16, h⟩ := ix_ck_some h
        obtain ⟨d_17, e_18, h⟩ := ix_lt_ex h
        refine iz_copyI X hsz (Or.inl rfl) ml_RX7_22 k_16 (Nat.le_of_ble_eq_true rfl) (Nat.le_of_ble_eq_true rfl) (ix_tb_at tb_X7_push 47 rfl) e_18 (pc1 := 82) rfl ?_
        refine ix_aload_n (i := 0) (j := 1) X (ix_tb_at tb_X7_push 48 rfl) rfl rfl (pc1 := 83) rfl ?_
        refine iz_getR X fl_RX7_15 k_10 q_14 (ix_tb_at tb_X7_push 49 rfl) (pc1 := 86) rfl ?_
        refine ix_aload_n (i := 0) (j := 1) X (ix_tb_at tb_X7_push 50 rfl) rfl rfl (pc1 := 87) rfl ?_
        refine iz_getI X fl_RX7_18 k_10 (ix_tb_at tb_X7_push 51 rfl) (pc1 := 90) rfl ?_
        refine ix_iconst (v := 1) X (ix_tb_at tb_X7_push 52 rfl) (by decide) (pc1 := 91) rfl ?_
        refine ix_iadd X (ix_tb_at tb_X7_push 53 rfl) (pc1 := 92) rfl ?_
        refine ix_aload_n (i := 0) (j := 1) X (ix_tb_at tb_X7_push 54 rfl) rfl rfl (pc1 := 93) rfl ?_
        refine iz_getR X fl_RX7_15 k_10 q_14 (ix_tb_at tb_X7_push 55 rfl) (pc1 := 96) rfl ?_
        refine ix_aload_n (i := 0) (j := 1) X (ix_tb_at tb_X7_push 56 rfl) rfl rfl (pc1 := 97) rfl ?_
        refine iz_getI X fl_RX7_18 k_10 (ix_tb_at tb_X7_push 57 rfl) (pc1 := 100) rfl ?_
        obtain ⟨k_19, h⟩ := ix_ck_some h
        refine iz_iald X k_19 (ix_tb_at tb_X7_push 58 rfl) (pc1 := 101) rfl ?_
        refine ix_iload_n (i := 3) (j := 4) X (ix_tb_at tb_X7_push 59 rfl) rfl rfl (pc1 := 102) rfl ?_
        refine ix_iadd X (ix_tb_at tb_X7_push 60 rfl) (pc1 := 103) rfl ?_
        obtain ⟨k_20, h⟩ := ix_ck_some h
        obtain ⟨d_21, e_22, h⟩ := ix_lt_ex h
        refine iz_iast X k_20 (ix_tb_at tb_X7_push 61 rfl) e_22 (pc1 := 104) rfl ?_
        refine ix_aload_n (i := 0) (j := 1) X (ix_tb_at tb_X7_push 62 rfl) rfl rfl (pc1 := 105) rfl ?_
        refine ix_dup X (ix_tb_at tb_X7_push 63 rfl) rfl (pc1 := 106) rfl ?_
        refine iz_getI X fl_RX7_18 k_10 (ix_tb_at tb_X7_push 64 rfl) (pc1 := 109) rfl ?_
        refine ix_iconst (v := 1) X (ix_tb_at tb_X7_push 65 rfl) (by decide) (pc1 := 110) rfl ?_
        refine ix_iadd X (ix_tb_at tb_X7_push 66 rfl) (pc1 := 111) rfl ?_
        obtain ⟨d_23, e_24, h⟩ := ix_lt_ex h
        refine iz_putI X fp_RX7_18 k_10 (ix_tb_at tb_X7_push 67 rfl) e_24 (pc1 := 114) rfl ?_
        refine ix_iconst (v := 1) X (ix_tb_at tb_X7_push 68 rfl) (by decide) (pc1 := 115) rfl ?_
        exact ix_zret X hr hlk (by decide) (ix_r2 (f := fun r => some (.int r)) (g := ix_w z) h) (ix_tb_at tb_X7_push 69 rfl)
      · have h := ix_iff q_9 h
        refine ix_iconst (v := 0) X (ix_tb_at tb_X7_push 35 rfl) (by decide) (pc1 := 62) rfl ?_
        exact ix_zret X hr hlk (by decide) (ix_r2 (f := fun r => some (.int r)) (g := ix_w z) h) (ix_tb_at tb_X7_push 36 rfl)
set_option maxRecDepth 20000 in
theorem t_X7_push_41 {l : Launch} {p : Program} {e : Env} {s : State} {m : MethodId} {args : Array Value} {below : List Frame} {meth : Method} {c : Code} {K : ix_Cx} (hKp : ix_Kp K) {n : Nat} {z : ix_Z} (hsz : s.heap.size + 0 = K.2.2.1 + z.2.2) (X : ix_X p s m args c K cX7_push RX7 5) (hr : meth.sig.returnType = (some .boolean)) (hlk : meth.locks = false)  {a0 : Nat} {a1 : Nat} {x2 : Int32} {x3 : Int32} {r : Int32} {d1 : ix_D2}  {d : ix_D2} (h : f_X7_push_41 n z  a0 a1 x2 x3 d = some (r, d1)) : ix_G p l e (ix_rm 1 26 0 0) s m args below meth c (MQ below (ix_Post K (some (.int r)) (ix_w z d1)) args s 0 0 (ix_A K)) K 5 0 0 41 [(0, .ref (K.2.2.1 + a0)), (1, .ref (K.2.2.1 + a1)), (2, .int x2), (3, .int x3)] [] (ix_w z d) := by
  unfold f_X7_push_41 at h
  refine ix_iconst (v := 0) X (ix_tb_at tb_X7_push 23 rfl) (by decide) (pc1 := 42) rfl ?_
  refine ix_sub (L1 := [(0, .ref (K.2.2.1 + a0)), (1, .ref (K.2.2.1 + a1)), (2, .int x2), (3, .int x3)]) [0, 1, 2, 3] rfl ?_
  exact t_X7_push_42 hKp hsz X hr hlk  h
set_option maxRecDepth 20000 in
theorem c_X7_push {l : Launch} {K : ix_Cx} (hKp : ix_Kp K) {n : Nat} {z : ix_Z} {a0 : Nat} {a1 : Nat} {x2 : Int32} {x3 : Int32} {d : ix_D2} {r : Int32} {d1 : ix_D2} (h : f_X7_push n z a0 a1 x2 x3 d = some (r, d1)) : ix_M l K yX7_push cX7_push 5 (some .boolean) 1 26 0 0 [.ref (K.2.2.1 + a0), .ref (K.2.2.1 + a1), .int x2, .int x3] (ix_w z d) (some (.int r)) (ix_w z d1) := by
  refine ix_met2 mf_X7_push hKp (Nat.le_of_ble_eq_true rfl) ?_
  intro p e s m args below meth c hr hlk hnm hsz X
  have X : ix_X p s m args c K cX7_push RX7 5 := X
  show ix_G p l e (ix_rm 1 26 0 0) s m args below meth c (MQ below (ix_Post K (some (.int r)) (ix_w z d1)) args s 0 0 (ix_A K)) K 5 0 0 0 [(0, .ref (K.2.2.1 + a0)), (1, .ref (K.2.2.1 + a1)), (2, .int x2), (3, .int x3)] [] (ix_w z d)
  unfold f_X7_push at h
  refine ix_aload_n (i := 0) (j := 0) X (ix_tb_at tb_X7_push 0 rfl) rfl rfl (pc1 := 1) rfl ?_
  obtain ⟨k_1, h⟩ := ix_ck_some h
  refine iz_getI X fl_RX7_18 k_1 (ix_tb_at tb_X7_push 1 rfl) (pc1 := 4) rfl ?_
  refine ix_iconst (v := 1) X (ix_tb_at tb_X7_push 2 rfl) (by decide) (pc1 := 5) rfl ?_
  refine ix_iadd X (ix_tb_at tb_X7_push 3 rfl) (pc1 := 6) rfl ?_
  refine ix_aload_n (i := 0) (j := 0) X (ix_tb_at tb_X7_push 4 rfl) rfl rfl (pc1 := 7) rfl ?_
  obtain ⟨b_2, q_3, h⟩ := ix_bd1_ex h
  refine iz_getR X fl_RX7_15 k_1 q_3 (ix_tb_at tb_X7_push 5 rfl) (pc1 := 10) rfl ?_
  obtain ⟨k_4, h⟩ := ix_ck_some h
  refine iz_alen X k_4 (ix_tb_at tb_X7_push 6 rfl) (pc1 := 11) rfl ?_
  refine ix_icmp_ge (tgt := 41) X (ix_tb_at tb_X7_push 7 rfl) (by decide) (pc1 := 14) rfl (fun q_5 => ?_) (fun q_5 => ?_)
  · have h := ix_ift q_5 h
    refine ix_sub (L1 := [(0, .ref (K.2.2.1 + a0)), (1, .ref (K.2.2.1 + a1)), (2, .int x2), (3, .int x3)]) [0, 1, 2, 3] rfl ?_
    exact t_X7_push_41 hKp hsz X hr hlk  h
  · have h := ix_iff q_5 h
    refine ix_iload_n (i := 3) (j := 3) X (ix_tb_at tb_X7_push 8 rfl) rfl rfl (pc1 := 15) rfl ?_
    refine ix_if_lt (tgt := 41) X (ix_tb_at tb_X7_push 9 rfl) (by decide) (pc1 := 18) rfl (fun q_25 => ?_) (fun q_25 => ?_)
    · have h := ix_ift q_25 h
      refine ix_sub (L1 := [(0, .ref (K.2.2.1 + a0)), (1, .ref (K.2.2.1 + a1)), (2, .int x2), (3, .int x3)]) [0, 1, 2, 3] rfl ?_
      exact t_X7_push_41 hKp hsz X hr hlk  h
    · have h := ix_iff q_25 h
      refine ix_iload_n (i := 3) (j := 3) X (ix_tb_at tb_X7_push 10 rfl) rfl rfl (pc1 := 19) rfl ?_
      refine ix_aload_n (i := 0) (j := 0) X (ix_tb_at tb_X7_push 11 rfl) rfl rfl (pc1 := 20) rfl ?_
      obtain ⟨b_26, q_27, h⟩ := ix_bd1_ex h
      refine iz_getR X fl_RX7_9 k_1 q_27 (ix_tb_at tb_X7_push 12 rfl) (pc1 := 23) rfl ?_
      obtain ⟨k_28, h⟩ := ix_ck_some h
      refine iz_alen X k_28 (ix_tb_at tb_X7_push 13 rfl) (pc1 := 24) rfl ?_
      refine ix_aload_n (i := 0) (j := 0) X (ix_tb_at tb_X7_push 14 rfl) rfl rfl (pc1 := 25) rfl ?_
      refine iz_getR X fl_RX7_15 k_1 q_3 (ix_tb_at tb_X7_push 15 rfl) (pc1 := 28) rfl ?_
      refine ix_aload_n (i := 0) (j := 0) X (ix_tb_at tb_X7_push 16 rfl) rfl rfl (pc1 := 29) rfl ?_
      refine iz_getI X fl_RX7_18 k_1 (ix_tb_at tb_X7_push 17 rfl) (pc1 := 32) rfl ?_
      obtain ⟨k_29, h⟩ := ix_ck_some h
      refine iz_iald X k_29 (ix_tb_at tb_X7_push 18 rfl) (pc1 := 33) rfl ?_
      refine ix_isub X (ix_tb_at tb_X7_push 19 rfl) (pc1 := 34) rfl ?_
      refine ix_icmp_gt (tgt := 41) X (ix_tb_at tb_X7_push 20 rfl) (by decide) (pc1 := 37) rfl (fun q_30 => ?_) (fun q_30 => ?_)
      · have h := ix_ift q_30 h
        refine ix_sub (L1 := [(0, .ref (K.2.2.1 + a0)), (1, .ref (K.2.2.1 + a1)), (2, .int x2), (3, .int x3)]) [0, 1, 2, 3] rfl ?_
        exact t_X7_push_41 hKp hsz X hr hlk  h
      · have h := ix_iff q_30 h
        refine ix_iconst (v := 1) X (ix_tb_at tb_X7_push 21 rfl) (by decide) (pc1 := 38) rfl ?_
        refine ix_goto (tgt := 42) X (ix_tb_at tb_X7_push 22 rfl) (by decide) ?_
        refine ix_sub (L1 := [(0, .ref (K.2.2.1 + a0)), (1, .ref (K.2.2.1 + a1)), (2, .int x2), (3, .int x3)]) [0, 1, 2, 3] rfl ?_
        exact t_X7_push_42 hKp hsz X hr hlk  h
def tab_X2_layDraft : List (Nat × Instr × Nat) := [(0, .aload_n 0, 1), (1, .getfield 14, 3), (4, .aload_n 0, 1), (5, .getfield 31, 3), (8, .iconst 0, 1), (9, .aload_n 0, 1), (10, .getfield 51, 3), (13, .invokevirtual 54, 3), (16, .istore_n 1, 1), (17, .aload_n 0, 1), (18, .aload_n 0, 1), (19, .getfield 47, 3), (22, .ifCond .ne 7, 3), (25, .iload_n 1, 1), (26, .ifCond .ne 7, 3), (29, .iconst 1, 1), (30, .goto 4, 3), (33, .iconst 0, 1), (34, .putfield 47, 3), (37, .aload_n 0, 1), (38, .iconst 0, 1), (39, .putfield 51, 3), (42, .return_, 1)]
theorem tb_X2_layDraft : ix_tab cX2_layDraft tab_X2_layDraft := by
  unfold ix_tab
  decide +kernel
noncomputable def f_X2_layDraft_34 (n : Nat) (z : ix_Z)  (a0 : Nat) (s0 : Int32) (s1 : Nat) (d : ix_D2) : Option (ix_D2) :=
  ix_ck (ix_ok z [2] s1) (ix_ck (s0 = 0 ∨ s0 = 1) (ix_lt (ix_di d s1 11 s0) (fun d_13 => ix_ck (ix_ok z [2] a0) (ix_lt (ix_di d_13 a0 10 0) (fun d_16 => some d_16)))))
noncomputable def f_X2_layDraft_29 (n : Nat) (z : ix_Z)  (a0 : Nat) (s0 : Nat) (d : ix_D2) : Option (ix_D2) :=
  f_X2_layDraft_34 n z  a0 1 s0 d
noncomputable def f_X2_layDraft (n : Nat) (z : ix_Z) (a0 : Nat) (d : ix_D2) : Option (ix_D2) :=
  ix_ck (ix_ok z [2] a0) (ix_bd1 (z.1 a0 0) (fun b_2 => ix_bd1 (z.1 a0 4) (fun b_4 => ix_ck (ix_ok z [7] b_2) (ix_bd2 (f_X7_push n z b_2 b_4 0 (d.1 a0 10) d) (fun r_9 d_6 => ix_if (d_6.1 a0 11 = 0) (ix_if (r_9 = 0) (f_X2_layDraft_29 n z  a0 a0 d_6) (f_X2_layDraft_34 n z  a0 0 a0 d_6)) (f_X2_layDraft_29 n z  a0 a0 d_6))))))
set_option maxRecDepth 20000 in
theorem t_X2_layDraft_34 {l : Launch} {p : Program} {e : Env} {s : State} {m : MethodId} {args : Array Value} {below : List Frame} {meth : Method} {c : Code} {K : ix_Cx} (hKp : ix_Kp K) {n : Nat} {z : ix_Z} (X : ix_X p s m args c K cX2_layDraft RX2 2) (hr : meth.sig.returnType = (none : Option Jvm.ClassFile.FieldType)) (hlk : meth.locks = false)  {a0 : Nat} {s0 : Int32} {s1 : Nat} {d1 : ix_D2}  {d : ix_D2} (h : f_X2_layDraft_34 n z  a0 s0 s1 d = some d1) : ix_G p l e (ix_rm 2 50 0 0) s m args below meth c (MQ below (ix_Post K none (ix_w z d1)) args s 0 0 (ix_A K)) K 2 0 0 34 [(0, .ref (K.2.2.1 + a0))] [.int s0, .ref (K.2.2.1 + s1)] (ix_w z d) := by
  unfold f_X2_layDraft_34 at h
  obtain ⟨k_11, h⟩ := ix_ck_some h
  obtain ⟨k_12, h⟩ := ix_ck_some h
  obtain ⟨d_13, e_14, h⟩ := ix_lt_ex h
  refine iz_putZ X fp_RX2_47 k_11 (ix_tb_at tb_X2_layDraft 18 rfl) k_12 e_14 (pc1 := 37) rfl ?_
  refine ix_aload_n (i := 0) (j := 0) X (ix_tb_at tb_X2_layDraft 19 rfl) rfl rfl (pc1 := 38) rfl ?_
  refine ix_iconst (v := 0) X (ix_tb_at tb_X2_layDraft 20 rfl) (by decide) (pc1 := 39) rfl ?_
  obtain ⟨k_15, h⟩ := ix_ck_some h
  obtain ⟨d_16, e_17, h⟩ := ix_lt_ex h
  refine iz_putI X fp_RX2_51 k_15 (ix_tb_at tb_X2_layDraft 21 rfl) e_17 (pc1 := 42) rfl ?_
  exact ix_vret X hr hlk (ix_r1 (g := ix_w z) h) (ix_tb_at tb_X2_layDraft 22 rfl)
set_option maxRecDepth 20000 in
theorem t_X2_layDraft_29 {l : Launch} {p : Program} {e : Env} {s : State} {m : MethodId} {args : Array Value} {below : List Frame} {meth : Method} {c : Code} {K : ix_Cx} (hKp : ix_Kp K) {n : Nat} {z : ix_Z} (X : ix_X p s m args c K cX2_layDraft RX2 2) (hr : meth.sig.returnType = (none : Option Jvm.ClassFile.FieldType)) (hlk : meth.locks = false)  {a0 : Nat} {s0 : Nat} {d1 : ix_D2}  {d : ix_D2} (h : f_X2_layDraft_29 n z  a0 s0 d = some d1) : ix_G p l e (ix_rm 2 50 0 0) s m args below meth c (MQ below (ix_Post K none (ix_w z d1)) args s 0 0 (ix_A K)) K 2 0 0 29 [(0, .ref (K.2.2.1 + a0))] [.ref (K.2.2.1 + s0)] (ix_w z d) := by
  unfold f_X2_layDraft_29 at h
  refine ix_iconst (v := 1) X (ix_tb_at tb_X2_layDraft 15 rfl) (by decide) (pc1 := 30) rfl ?_
  refine ix_goto (tgt := 34) X (ix_tb_at tb_X2_layDraft 16 rfl) (by decide) ?_
  refine ix_sub (L1 := [(0, .ref (K.2.2.1 + a0))]) [0] rfl ?_
  exact t_X2_layDraft_34 hKp X hr hlk  h
set_option maxRecDepth 20000 in
theorem c_X2_layDraft {l : Launch} {K : ix_Cx} (hKp : ix_Kp K) {n : Nat} {z : ix_Z} {a0 : Nat} {d : ix_D2} {d1 : ix_D2} (h : f_X2_layDraft n z a0 d = some d1) : ix_M l K yX2_layDraft cX2_layDraft 2 (none : Option Jvm.ClassFile.FieldType) 2 50 0 0 [.ref (K.2.2.1 + a0)] (ix_w z d) none (ix_w z d1) := by
  refine ix_met mf_X2_layDraft hKp (Nat.le_of_ble_eq_true rfl) ?_
  intro p e s m args below meth c hr hlk hnm X
  have X : ix_X p s m args c K cX2_layDraft RX2 2 := X
  show ix_G p l e (ix_rm 2 50 0 0) s m args below meth c (MQ below (ix_Post K none (ix_w z d1)) args s 0 0 (ix_A K)) K 2 0 0 0 [(0, .ref (K.2.2.1 + a0))] [] (ix_w z d)
  unfold f_X2_layDraft at h
  refine ix_aload_n (i := 0) (j := 0) X (ix_tb_at tb_X2_layDraft 0 rfl) rfl rfl (pc1 := 1) rfl ?_
  obtain ⟨k_1, h⟩ := ix_ck_some h
  obtain ⟨b_2, q_3, h⟩ := ix_bd1_ex h
  refine iz_getR X fl_RX2_14 k_1 q_3 (ix_tb_at tb_X2_layDraft 1 rfl) (pc1 := 4) rfl ?_
  refine ix_aload_n (i := 0) (j := 0) X (ix_tb_at tb_X2_layDraft 2 rfl) rfl rfl (pc1 := 5) rfl ?_
  obtain ⟨b_4, q_5, h⟩ := ix_bd1_ex h
  refine iz_getR X fl_RX2_31 k_1 q_5 (ix_tb_at tb_X2_layDraft 3 rfl) (pc1 := 8) rfl ?_
  refine ix_iconst (v := 0) X (ix_tb_at tb_X2_layDraft 4 rfl) (by decide) (pc1 := 9) rfl ?_
  refine ix_aload_n (i := 0) (j := 0) X (ix_tb_at tb_X2_layDraft 5 rfl) rfl rfl (pc1 := 10) rfl ?_
  refine iz_getI X fl_RX2_51 k_1 (ix_tb_at tb_X2_layDraft 6 rfl) (pc1 := 13) rfl ?_
  obtain ⟨k_8, h⟩ := ix_ck_some h
  obtain ⟨r_9, d_6, h_7, h⟩ := ix_bd2_ex h
  refine ix_callV (As := [.ref (K.2.2.1 + b_4), .int 0, .int (d.1 a0 10)]) (rest := []) (ci := 7) (T := TX7) (nf := 3) X mf_X7_push mi_X7_push ms_X7_push rfl (Nat.le_of_ble_eq_true rfl) ml_RX2_54 ⟨Nat.le_of_ble_eq_true rfl, Nat.le_of_ble_eq_true rfl⟩ ⟨Nat.le_of_ble_eq_true rfl, Nat.le_of_ble_eq_true rfl⟩ rfl (Nat.le_of_ble_eq_true rfl) (ix_tb_at tb_X2_layDraft 7 rfl) ⟨k_8.1, List.mem_singleton.mp k_8.2⟩ (c_X7_push hKp h_7) rfl (pc1 := 16) rfl ?_
  refine ix_istore_n (i := 1) (L1 := [(1, .int r_9), (0, .ref (K.2.2.1 + a0))]) X (ix_tb_at tb_X2_layDraft 8 rfl) rfl (Nat.le_of_ble_eq_true rfl) rfl (pc1 := 17) rfl ?_
  refine ix_aload_n (i := 0) (j := 1) X (ix_tb_at tb_X2_layDraft 9 rfl) rfl rfl (pc1 := 18) rfl ?_
  refine ix_aload_n (i := 0) (j := 1) X (ix_tb_at tb_X2_layDraft 10 rfl) rfl rfl (pc1 := 19) rfl ?_
  refine iz_getI X fl_RX2_47 k_1 (ix_tb_at tb_X2_layDraft 11 rfl) (pc1 := 22) rfl ?_
  refine ix_if_ne (tgt := 29) X (ix_tb_at tb_X2_layDraft 12 rfl) (by decide) (pc1 := 25) rfl (fun q_10 => ?_) (fun q_10 => ?_)
  · have h := ix_iff q_10 h
    refine ix_sub (L1 := [(0, .ref (K.2.2.1 + a0))]) [1] rfl ?_
    exact t_X2_layDraft_29 hKp X hr hlk  h
  · have h := ix_ift q_10 h
    refine ix_iload_n (i := 1) (j := 0) X (ix_tb_at tb_X2_layDraft 13 rfl) rfl rfl (pc1 := 26) rfl ?_
    refine ix_if_ne (tgt := 33) X (ix_tb_at tb_X2_layDraft 14 rfl) (by decide) (pc1 := 29) rfl (fun q_18 => ?_) (fun q_18 => ?_)
    · have h := ix_iff q_18 h
      refine ix_iconst (v := 0) X (ix_tb_at tb_X2_layDraft 17 rfl) (by decide) (pc1 := 34) rfl ?_
      refine ix_sub (L1 := [(0, .ref (K.2.2.1 + a0))]) [1] rfl ?_
      exact t_X2_layDraft_34 hKp X hr hlk  h
    · have h := ix_ift q_18 h
      refine ix_sub (L1 := [(0, .ref (K.2.2.1 + a0))]) [1] rfl ?_
      exact t_X2_layDraft_29 hKp X hr hlk  h
def tab_X2_lay : List (Nat × Instr × Nat) := [(0, .aload_n 0, 1), (1, .iload_n 1, 1), (2, .invokevirtual 58, 3), (5, .aload_n 0, 1), (6, .iload_n 2, 1), (7, .invokevirtual 58, 3), (10, .aload_n 0, 1), (11, .iload_n 3, 1), (12, .invokevirtual 58, 3), (15, .aload_n 0, 1), (16, .invokevirtual 62, 3), (19, .return_, 1)]
theorem tb_X2_lay : ix_tab cX2_lay tab_X2_lay := by
  unfold ix_tab
  decide +kernel
noncomputable def f_X2_lay (n : Nat) (z : ix_Z) (a0 : Nat) (x1 : Int32) (x2 : Int32) (x3 : Int32) (d : ix_D2) : Option (ix_D2) :=
  ix_ck (ix_ok z [2] a0) (ix_bd1 (f_X2_add n z a0 x1 d) (fun d_1 => ix_bd1 (f_X2_add n z a0 x2 d_1) (fun d_4 => ix_bd1 (f_X2_add n z a0 x3 d_4) (fun d_6 => ix_bd1 (f_X2_layDraft n z a0 d_6) (fun d_8 => some d_8)))))
set_option maxRecDepth 20000 in
theorem c_X2_lay {l : Launch} {K : ix_Cx} (hKp : ix_Kp K) {n : Nat} {z : ix_Z} {a0 : Nat} {x1 : Int32} {x2 : Int32} {x3 : Int32} {d : ix_D2} {d1 : ix_D2} (h : f_X2_lay n z a0 x1 x2 x3 d = some d1) : ix_M l K yX2_lay cX2_lay 4 (none : Option Jvm.ClassFile.FieldType) 3 71 0 0 [.ref (K.2.2.1 + a0), .int x1, .int x2, .int x3] (ix_w z d) none (ix_w z d1) := by
  refine ix_met mf_X2_lay hKp (Nat.le_of_ble_eq_true rfl) ?_
  intro p e s m args below meth c hr hlk hnm X
  have X : ix_X p s m args c K cX2_lay RX2 4 := X
  show ix_G p l e (ix_rm 3 71 0 0) s m args below meth c (MQ below (ix_Post K none (ix_w z d1)) args s 0 0 (ix_A K)) K 4 0 0 0 [(0, .ref (K.2.2.1 + a0)), (1, .int x1), (2, .int x2), (3, .int x3)] [] (ix_w z d)
  unfold f_X2_lay at h
  refine ix_aload_n (i := 0) (j := 0) X (ix_tb_at tb_X2_lay 0 rfl) rfl rfl (pc1 := 1) rfl ?_
  refine ix_iload_n (i := 1) (j := 1) X (ix_tb_at tb_X2_lay 1 rfl) rfl rfl (pc1 := 2) rfl ?_
  obtain ⟨k_3, h⟩ := ix_ck_some h
  obtain ⟨d_1, h_2, h⟩ := ix_bd1_ex h
  refine ix_callV (As := [.int x1]) (rest := []) (ci := 2) (T := TX2) (nf := 12) X mf_X2_add mi_X2_add ms_X2_add rfl (Nat.le_of_ble_eq_true rfl) ml_RX2_58 ⟨Nat.le_of_ble_eq_true rfl, Nat.le_of_ble_eq_true rfl⟩ ⟨Nat.le_of_ble_eq_true rfl, Nat.le_of_ble_eq_true rfl⟩ rfl (Nat.le_of_ble_eq_true rfl) (ix_tb_at tb_X2_lay 2 rfl) ⟨k_3.1, List.mem_singleton.mp k_3.2⟩ (c_X2_add hKp h_2) rfl (pc1 := 5) rfl ?_
  refine ix_aload_n (i := 0) (j := 0) X (ix_tb_at tb_X2_lay 3 rfl) rfl rfl (pc1 := 6) rfl ?_
  refine ix_iload_n (i := 2) (j := 2) X (ix_tb_at tb_X2_lay 4 rfl) rfl rfl (pc1 := 7) rfl ?_
  obtain ⟨d_4, h_5, h⟩ := ix_bd1_ex h
  refine ix_callV (As := [.int x2]) (rest := []) (ci := 2) (T := TX2) (nf := 12) X mf_X2_add mi_X2_add ms_X2_add rfl (Nat.le_of_ble_eq_true rfl) ml_RX2_58 ⟨Nat.le_of_ble_eq_true rfl, Nat.le_of_ble_eq_true rfl⟩ ⟨Nat.le_of_ble_eq_true rfl, Nat.le_of_ble_eq_true rfl⟩ rfl (Nat.le_of_ble_eq_true rfl) (ix_tb_at tb_X2_lay 5 rfl) ⟨k_3.1, List.mem_singleton.mp k_3.2⟩ (c_X2_add hKp h_5) rfl (pc1 := 10) rfl ?_
  refine ix_aload_n (i := 0) (j := 0) X (ix_tb_at tb_X2_lay 6 rfl) rfl rfl (pc1 := 11) rfl ?_
  refine ix_iload_n (i := 3) (j := 3) X (ix_tb_at tb_X2_lay 7 rfl) rfl rfl (pc1 := 12) rfl ?_
  obtain ⟨d_6, h_7, h⟩ := ix_bd1_ex h
  refine ix_callV (As := [.int x3]) (rest := []) (ci := 2) (T := TX2) (nf := 12) X mf_X2_add mi_X2_add ms_X2_add rfl (Nat.le_of_ble_eq_true rfl) ml_RX2_58 ⟨Nat.le_of_ble_eq_true rfl, Nat.le_of_ble_eq_true rfl⟩ ⟨Nat.le_of_ble_eq_true rfl, Nat.le_of_ble_eq_true rfl⟩ rfl (Nat.le_of_ble_eq_true rfl) (ix_tb_at tb_X2_lay 8 rfl) ⟨k_3.1, List.mem_singleton.mp k_3.2⟩ (c_X2_add hKp h_7) rfl (pc1 := 15) rfl ?_
  refine ix_aload_n (i := 0) (j := 0) X (ix_tb_at tb_X2_lay 9 rfl) rfl rfl (pc1 := 16) rfl ?_
  obtain ⟨d_8, h_9, h⟩ := ix_bd1_ex h
  refine ix_callV (As := []) (rest := []) (ci := 2) (T := TX2) (nf := 12) X mf_X2_layDraft mi_X2_layDraft ms_X2_layDraft rfl (Nat.le_of_ble_eq_true rfl) ml_RX2_62 ⟨Nat.le_of_ble_eq_true rfl, Nat.le_of_ble_eq_true rfl⟩ ⟨Nat.le_of_ble_eq_true rfl, Nat.le_of_ble_eq_true rfl⟩ rfl (Nat.le_of_ble_eq_true rfl) (ix_tb_at tb_X2_lay 10 rfl) ⟨k_3.1, List.mem_singleton.mp k_3.2⟩ (c_X2_layDraft hKp h_9) rfl (pc1 := 19) rfl ?_
  exact ix_vret X hr hlk (ix_r1 (g := ix_w z) h) (ix_tb_at tb_X2_lay 11 rfl)
def tab_X4_note : List (Nat × Instr × Nat) := [(0, .aload_n 0, 1), (1, .getfield 18, 3), (4, .aload_n 0, 1), (5, .getfield 132, 3), (8, .bipush 100, 2), (10, .irem, 1), (11, .iload_n 1, 1), (12, .iastore, 1), (13, .aload_n 0, 1), (14, .dup, 1), (15, .getfield 132, 3), (18, .iconst 1, 1), (19, .iadd, 1), (20, .putfield 132, 3), (23, .return_, 1)]
theorem tb_X4_note : ix_tab cX4_note tab_X4_note := by
  unfold ix_tab
  decide +kernel
noncomputable def f_X4_note (n : Nat) (z : ix_Z) (a0 : Nat) (x1 : Int32) (d : ix_D2) : Option (ix_D2) :=
  ix_ck (ix_ok z [4] a0) (ix_bd1 (z.1 a0 4) (fun b_2 => ix_ck (ix_ix z 20 b_2 ((d.1 a0 5) - (d.1 a0 5) / 100 * 100)) (ix_lt (ix_di d b_2 (ix_n ((d.1 a0 5) - (d.1 a0 5) / 100 * 100)) x1) (fun d_5 => ix_lt (ix_di d_5 a0 5 ((d_5.1 a0 5) + 1)) (fun d_7 => some d_7)))))
set_option maxRecDepth 20000 in
theorem c_X4_note {l : Launch} {K : ix_Cx} (hKp : ix_Kp K) {n : Nat} {z : ix_Z} {a0 : Nat} {x1 : Int32} {d : ix_D2} {d1 : ix_D2} (h : f_X4_note n z a0 x1 d = some d1) : ix_M l K yX4_note cX4_note 2 (none : Option Jvm.ClassFile.FieldType) 0 0 0 0 [.ref (K.2.2.1 + a0), .int x1] (ix_w z d) none (ix_w z d1) := by
  refine ix_met mf_X4_note hKp (Nat.le_of_ble_eq_true rfl) ?_
  intro p e s m args below meth c hr hlk hnm X
  have X : ix_X p s m args c K cX4_note RX4 2 := X
  show ix_G p l e (ix_rm 0 0 0 0) s m args below meth c (MQ below (ix_Post K none (ix_w z d1)) args s 0 0 (ix_A K)) K 2 0 0 0 [(0, .ref (K.2.2.1 + a0)), (1, .int x1)] [] (ix_w z d)
  unfold f_X4_note at h
  refine ix_aload_n (i := 0) (j := 0) X (ix_tb_at tb_X4_note 0 rfl) rfl rfl (pc1 := 1) rfl ?_
  obtain ⟨k_1, h⟩ := ix_ck_some h
  obtain ⟨b_2, q_3, h⟩ := ix_bd1_ex h
  refine iz_getR X fl_RX4_18 k_1 q_3 (ix_tb_at tb_X4_note 1 rfl) (pc1 := 4) rfl ?_
  refine ix_aload_n (i := 0) (j := 0) X (ix_tb_at tb_X4_note 2 rfl) rfl rfl (pc1 := 5) rfl ?_
  refine iz_getI X fl_RX4_132 k_1 (ix_tb_at tb_X4_note 3 rfl) (pc1 := 8) rfl ?_
  refine ix_bipush (v := 100) X (ix_tb_at tb_X4_note 4 rfl) (by decide) (pc1 := 10) rfl ?_
  refine ix_irem X (ix_tb_at tb_X4_note 5 rfl) (by decide) (pc1 := 11) rfl ?_
  refine ix_iload_n (i := 1) (j := 1) X (ix_tb_at tb_X4_note 6 rfl) rfl rfl (pc1 := 12) rfl ?_
  obtain ⟨k_4, h⟩ := ix_ck_some h
  obtain ⟨d_5, e_6, h⟩ := ix_lt_ex h
  refine iz_iast X k_4 (ix_tb_at tb_X4_note 7 rfl) e_6 (pc1 := 13) rfl ?_
  refine ix_aload_n (i := 0) (j := 0) X (ix_tb_at tb_X4_note 8 rfl) rfl rfl (pc1 := 14) rfl ?_
  refine ix_dup X (ix_tb_at tb_X4_note 9 rfl) rfl (pc1 := 15) rfl ?_
  refine iz_getI X fl_RX4_132 k_1 (ix_tb_at tb_X4_note 10 rfl) (pc1 := 18) rfl ?_
  refine ix_iconst (v := 1) X (ix_tb_at tb_X4_note 11 rfl) (by decide) (pc1 := 19) rfl ?_
  refine ix_iadd X (ix_tb_at tb_X4_note 12 rfl) (pc1 := 20) rfl ?_
  obtain ⟨d_7, e_8, h⟩ := ix_lt_ex h
  refine iz_putI X fp_RX4_132 k_1 (ix_tb_at tb_X4_note 13 rfl) e_8 (pc1 := 23) rfl ?_
  exact ix_vret X hr hlk (ix_r1 (g := ix_w z) h) (ix_tb_at tb_X4_note 14 rfl)
def tab_X1_valueOf : List (Nat × Instr × Nat) := [(0, .iload_n 1, 1), (1, .ifCond .le 12, 3), (4, .aload_n 0, 1), (5, .getfield 40, 3), (8, .iload_n 1, 1), (9, .iaload, 1), (10, .goto 11, 3), (13, .aload_n 0, 1), (14, .getfield 40, 3), (17, .iload_n 1, 1), (18, .ineg, 1), (19, .iaload, 1), (20, .ineg, 1), (21, .ireturn, 1)]
theorem tb_X1_valueOf : ix_tab cX1_valueOf tab_X1_valueOf := by
  unfold ix_tab
  decide +kernel
noncomputable def f_X1_valueOf (n : Nat) (z : ix_Z) (a0 : Nat) (x1 : Int32) (d : ix_D2) : Option (Int32 × ix_D2) :=
  ix_if (x1 ≤ 0) (ix_ck (ix_ok z [1] a0) (ix_bd1 (z.1 a0 7) (fun b_3 => ix_ck (ix_ix z 20 b_3 (-x1)) (some (-(d.1 b_3 (ix_n (-x1))), d))))) (ix_ck (ix_ok z [1] a0) (ix_bd1 (z.1 a0 7) (fun b_7 => ix_ck (ix_ix z 20 b_7 x1) (some (d.1 b_7 (ix_n x1), d)))))
set_option maxRecDepth 20000 in
theorem c_X1_valueOf {l : Launch} {K : ix_Cx} (hKp : ix_Kp K) {n : Nat} {z : ix_Z} {a0 : Nat} {x1 : Int32} {d : ix_D2} {r : Int32} {d1 : ix_D2} (h : f_X1_valueOf n z a0 x1 d = some (r, d1)) : ix_M l K yX1_valueOf cX1_valueOf 2 (some .int) 0 0 0 0 [.ref (K.2.2.1 + a0), .int x1] (ix_w z d) (some (.int r)) (ix_w z d1) := by
  refine ix_met mf_X1_valueOf hKp (Nat.le_of_ble_eq_true rfl) ?_
  intro p e s m args below meth c hr hlk hnm X
  have X : ix_X p s m args c K cX1_valueOf RX1 2 := X
  show ix_G p l e (ix_rm 0 0 0 0) s m args below meth c (MQ below (ix_Post K (some (.int r)) (ix_w z d1)) args s 0 0 (ix_A K)) K 2 0 0 0 [(0, .ref (K.2.2.1 + a0)), (1, .int x1)] [] (ix_w z d)
  unfold f_X1_valueOf at h
  refine ix_iload_n (i := 1) (j := 1) X (ix_tb_at tb_X1_valueOf 0 rfl) rfl rfl (pc1 := 1) rfl ?_
  refine ix_if_le (tgt := 13) X (ix_tb_at tb_X1_valueOf 1 rfl) (by decide) (pc1 := 4) rfl (fun q_1 => ?_) (fun q_1 => ?_)
  · have h := ix_ift q_1 h
    refine ix_aload_n (i := 0) (j := 0) X (ix_tb_at tb_X1_valueOf 7 rfl) rfl rfl (pc1 := 14) rfl ?_
    obtain ⟨k_2, h⟩ := ix_ck_some h
    obtain ⟨b_3, q_4, h⟩ := ix_bd1_ex h
    refine iz_getR X fl_RX1_40 k_2 q_4 (ix_tb_at tb_X1_valueOf 8 rfl) (pc1 := 17) rfl ?_
    refine ix_iload_n (i := 1) (j := 1) X (ix_tb_at tb_X1_valueOf 9 rfl) rfl rfl (pc1 := 18) rfl ?_
    refine ix_ineg X (ix_tb_at tb_X1_valueOf 10 rfl) (pc1 := 19) rfl ?_
    obtain ⟨k_5, h⟩ := ix_ck_some h
    refine iz_iald X k_5 (ix_tb_at tb_X1_valueOf 11 rfl) (pc1 := 20) rfl ?_
    refine ix_ineg X (ix_tb_at tb_X1_valueOf 12 rfl) (pc1 := 21) rfl ?_
    exact ix_iret X hr hlk (ix_r2 (f := fun r => some (.int r)) (g := ix_w z) h) (ix_tb_at tb_X1_valueOf 13 rfl)
  · have h := ix_iff q_1 h
    refine ix_aload_n (i := 0) (j := 0) X (ix_tb_at tb_X1_valueOf 2 rfl) rfl rfl (pc1 := 5) rfl ?_
    obtain ⟨k_6, h⟩ := ix_ck_some h
    obtain ⟨b_7, q_8, h⟩ := ix_bd1_ex h
    refine iz_getR X fl_RX1_40 k_6 q_8 (ix_tb_at tb_X1_valueOf 3 rfl) (pc1 := 8) rfl ?_
    refine ix_iload_n (i := 1) (j := 1) X (ix_tb_at tb_X1_valueOf 4 rfl) rfl rfl (pc1 := 9) rfl ?_
    obtain ⟨k_9, h⟩ := ix_ck_some h
    refine iz_iald X k_9 (ix_tb_at tb_X1_valueOf 5 rfl) (pc1 := 10) rfl ?_
    refine ix_goto (tgt := 21) X (ix_tb_at tb_X1_valueOf 6 rfl) (by decide) ?_
    exact ix_iret X hr hlk (ix_r2 (f := fun r => some (.int r)) (g := ix_w z) h) (ix_tb_at tb_X1_valueOf 13 rfl)
def tab_X1_isTrue : List (Nat × Instr × Nat) := [(0, .aload_n 0, 1), (1, .iload_n 1, 1), (2, .invokevirtual 78, 3), (5, .ifCond .le 7, 3), (8, .iconst 1, 1), (9, .goto 4, 3), (12, .iconst 0, 1), (13, .ireturn, 1)]
theorem tb_X1_isTrue : ix_tab cX1_isTrue tab_X1_isTrue := by
  unfold ix_tab
  decide +kernel
noncomputable def f_X1_isTrue (n : Nat) (z : ix_Z) (a0 : Nat) (x1 : Int32) (d : ix_D2) : Option (Int32 × ix_D2) :=
  ix_ck (ix_ok z [1] a0) (ix_bd2 (f_X1_valueOf n z a0 x1 d) (fun r_4 d_1 => ix_if (r_4 ≤ 0) (some (0, d_1)) (some (1, d_1))))
set_option maxRecDepth 20000 in
theorem c_X1_isTrue {l : Launch} {K : ix_Cx} (hKp : ix_Kp K) {n : Nat} {z : ix_Z} {a0 : Nat} {x1 : Int32} {d : ix_D2} {r : Int32} {d1 : ix_D2} (h : f_X1_isTrue n z a0 x1 d = some (r, d1)) : ix_M l K yX1_isTrue cX1_isTrue 2 (some .boolean) 1 21 0 0 [.ref (K.2.2.1 + a0), .int x1] (ix_w z d) (some (.int r)) (ix_w z d1) := by
  refine ix_met mf_X1_isTrue hKp (Nat.le_of_ble_eq_true rfl) ?_
  intro p e s m args below meth c hr hlk hnm X
  have X : ix_X p s m args c K cX1_isTrue RX1 2 := X
  show ix_G p l e (ix_rm 1 21 0 0) s m args below meth c (MQ below (ix_Post K (some (.int r)) (ix_w z d1)) args s 0 0 (ix_A K)) K 2 0 0 0 [(0, .ref (K.2.2.1 + a0)), (1, .int x1)] [] (ix_w z d)
  unfold f_X1_isTrue at h
  refine ix_aload_n (i := 0) (j := 0) X (ix_tb_at tb_X1_isTrue 0 rfl) rfl rfl (pc1 := 1) rfl ?_
  refine ix_iload_n (i := 1) (j := 1) X (ix_tb_at tb_X1_isTrue 1 rfl) rfl rfl (pc1 := 2) rfl ?_
  obtain ⟨k_3, h⟩ := ix_ck_some h
  obtain ⟨r_4, d_1, h_2, h⟩ := ix_bd2_ex h
  refine ix_callV (As := [.int x1]) (rest := []) (ci := 1) (T := TX1) (nf := 17) X mf_X1_valueOf mi_X1_valueOf ms_X1_valueOf rfl (Nat.le_of_ble_eq_true rfl) ml_RX1_78 ⟨Nat.le_of_ble_eq_true rfl, Nat.le_of_ble_eq_true rfl⟩ ⟨Nat.le_of_ble_eq_true rfl, Nat.le_of_ble_eq_true rfl⟩ rfl (Nat.le_of_ble_eq_true rfl) (ix_tb_at tb_X1_isTrue 2 rfl) ⟨k_3.1, List.mem_singleton.mp k_3.2⟩ (c_X1_valueOf hKp h_2) rfl (pc1 := 5) rfl ?_
  refine ix_if_le (tgt := 12) X (ix_tb_at tb_X1_isTrue 3 rfl) (by decide) (pc1 := 8) rfl (fun q_5 => ?_) (fun q_5 => ?_)
  · have h := ix_ift q_5 h
    refine ix_iconst (v := 0) X (ix_tb_at tb_X1_isTrue 6 rfl) (by decide) (pc1 := 13) rfl ?_
    exact ix_zret X hr hlk (by decide) (ix_r2 (f := fun r => some (.int r)) (g := ix_w z) h) (ix_tb_at tb_X1_isTrue 7 rfl)
  · have h := ix_iff q_5 h
    refine ix_iconst (v := 1) X (ix_tb_at tb_X1_isTrue 4 rfl) (by decide) (pc1 := 9) rfl ?_
    refine ix_goto (tgt := 13) X (ix_tb_at tb_X1_isTrue 5 rfl) (by decide) ?_
    exact ix_zret X hr hlk (by decide) (ix_r2 (f := fun r => some (.int r)) (g := ix_w z) h) (ix_tb_at tb_X1_isTrue 7 rfl)
def tab_X8_trueOnes : List (Nat × Instr × Nat) := [(0, .iconst 0, 1), (1, .istore_n 2, 1), (2, .iconst 0, 1), (3, .istore_n 3, 1), (4, .iload_n 3, 1), (5, .aload_n 0, 1), (6, .getfield 7, 3), (9, .arraylength, 1), (10, .if_icmp .ge 30, 3), (13, .iload_n 2, 1), (14, .aload_n 1, 1), (15, .aload_n 0, 1), (16, .getfield 7, 3), (19, .iload_n 3, 1), (20, .iaload, 1), (21, .invokevirtual 23, 3), (24, .ifCond .eq 7, 3), (27, .iconst 1, 1), (28, .goto 4, 3), (31, .iconst 0, 1), (32, .iadd, 1), (33, .istore_n 2, 1), (34, .iinc 3 1, 3), (37, .goto (-33), 3), (40, .iload_n 2, 1), (41, .ireturn, 1)]
theorem tb_X8_trueOnes : ix_tab cX8_trueOnes tab_X8_trueOnes := by
  unfold ix_tab
  decide +kernel
noncomputable def f_X8_trueOnes_32 (n : Nat) (z : ix_Z) (rec4 : Int32 → Int32 → ix_D2 → Option (Int32 × ix_D2)) (a0 : Nat) (a1 : Nat) (x3 : Int32) (s0 : Int32) (s1 : Int32) (d : ix_D2) : Option (Int32 × ix_D2) :=
  ix_lt (s1 + s0) (fun x2_12 => ix_lt (x3 + 1) (fun x3_14 => rec4 x2_12 x3_14 d))
noncomputable def b_X8_trueOnes_4 (n : Nat) (z : ix_Z)  (a0 : Nat) (a1 : Nat) (rec4 : Int32 → Int32 → ix_D2 → Option (Int32 × ix_D2)) (x2 : Int32) (x3 : Int32) (d : ix_D2) : Option (Int32 × ix_D2) :=
  ix_ck (ix_ok z [0, 3, 5, 6, 9] a0) (ix_bd1 (z.1 a0 0) (fun b_2 => ix_ck (b_2 < z.2.2 ∧ 20 ≤ (z.2.1 b_2).1 ∧ (z.2.1 b_2).1 < 26) (ix_if (nI (z.2.1 b_2).2 ≤ x3) (some (x2, d)) (ix_ck (ix_ix z 20 b_2 x3) (ix_ck (ix_ok z [1] a1) (ix_bd2 (f_X1_isTrue n z a1 (d.1 b_2 (ix_n x3)) d) (fun r_10 d_7 => ix_if (r_10 = 0) (f_X8_trueOnes_32 n z rec4 a0 a1 x3 0 x2 d_7) (f_X8_trueOnes_32 n z rec4 a0 a1 x3 1 x2 d_7))))))))
noncomputable def f_X8_trueOnes_4 (n : Nat) (z : ix_Z)  (a0 : Nat) (a1 : Nat) (x2 : Int32) (x3 : Int32) (d : ix_D2) : Option (Int32 × ix_D2) := ix_fix (b_X8_trueOnes_4 n z  a0 a1) (fun _ _ _ => none) n x2 x3 d
noncomputable def f_X8_trueOnes (n : Nat) (z : ix_Z) (a0 : Nat) (a1 : Nat) (d : ix_D2) : Option (Int32 × ix_D2) :=
  f_X8_trueOnes_4 n z  a0 a1 0 0 d
set_option maxRecDepth 20000 in
theorem t_X8_trueOnes_32 {l : Launch} {p : Program} {e : Env} {s : State} {m : MethodId} {args : Array Value} {below : List Frame} {meth : Method} {c : Code} {K : ix_Cx} (hKp : ix_Kp K) {n : Nat} {z : ix_Z} (X : ix_X p s m args c K cX8_trueOnes RX8 4) (hr : meth.sig.returnType = (some .int)) (hlk : meth.locks = false) {rec4 : Int32 → Int32 → ix_D2 → Option (Int32 × ix_D2)} {a0 : Nat} {a1 : Nat} {x3 : Int32} {s0 : Int32} {s1 : Int32} {r : Int32} {d1 : ix_D2} (hrec4 : ∀ (x2 : Int32) (x3 : Int32) (d : ix_D2), rec4 x2 x3 d = some (r, d1) → ix_G p l e (ix_rm 2 42 0 0) s m args below meth c (MQ below (ix_Post K (some (.int r)) (ix_w z d1)) args s 0 0 (ix_A K)) K 4 0 0 4 [(0, .ref (K.2.2.1 + a0)), (1, .ref (K.2.2.1 + a1)), (2, .int x2), (3, .int x3)] [] (ix_w z d)) {d : ix_D2} (h : f_X8_trueOnes_32 n z rec4 a0 a1 x3 s0 s1 d = some (r, d1)) : ix_G p l e (ix_rm 2 42 0 0) s m args below meth c (MQ below (ix_Post K (some (.int r)) (ix_w z d1)) args s 0 0 (ix_A K)) K 4 0 0 32 [(0, .ref (K.2.2.1 + a0)), (1, .ref (K.2.2.1 + a1)), (3, .int x3)] [.int s0, .int s1] (ix_w z d) := by
  unfold f_X8_trueOnes_32 at h
  refine ix_iadd X (ix_tb_at tb_X8_trueOnes 20 rfl) (pc1 := 33) rfl ?_
  obtain ⟨x2_12, e_13, h⟩ := ix_lt_ex h
  refine ix_nmi e_13 ?_
  refine ix_istore_n (i := 2) (L1 := [(2, .int x2_12), (0, .ref (K.2.2.1 + a0)), (1, .ref (K.2.2.1 + a1)), (3, .int x3)]) X (ix_tb_at tb_X8_trueOnes 21 rfl) rfl (Nat.le_of_ble_eq_true rfl) rfl (pc1 := 34) rfl ?_
  obtain ⟨x3_14, e_15, h⟩ := ix_lt_ex h
  refine ix_iinc (i := 3) (j := 3) (v := x3_14) (L1 := [(3, .int x3_14), (2, .int x2_12), (0, .ref (K.2.2.1 + a0)), (1, .ref (K.2.2.1 + a1))]) X (ix_tb_at tb_X8_trueOnes 22 rfl) rfl (by rw [oi_1]; exact e_15.symm) (Nat.le_of_ble_eq_true rfl) rfl (pc1 := 37) rfl ?_
  refine ix_goto (tgt := 4) X (ix_tb_at tb_X8_trueOnes 23 rfl) (by decide) ?_
  refine ix_sub (L1 := [(0, .ref (K.2.2.1 + a0)), (1, .ref (K.2.2.1 + a1)), (2, .int x2_12), (3, .int x3_14)]) [2, 3, 1, 0] rfl ?_
  exact hrec4 x2_12 x3_14 d h
set_option maxRecDepth 20000 in
theorem tb_X8_trueOnes_4 {l : Launch} {p : Program} {e : Env} {s : State} {m : MethodId} {args : Array Value} {below : List Frame} {meth : Method} {c : Code} {K : ix_Cx} (hKp : ix_Kp K) {n : Nat} {z : ix_Z} (X : ix_X p s m args c K cX8_trueOnes RX8 4) (hr : meth.sig.returnType = (some .int)) (hlk : meth.locks = false)  {a0 : Nat} {a1 : Nat} {rec4 : Int32 → Int32 → ix_D2 → Option (Int32 × ix_D2)} {r : Int32} {d1 : ix_D2} (hrec4 : ∀ (x2 : Int32) (x3 : Int32) (d : ix_D2), rec4 x2 x3 d = some (r, d1) → ix_G p l e (ix_rm 2 42 0 0) s m args below meth c (MQ below (ix_Post K (some (.int r)) (ix_w z d1)) args s 0 0 (ix_A K)) K 4 0 0 4 [(0, .ref (K.2.2.1 + a0)), (1, .ref (K.2.2.1 + a1)), (2, .int x2), (3, .int x3)] [] (ix_w z d)) {x2 : Int32} {x3 : Int32} {d : ix_D2} (h : b_X8_trueOnes_4 n z  a0 a1 rec4 x2 x3 d = some (r, d1)) : ix_G p l e (ix_rm 2 42 0 0) s m args below meth c (MQ below (ix_Post K (some (.int r)) (ix_w z d1)) args s 0 0 (ix_A K)) K 4 0 0 4 [(0, .ref (K.2.2.1 + a0)), (1, .ref (K.2.2.1 + a1)), (2, .int x2), (3, .int x3)] [] (ix_w z d) := by
  unfold b_X8_trueOnes_4 at h
  refine ix_iload_n (i := 3) (j := 3) X (ix_tb_at tb_X8_trueOnes 4 rfl) rfl rfl (pc1 := 5) rfl ?_
  refine ix_aload_n (i := 0) (j := 0) X (ix_tb_at tb_X8_trueOnes 5 rfl) rfl rfl (pc1 := 6) rfl ?_
  obtain ⟨k_1, h⟩ := ix_ck_some h
  obtain ⟨b_2, q_3, h⟩ := ix_bd1_ex h
  refine iz_getR X fl_RX8_7 k_1 q_3 (ix_tb_at tb_X8_trueOnes 6 rfl) (pc1 := 9) rfl ?_
  obtain ⟨k_4, h⟩ := ix_ck_some h
  refine iz_alen X k_4 (ix_tb_at tb_X8_trueOnes 7 rfl) (pc1 := 10) rfl ?_
  refine ix_icmp_ge (tgt := 40) X (ix_tb_at tb_X8_trueOnes 8 rfl) (by decide) (pc1 := 13) rfl (fun q_5 => ?_) (fun q_5 => ?_)
  · have h := ix_ift q_5 h
    refine ix_iload_n (i := 2) (j := 2) X (ix_tb_at tb_X8_trueOnes 24 rfl) rfl rfl (pc1 := 41) rfl ?_
    exact ix_iret X hr hlk (ix_r2 (f := fun r => some (.int r)) (g := ix_w z) h) (ix_tb_at tb_X8_trueOnes 25 rfl)
  · have h := ix_iff q_5 h
    refine ix_iload_n (i := 2) (j := 2) X (ix_tb_at tb_X8_trueOnes 9 rfl) rfl rfl (pc1 := 14) rfl ?_
    refine ix_aload_n (i := 1) (j := 1) X (ix_tb_at tb_X8_trueOnes 10 rfl) rfl rfl (pc1 := 15) rfl ?_
    refine ix_aload_n (i := 0) (j := 0) X (ix_tb_at tb_X8_trueOnes 11 rfl) rfl rfl (pc1 := 16) rfl ?_
    refine iz_getR X fl_RX8_7 k_1 q_3 (ix_tb_at tb_X8_trueOnes 12 rfl) (pc1 := 19) rfl ?_
    refine ix_iload_n (i := 3) (j := 3) X (ix_tb_at tb_X8_trueOnes 13 rfl) rfl rfl (pc1 := 20) rfl ?_
    obtain ⟨k_6, h⟩ := ix_ck_some h
    refine iz_iald X k_6 (ix_tb_at tb_X8_trueOnes 14 rfl) (pc1 := 21) rfl ?_
    obtain ⟨k_9, h⟩ := ix_ck_some h
    obtain ⟨r_10, d_7, h_8, h⟩ := ix_bd2_ex h
    refine ix_callV (As := [.int (d.1 b_2 (ix_n x3))]) (rest := [.int x2]) (ci := 1) (T := TX1) (nf := 17) X mf_X1_isTrue mi_X1_isTrue ms_X1_isTrue rfl (Nat.le_of_ble_eq_true rfl) ml_RX8_23 ⟨Nat.le_of_ble_eq_true rfl, Nat.le_of_ble_eq_true rfl⟩ ⟨Nat.le_of_ble_eq_true rfl, Nat.le_of_ble_eq_true rfl⟩ rfl (Nat.le_of_ble_eq_true rfl) (ix_tb_at tb_X8_trueOnes 15 rfl) ⟨k_9.1, List.mem_singleton.mp k_9.2⟩ (c_X1_isTrue hKp h_8) rfl (pc1 := 24) rfl ?_
    refine ix_if_eq (tgt := 31) X (ix_tb_at tb_X8_trueOnes 16 rfl) (by decide) (pc1 := 27) rfl (fun q_11 => ?_) (fun q_11 => ?_)
    · have h := ix_ift q_11 h
      refine ix_iconst (v := 0) X (ix_tb_at tb_X8_trueOnes 19 rfl) (by decide) (pc1 := 32) rfl ?_
      refine ix_sub (L1 := [(0, .ref (K.2.2.1 + a0)), (1, .ref (K.2.2.1 + a1)), (3, .int x3)]) [0, 1, 3] rfl ?_
      exact t_X8_trueOnes_32 hKp X hr hlk hrec4 h
    · have h := ix_iff q_11 h
      refine ix_iconst (v := 1) X (ix_tb_at tb_X8_trueOnes 17 rfl) (by decide) (pc1 := 28) rfl ?_
      refine ix_goto (tgt := 32) X (ix_tb_at tb_X8_trueOnes 18 rfl) (by decide) ?_
      refine ix_sub (L1 := [(0, .ref (K.2.2.1 + a0)), (1, .ref (K.2.2.1 + a1)), (3, .int x3)]) [0, 1, 3] rfl ?_
      exact t_X8_trueOnes_32 hKp X hr hlk hrec4 h
theorem t_X8_trueOnes_4 {l : Launch} {p : Program} {e : Env} {s : State} {m : MethodId} {args : Array Value} {below : List Frame} {meth : Method} {c : Code} {K : ix_Cx} (hKp : ix_Kp K) {n : Nat} {z : ix_Z} (X : ix_X p s m args c K cX8_trueOnes RX8 4) (hr : meth.sig.returnType = (some .int)) (hlk : meth.locks = false)  {a0 : Nat} {a1 : Nat} {r : Int32} {d1 : ix_D2}  {x2 : Int32} {x3 : Int32} {d : ix_D2} (h : f_X8_trueOnes_4 n z  a0 a1 x2 x3 d = some (r, d1)) : ix_G p l e (ix_rm 2 42 0 0) s m args below meth c (MQ below (ix_Post K (some (.int r)) (ix_w z d1)) args s 0 0 (ix_A K)) K 4 0 0 4 [(0, .ref (K.2.2.1 + a0)), (1, .ref (K.2.2.1 + a1)), (2, .int x2), (3, .int x3)] [] (ix_w z d) := by
  have key : ∀ (f : Nat) (x2 : Int32) (x3 : Int32) (d : ix_D2), ix_fix (b_X8_trueOnes_4 n z  a0 a1) (fun _ _ _ => none) f x2 x3 d = some (r, d1) → ix_G p l e (ix_rm 2 42 0 0) s m args below meth c (MQ below (ix_Post K (some (.int r)) (ix_w z d1)) args s 0 0 (ix_A K)) K 4 0 0 4 [(0, .ref (K.2.2.1 + a0)), (1, .ref (K.2.2.1 + a1)), (2, .int x2), (3, .int x3)] [] (ix_w z d) := by
    intro f
    induction f with
    | zero =>
      intro x2 x3 d h
      have h : (none : Option (Int32 × ix_D2)) = some (r, d1) := h
      cases h
    | succ f ih =>
      intro x2 x3 d h
      exact tb_X8_trueOnes_4 hKp X hr hlk (rec4 := ix_fix (b_X8_trueOnes_4 n z  a0 a1) (fun _ _ _ => none) f)  ih h
  exact key n x2 x3 d h
set_option maxRecDepth 20000 in
theorem c_X8_trueOnes {l : Launch} {K : ix_Cx} (hKp : ix_Kp K) {n : Nat} {z : ix_Z} {a0 : Nat} {a1 : Nat} {d : ix_D2} {r : Int32} {d1 : ix_D2} (h : f_X8_trueOnes n z a0 a1 d = some (r, d1)) : ix_M l K yX8_trueOnes cX8_trueOnes 4 (some .int) 2 42 0 0 [.ref (K.2.2.1 + a0), .ref (K.2.2.1 + a1)] (ix_w z d) (some (.int r)) (ix_w z d1) := by
  refine ix_met mf_X8_trueOnes hKp (Nat.le_of_ble_eq_true rfl) ?_
  intro p e s m args below meth c hr hlk hnm X
  have X : ix_X p s m args c K cX8_trueOnes RX8 4 := X
  show ix_G p l e (ix_rm 2 42 0 0) s m args below meth c (MQ below (ix_Post K (some (.int r)) (ix_w z d1)) args s 0 0 (ix_A K)) K 4 0 0 0 [(0, .ref (K.2.2.1 + a0)), (1, .ref (K.2.2.1 + a1))] [] (ix_w z d)
  unfold f_X8_trueOnes at h
  refine ix_iconst (v := 0) X (ix_tb_at tb_X8_trueOnes 0 rfl) (by decide) (pc1 := 1) rfl ?_
  refine ix_istore_n (i := 2) (L1 := [(2, .int 0), (0, .ref (K.2.2.1 + a0)), (1, .ref (K.2.2.1 + a1))]) X (ix_tb_at tb_X8_trueOnes 1 rfl) rfl (Nat.le_of_ble_eq_true rfl) rfl (pc1 := 2) rfl ?_
  refine ix_iconst (v := 0) X (ix_tb_at tb_X8_trueOnes 2 rfl) (by decide) (pc1 := 3) rfl ?_
  refine ix_istore_n (i := 3) (L1 := [(3, .int 0), (2, .int 0), (0, .ref (K.2.2.1 + a0)), (1, .ref (K.2.2.1 + a1))]) X (ix_tb_at tb_X8_trueOnes 3 rfl) rfl (Nat.le_of_ble_eq_true rfl) rfl (pc1 := 4) rfl ?_
  refine ix_sub (L1 := [(0, .ref (K.2.2.1 + a0)), (1, .ref (K.2.2.1 + a1)), (2, .int 0), (3, .int 0)]) [2, 3, 1, 0] rfl ?_
  exact t_X8_trueOnes_4 hKp X hr hlk  h
def tab_X0_holds : List (Nat × Instr × Nat) := [(0, .aload_n 2, 1), (1, .bipush 10, 2), (3, .invokevirtual 31, 3), (6, .aload_n 0, 1), (7, .aload_n 1, 1), (8, .invokevirtual 37, 3), (11, .aload_n 0, 1), (12, .getfield 7, 3), (15, .if_icmp .gt 7, 3), (18, .iconst 1, 1), (19, .goto 4, 3), (22, .iconst 0, 1), (23, .ireturn, 1)]
theorem tb_X0_holds : ix_tab cX0_holds tab_X0_holds := by
  unfold ix_tab
  decide +kernel
noncomputable def v_RX0_37 (n : Nat) (z : ix_Z) (b : Nat) (p0 : Nat) (d : ix_D2) : Option (Int32 × ix_D2) := ix_if ((z.2.1 b).1 = 0) (f_X8_trueOnes n z b p0 d) (f_X8_trueOnes n z b p0 d)
theorem tv_RX0_37 {l : Launch} {p : Program} {e : Env} {s : State} {m : MethodId} {args : Array Value} {below : List Frame} {meth : Method} {c : Code} {K : ix_Cx} {R : Room} {Q : State → Prop} {nL k n pc : Nat} {cc : ByteArray} {L : List (Nat × Value)} {rest : List Value} (hKp : ix_Kp K) (X : ix_X p s m args c K cc RX0 nL) {N : Nat} {z : ix_Z} {b : Nat} {p0 : Nat} {d : ix_D2} {r : Int32} {d1 : ix_D2} (hk : ix_ok z [0, 5] b) (hcall : v_RX0_37 N z b p0 d = some (r, d1)) (hfr : 3 ≤ R.frames) (hlo : 65 ≤ R.locals) (hcs : k + 0 ≤ R.cells ∧ n + 0 ≤ R.slots) (hrm : (rest.map fun v => v.category).sum ≤ 8) (hd : decode cc pc = .ok (.invokevirtual 37, 3)) {pc1 : Nat} (hp : pc + 3 = pc1) (kk : ix_G p l e R s m args below meth c Q K nL k n pc1 L (.int r :: rest) (ix_w z d1)) : ix_G p l e R s m args below meth c Q K nL k n pc L (.ref (K.2.2.1 + p0) :: .ref (K.2.2.1 + b) :: rest) (ix_w z d) := by
  unfold v_RX0_37 at hcall
  have h2 := hk.2
  simp only [List.mem_cons, List.not_mem_nil, or_false] at h2
  rcases h2 with h2 | h2
  · have hcall := ix_ift h2 hcall
    exact ix_callU (As := [.ref (K.2.2.1 + p0)]) (rest := rest) (x := (⟨"ClauseCourt$AtMost", "trueOnes", "(LClauseCourt$Board;)I"⟩ : MethodName)) (owner := "ClauseCourt$Rule") (C := RX0) (T := TX0) (nf := 4) (ci := 0) X mf_X8_trueOnes mi_X8_trueOnes (ix_wm (i := 916) (by decide +kernel)) (ix_wm (i := 914) (by decide +kernel)) (Or.inl (ix_wm (i := 915) (by decide +kernel))) ⟨by decide, by decide⟩ (by decide +kernel) rfl (by decide) ml_RX0_37 ⟨Nat.le_trans (Nat.le_of_ble_eq_true rfl) hfr, Nat.le_trans (Nat.le_of_ble_eq_true rfl) hlo⟩ hcs rfl hrm hd ⟨hk.1, h2⟩ (c_X8_trueOnes hKp hcall) rfl hp kk
  · have hcall := ix_iff (by rw [h2]; decide) hcall
    exact ix_callU (As := [.ref (K.2.2.1 + p0)]) (rest := rest) (x := (⟨"ClauseCourt$AtMost", "trueOnes", "(LClauseCourt$Board;)I"⟩ : MethodName)) (owner := "ClauseCourt$Rule") (C := RX5) (T := TX5) (nf := 4) (ci := 5) X mf_X8_trueOnes mi_X8_trueOnes (ix_wm (i := 917) (by decide +kernel)) (ix_wm (i := 914) (by decide +kernel)) (Or.inl (ix_wm (i := 915) (by decide +kernel))) ⟨by decide, by decide⟩ (by decide +kernel) rfl (by decide) ml_RX0_37 ⟨Nat.le_trans (Nat.le_of_ble_eq_true rfl) hfr, Nat.le_trans (Nat.le_of_ble_eq_true rfl) hlo⟩ hcs rfl hrm hd ⟨hk.1, h2⟩ (c_X8_trueOnes hKp hcall) rfl hp kk
noncomputable def f_X0_holds (n : Nat) (z : ix_Z) (a0 : Nat) (a1 : Nat) (a2 : Nat) (d : ix_D2) : Option (Int32 × ix_D2) :=
  ix_ck (ix_ok z [4] a2) (ix_bd1 (f_X4_note n z a2 10 d) (fun d_1 => ix_ck (ix_ok z [0, 5] a0) (ix_bd2 (v_RX0_37 n z a0 a1 d_1) (fun r_7 d_5 => ix_if (d_5.1 a0 3 < r_7) (some (0, d_5)) (some (1, d_5))))))
set_option maxRecDepth 20000 in
theorem c_X0_holds {l : Launch} {K : ix_Cx} (hKp : ix_Kp K) {n : Nat} {z : ix_Z} {a0 : Nat} {a1 : Nat} {a2 : Nat} {d : ix_D2} {r : Int32} {d1 : ix_D2} (h : f_X0_holds n z a0 a1 a2 d = some (r, d1)) : ix_M l K yX0_holds cX0_holds 3 (some .boolean) 3 65 0 0 [.ref (K.2.2.1 + a0), .ref (K.2.2.1 + a1), .ref (K.2.2.1 + a2)] (ix_w z d) (some (.int r)) (ix_w z d1) := by
  refine ix_met mf_X0_holds hKp (Nat.le_of_ble_eq_true rfl) ?_
  intro p e s m args below meth c hr hlk hnm X
  have X : ix_X p s m args c K cX0_holds RX0 3 := X
  show ix_G p l e (ix_rm 3 65 0 0) s m args below meth c (MQ below (ix_Post K (some (.int r)) (ix_w z d1)) args s 0 0 (ix_A K)) K 3 0 0 0 [(0, .ref (K.2.2.1 + a0)), (1, .ref (K.2.2.1 + a1)), (2, .ref (K.2.2.1 + a2))] [] (ix_w z d)
  unfold f_X0_holds at h
  refine ix_aload_n (i := 2) (j := 2) X (ix_tb_at tb_X0_holds 0 rfl) rfl rfl (pc1 := 1) rfl ?_
  refine ix_bipush (v := 10) X (ix_tb_at tb_X0_holds 1 rfl) (by decide) (pc1 := 3) rfl ?_
  obtain ⟨k_3, h⟩ := ix_ck_some h
  obtain ⟨d_1, h_2, h⟩ := ix_bd1_ex h
  refine ix_callV (As := [.int 10]) (rest := []) (ci := 4) (T := TX4) (nf := 17) X mf_X4_note mi_X4_note ms_X4_note rfl (Nat.le_of_ble_eq_true rfl) ml_RX0_31 ⟨Nat.le_of_ble_eq_true rfl, Nat.le_of_ble_eq_true rfl⟩ ⟨Nat.le_of_ble_eq_true rfl, Nat.le_of_ble_eq_true rfl⟩ rfl (Nat.le_of_ble_eq_true rfl) (ix_tb_at tb_X0_holds 2 rfl) ⟨k_3.1, List.mem_singleton.mp k_3.2⟩ (c_X4_note hKp h_2) rfl (pc1 := 6) rfl ?_
  refine ix_aload_n (i := 0) (j := 0) X (ix_tb_at tb_X0_holds 3 rfl) rfl rfl (pc1 := 7) rfl ?_
  refine ix_aload_n (i := 1) (j := 1) X (ix_tb_at tb_X0_holds 4 rfl) rfl rfl (pc1 := 8) rfl ?_
  obtain ⟨k_4, h⟩ := ix_ck_some h
  obtain ⟨r_7, d_5, h_6, h⟩ := ix_bd2_ex h
  refine tv_RX0_37 (rest := []) hKp X k_4 h_6 (Nat.le_of_ble_eq_true rfl) (Nat.le_of_ble_eq_true rfl) ⟨Nat.le_of_ble_eq_true rfl, Nat.le_of_ble_eq_true rfl⟩ (Nat.le_of_ble_eq_true rfl) (ix_tb_at tb_X0_holds 5 rfl) (pc1 := 11) rfl ?_
  refine ix_aload_n (i := 0) (j := 0) X (ix_tb_at tb_X0_holds 6 rfl) rfl rfl (pc1 := 12) rfl ?_
  refine iz_getI X fl_RX0_7 k_4 (ix_tb_at tb_X0_holds 7 rfl) (pc1 := 15) rfl ?_
  refine ix_icmp_gt (tgt := 22) X (ix_tb_at tb_X0_holds 8 rfl) (by decide) (pc1 := 18) rfl (fun q_8 => ?_) (fun q_8 => ?_)
  · have h := ix_ift q_8 h
    refine ix_iconst (v := 0) X (ix_tb_at tb_X0_holds 11 rfl) (by decide) (pc1 := 23) rfl ?_
    exact ix_zret X hr hlk (by decide) (ix_r2 (f := fun r => some (.int r)) (g := ix_w z) h) (ix_tb_at tb_X0_holds 12 rfl)
  · have h := ix_iff q_8 h
    refine ix_iconst (v := 1) X (ix_tb_at tb_X0_holds 9 rfl) (by decide) (pc1 := 19) rfl ?_
    refine ix_goto (tgt := 23) X (ix_tb_at tb_X0_holds 10 rfl) (by decide) ?_
    exact ix_zret X hr hlk (by decide) (ix_r2 (f := fun r => some (.int r)) (g := ix_w z) h) (ix_tb_at tb_X0_holds 12 rfl)
def tab_X8_fewest : List (Nat × Instr × Nat) := [(0, .aload_n 1, 1), (1, .bipush 51, 2), (3, .invokevirtual 13, 3), (6, .iconst 0, 1), (7, .ireturn, 1)]
theorem tb_X8_fewest : ix_tab cX8_fewest tab_X8_fewest := by
  unfold ix_tab
  decide +kernel
noncomputable def f_X8_fewest (n : Nat) (z : ix_Z) (a0 : Nat) (a1 : Nat) (d : ix_D2) : Option (Int32 × ix_D2) :=
  ix_ck (ix_ok z [4] a1) (ix_bd1 (f_X4_note n z a1 51 d) (fun d_1 => some (0, d_1)))
set_option maxRecDepth 20000 in
theorem c_X8_fewest {l : Launch} {K : ix_Cx} (hKp : ix_Kp K) {n : Nat} {z : ix_Z} {a0 : Nat} {a1 : Nat} {d : ix_D2} {r : Int32} {d1 : ix_D2} (h : f_X8_fewest n z a0 a1 d = some (r, d1)) : ix_M l K yX8_fewest cX8_fewest 2 (some .int) 1 21 0 0 [.ref (K.2.2.1 + a0), .ref (K.2.2.1 + a1)] (ix_w z d) (some (.int r)) (ix_w z d1) := by
  refine ix_met mf_X8_fewest hKp (Nat.le_of_ble_eq_true rfl) ?_
  intro p e s m args below meth c hr hlk hnm X
  have X : ix_X p s m args c K cX8_fewest RX8 2 := X
  show ix_G p l e (ix_rm 1 21 0 0) s m args below meth c (MQ below (ix_Post K (some (.int r)) (ix_w z d1)) args s 0 0 (ix_A K)) K 2 0 0 0 [(0, .ref (K.2.2.1 + a0)), (1, .ref (K.2.2.1 + a1))] [] (ix_w z d)
  unfold f_X8_fewest at h
  refine ix_aload_n (i := 1) (j := 1) X (ix_tb_at tb_X8_fewest 0 rfl) rfl rfl (pc1 := 1) rfl ?_
  refine ix_bipush (v := 51) X (ix_tb_at tb_X8_fewest 1 rfl) (by decide) (pc1 := 3) rfl ?_
  obtain ⟨k_3, h⟩ := ix_ck_some h
  obtain ⟨d_1, h_2, h⟩ := ix_bd1_ex h
  refine ix_callV (As := [.int 51]) (rest := []) (ci := 4) (T := TX4) (nf := 17) X mf_X4_note mi_X4_note ms_X4_note rfl (Nat.le_of_ble_eq_true rfl) ml_RX8_13 ⟨Nat.le_of_ble_eq_true rfl, Nat.le_of_ble_eq_true rfl⟩ ⟨Nat.le_of_ble_eq_true rfl, Nat.le_of_ble_eq_true rfl⟩ rfl (Nat.le_of_ble_eq_true rfl) (ix_tb_at tb_X8_fewest 2 rfl) ⟨k_3.1, List.mem_singleton.mp k_3.2⟩ (c_X4_note hKp h_2) rfl (pc1 := 6) rfl ?_
  refine ix_iconst (v := 0) X (ix_tb_at tb_X8_fewest 3 rfl) (by decide) (pc1 := 7) rfl ?_
  exact ix_iret X hr hlk (ix_r2 (f := fun r => some (.int r)) (g := ix_w z) h) (ix_tb_at tb_X8_fewest 4 rfl)
def tab_X3_fewest : List (Nat × Instr × Nat) := [(0, .aload_n 1, 1), (1, .iconst 1, 1), (2, .invokevirtual 23, 3), (5, .aload_n 0, 1), (6, .aload_n 1, 1), (7, .invokespecial 32, 3), (10, .iconst 1, 1), (11, .iadd, 1), (12, .ireturn, 1)]
theorem tb_X3_fewest : ix_tab cX3_fewest tab_X3_fewest := by
  unfold ix_tab
  decide +kernel
noncomputable def v_RX3_32 (n : Nat) (z : ix_Z) (b : Nat) (p0 : Nat) (d : ix_D2) : Option (Int32 × ix_D2) := ix_if ((z.2.1 b).1 = 0) (f_X8_fewest n z b p0 d) (ix_if ((z.2.1 b).1 = 3) (f_X8_fewest n z b p0 d) (ix_if ((z.2.1 b).1 = 5) (f_X8_fewest n z b p0 d) (f_X8_fewest n z b p0 d)))
theorem tv_RX3_32 {l : Launch} {p : Program} {e : Env} {s : State} {m : MethodId} {args : Array Value} {below : List Frame} {meth : Method} {c : Code} {K : ix_Cx} {R : Room} {Q : State → Prop} {nL k n pc : Nat} {cc : ByteArray} {L : List (Nat × Value)} {rest : List Value} (hKp : ix_Kp K) (X : ix_X p s m args c K cc RX3 nL) {N : Nat} {z : ix_Z} {b : Nat} {p0 : Nat} {d : ix_D2} {r : Int32} {d1 : ix_D2} (hk : ix_ok z [0, 3, 5, 9] b) (hcall : v_RX3_32 N z b p0 d = some (r, d1)) (hfr : 2 ≤ R.frames) (hlo : 42 ≤ R.locals) (hcs : k + 0 ≤ R.cells ∧ n + 0 ≤ R.slots) (hrm : (rest.map fun v => v.category).sum ≤ 8) (hd : decode cc pc = .ok (.invokespecial 32, 3)) {pc1 : Nat} (hp : pc + 3 = pc1) (kk : ix_G p l e R s m args below meth c Q K nL k n pc1 L (.int r :: rest) (ix_w z d1)) : ix_G p l e R s m args below meth c Q K nL k n pc L (.ref (K.2.2.1 + p0) :: .ref (K.2.2.1 + b) :: rest) (ix_w z d) := by
  unfold v_RX3_32 at hcall
  have h2 := hk.2
  simp only [List.mem_cons, List.not_mem_nil, or_false] at h2
  rcases h2 with h2 | h2 | h2 | h2
  · have hcall := ix_ift h2 hcall
    exact ix_callSU (As := [.ref (K.2.2.1 + p0)]) (rest := rest) (C := RX0) (T := TX0) (nf := 4) (ci := 0) X mf_X8_fewest mi_X8_fewest (ix_wm (i := 964) (by decide +kernel)) (ix_wm (i := 528) (by decide +kernel)) (by decide) rfl (by decide) ml_RX3_32 ⟨Nat.le_trans (Nat.le_of_ble_eq_true rfl) hfr, Nat.le_trans (Nat.le_of_ble_eq_true rfl) hlo⟩ hcs rfl hrm hd ⟨hk.1, h2⟩ (c_X8_fewest hKp hcall) rfl hp kk
  · have hcall := ix_iff (by rw [h2]; decide) hcall
    have hcall := ix_ift h2 hcall
    exact ix_callSU (As := [.ref (K.2.2.1 + p0)]) (rest := rest) (C := RX3) (T := TX3) (nf := 3) (ci := 3) X mf_X8_fewest mi_X8_fewest (ix_wm (i := 964) (by decide +kernel)) (ix_wm (i := 528) (by decide +kernel)) (by decide) rfl (by decide) ml_RX3_32 ⟨Nat.le_trans (Nat.le_of_ble_eq_true rfl) hfr, Nat.le_trans (Nat.le_of_ble_eq_true rfl) hlo⟩ hcs rfl hrm hd ⟨hk.1, h2⟩ (c_X8_fewest hKp hcall) rfl hp kk
  · have hcall := ix_iff (by rw [h2]; decide) hcall
    have hcall := ix_iff (by rw [h2]; decide) hcall
    have hcall := ix_ift h2 hcall
    exact ix_callSU (As := [.ref (K.2.2.1 + p0)]) (rest := rest) (C := RX5) (T := TX5) (nf := 4) (ci := 5) X mf_X8_fewest mi_X8_fewest (ix_wm (i := 964) (by decide +kernel)) (ix_wm (i := 528) (by decide +kernel)) (by decide) rfl (by decide) ml_RX3_32 ⟨Nat.le_trans (Nat.le_of_ble_eq_true rfl) hfr, Nat.le_trans (Nat.le_of_ble_eq_true rfl) hlo⟩ hcs rfl hrm hd ⟨hk.1, h2⟩ (c_X8_fewest hKp hcall) rfl hp kk
  · have hcall := ix_iff (by rw [h2]; decide) hcall
    have hcall := ix_iff (by rw [h2]; decide) hcall
    have hcall := ix_iff (by rw [h2]; decide) hcall
    exact ix_callSU (As := [.ref (K.2.2.1 + p0)]) (rest := rest) (C := RX10) (T := TX10) (nf := 6) (ci := 9) X mf_X8_fewest mi_X8_fewest (ix_wm (i := 964) (by decide +kernel)) (ix_wm (i := 528) (by decide +kernel)) (by decide) rfl (by decide) ml_RX3_32 ⟨Nat.le_trans (Nat.le_of_ble_eq_true rfl) hfr, Nat.le_trans (Nat.le_of_ble_eq_true rfl) hlo⟩ hcs rfl hrm hd ⟨hk.1, h2⟩ (c_X8_fewest hKp hcall) rfl hp kk
noncomputable def f_X3_fewest (n : Nat) (z : ix_Z) (a0 : Nat) (a1 : Nat) (d : ix_D2) : Option (Int32 × ix_D2) :=
  ix_ck (ix_ok z [4] a1) (ix_bd1 (f_X4_note n z a1 1 d) (fun d_1 => ix_ck (ix_ok z [0, 3, 5, 9] a0) (ix_bd2 (v_RX3_32 n z a0 a1 d_1) (fun r_7 d_5 => some (r_7 + 1, d_5)))))
set_option maxRecDepth 20000 in
theorem c_X3_fewest {l : Launch} {K : ix_Cx} (hKp : ix_Kp K) {n : Nat} {z : ix_Z} {a0 : Nat} {a1 : Nat} {d : ix_D2} {r : Int32} {d1 : ix_D2} (h : f_X3_fewest n z a0 a1 d = some (r, d1)) : ix_M l K yX3_fewest cX3_fewest 2 (some .int) 2 42 0 0 [.ref (K.2.2.1 + a0), .ref (K.2.2.1 + a1)] (ix_w z d) (some (.int r)) (ix_w z d1) := by
  refine ix_met mf_X3_fewest hKp (Nat.le_of_ble_eq_true rfl) ?_
  intro p e s m args below meth c hr hlk hnm X
  have X : ix_X p s m args c K cX3_fewest RX3 2 := X
  show ix_G p l e (ix_rm 2 42 0 0) s m args below meth c (MQ below (ix_Post K (some (.int r)) (ix_w z d1)) args s 0 0 (ix_A K)) K 2 0 0 0 [(0, .ref (K.2.2.1 + a0)), (1, .ref (K.2.2.1 + a1))] [] (ix_w z d)
  unfold f_X3_fewest at h
  refine ix_aload_n (i := 1) (j := 1) X (ix_tb_at tb_X3_fewest 0 rfl) rfl rfl (pc1 := 1) rfl ?_
  refine ix_iconst (v := 1) X (ix_tb_at tb_X3_fewest 1 rfl) (by decide) (pc1 := 2) rfl ?_
  obtain ⟨k_3, h⟩ := ix_ck_some h
  obtain ⟨d_1, h_2, h⟩ := ix_bd1_ex h
  refine ix_callV (As := [.int 1]) (rest := []) (ci := 4) (T := TX4) (nf := 17) X mf_X4_note mi_X4_note ms_X4_note rfl (Nat.le_of_ble_eq_true rfl) ml_RX3_23 ⟨Nat.le_of_ble_eq_true rfl, Nat.le_of_ble_eq_true rfl⟩ ⟨Nat.le_of_ble_eq_true rfl, Nat.le_of_ble_eq_true rfl⟩ rfl (Nat.le_of_ble_eq_true rfl) (ix_tb_at tb_X3_fewest 2 rfl) ⟨k_3.1, List.mem_singleton.mp k_3.2⟩ (c_X4_note hKp h_2) rfl (pc1 := 5) rfl ?_
  refine ix_aload_n (i := 0) (j := 0) X (ix_tb_at tb_X3_fewest 3 rfl) rfl rfl (pc1 := 6) rfl ?_
  refine ix_aload_n (i := 1) (j := 1) X (ix_tb_at tb_X3_fewest 4 rfl) rfl rfl (pc1 := 7) rfl ?_
  obtain ⟨k_4, h⟩ := ix_ck_some h
  obtain ⟨r_7, d_5, h_6, h⟩ := ix_bd2_ex h
  refine tv_RX3_32 (rest := []) hKp X k_4 h_6 (Nat.le_of_ble_eq_true rfl) (Nat.le_of_ble_eq_true rfl) ⟨Nat.le_of_ble_eq_true rfl, Nat.le_of_ble_eq_true rfl⟩ (Nat.le_of_ble_eq_true rfl) (ix_tb_at tb_X3_fewest 5 rfl) (pc1 := 10) rfl ?_
  refine ix_iconst (v := 1) X (ix_tb_at tb_X3_fewest 6 rfl) (by decide) (pc1 := 11) rfl ?_
  refine ix_iadd X (ix_tb_at tb_X3_fewest 7 rfl) (pc1 := 12) rfl ?_
  exact ix_iret X hr hlk (ix_r2 (f := fun r => some (.int r)) (g := ix_w z) h) (ix_tb_at tb_X3_fewest 8 rfl)
def tab_X0_fewest : List (Nat × Instr × Nat) := [(0, .aload_n 1, 1), (1, .bipush 11, 2), (3, .invokevirtual 31, 3), (6, .aload_n 0, 1), (7, .aload_n 1, 1), (8, .invokespecial 41, 3), (11, .iconst 1, 1), (12, .isub, 1), (13, .ireturn, 1)]
theorem tb_X0_fewest : ix_tab cX0_fewest tab_X0_fewest := by
  unfold ix_tab
  decide +kernel
noncomputable def v_RX0_41 (n : Nat) (z : ix_Z) (b : Nat) (p0 : Nat) (d : ix_D2) : Option (Int32 × ix_D2) := ix_if ((z.2.1 b).1 = 0) (f_X3_fewest n z b p0 d) (f_X3_fewest n z b p0 d)
theorem tv_RX0_41 {l : Launch} {p : Program} {e : Env} {s : State} {m : MethodId} {args : Array Value} {below : List Frame} {meth : Method} {c : Code} {K : ix_Cx} {R : Room} {Q : State → Prop} {nL k n pc : Nat} {cc : ByteArray} {L : List (Nat × Value)} {rest : List Value} (hKp : ix_Kp K) (X : ix_X p s m args c K cc RX0 nL) {N : Nat} {z : ix_Z} {b : Nat} {p0 : Nat} {d : ix_D2} {r : Int32} {d1 : ix_D2} (hk : ix_ok z [0, 5] b) (hcall : v_RX0_41 N z b p0 d = some (r, d1)) (hfr : 3 ≤ R.frames) (hlo : 63 ≤ R.locals) (hcs : k + 0 ≤ R.cells ∧ n + 0 ≤ R.slots) (hrm : (rest.map fun v => v.category).sum ≤ 8) (hd : decode cc pc = .ok (.invokespecial 41, 3)) {pc1 : Nat} (hp : pc + 3 = pc1) (kk : ix_G p l e R s m args below meth c Q K nL k n pc1 L (.int r :: rest) (ix_w z d1)) : ix_G p l e R s m args below meth c Q K nL k n pc L (.ref (K.2.2.1 + p0) :: .ref (K.2.2.1 + b) :: rest) (ix_w z d) := by
  unfold v_RX0_41 at hcall
  have h2 := hk.2
  simp only [List.mem_cons, List.not_mem_nil, or_false] at h2
  rcases h2 with h2 | h2
  · have hcall := ix_ift h2 hcall
    exact ix_callSU (As := [.ref (K.2.2.1 + p0)]) (rest := rest) (C := RX0) (T := TX0) (nf := 4) (ci := 0) X mf_X3_fewest mi_X3_fewest (ix_wm (i := 2473) (by decide +kernel)) (ix_wm (i := 646) (by decide +kernel)) (by decide) rfl (by decide) ml_RX0_41 ⟨Nat.le_trans (Nat.le_of_ble_eq_true rfl) hfr, Nat.le_trans (Nat.le_of_ble_eq_true rfl) hlo⟩ hcs rfl hrm hd ⟨hk.1, h2⟩ (c_X3_fewest hKp hcall) rfl hp kk
  · have hcall := ix_iff (by rw [h2]; decide) hcall
    exact ix_callSU (As := [.ref (K.2.2.1 + p0)]) (rest := rest) (C := RX5) (T := TX5) (nf := 4) (ci := 5) X mf_X3_fewest mi_X3_fewest (ix_wm (i := 2473) (by decide +kernel)) (ix_wm (i := 646) (by decide +kernel)) (by decide) rfl (by decide) ml_RX0_41 ⟨Nat.le_trans (Nat.le_of_ble_eq_true rfl) hfr, Nat.le_trans (Nat.le_of_ble_eq_true rfl) hlo⟩ hcs rfl hrm hd ⟨hk.1, h2⟩ (c_X3_fewest hKp hcall) rfl hp kk
noncomputable def f_X0_fewest (n : Nat) (z : ix_Z) (a0 : Nat) (a1 : Nat) (d : ix_D2) : Option (Int32 × ix_D2) :=
  ix_ck (ix_ok z [4] a1) (ix_bd1 (f_X4_note n z a1 11 d) (fun d_1 => ix_ck (ix_ok z [0, 5] a0) (ix_bd2 (v_RX0_41 n z a0 a1 d_1) (fun r_7 d_5 => some (r_7 - 1, d_5)))))
set_option maxRecDepth 20000 in
theorem c_X0_fewest {l : Launch} {K : ix_Cx} (hKp : ix_Kp K) {n : Nat} {z : ix_Z} {a0 : Nat} {a1 : Nat} {d : ix_D2} {r : Int32} {d1 : ix_D2} (h : f_X0_fewest n z a0 a1 d = some (r, d1)) : ix_M l K yX0_fewest cX0_fewest 2 (some .int) 3 63 0 0 [.ref (K.2.2.1 + a0), .ref (K.2.2.1 + a1)] (ix_w z d) (some (.int r)) (ix_w z d1) := by
  refine ix_met mf_X0_fewest hKp (Nat.le_of_ble_eq_true rfl) ?_
  intro p e s m args below meth c hr hlk hnm X
  have X : ix_X p s m args c K cX0_fewest RX0 2 := X
  show ix_G p l e (ix_rm 3 63 0 0) s m args below meth c (MQ below (ix_Post K (some (.int r)) (ix_w z d1)) args s 0 0 (ix_A K)) K 2 0 0 0 [(0, .ref (K.2.2.1 + a0)), (1, .ref (K.2.2.1 + a1))] [] (ix_w z d)
  unfold f_X0_fewest at h
  refine ix_aload_n (i := 1) (j := 1) X (ix_tb_at tb_X0_fewest 0 rfl) rfl rfl (pc1 := 1) rfl ?_
  refine ix_bipush (v := 11) X (ix_tb_at tb_X0_fewest 1 rfl) (by decide) (pc1 := 3) rfl ?_
  obtain ⟨k_3, h⟩ := ix_ck_some h
  obtain ⟨d_1, h_2, h⟩ := ix_bd1_ex h
  refine ix_callV (As := [.int 11]) (rest := []) (ci := 4) (T := TX4) (nf := 17) X mf_X4_note mi_X4_note ms_X4_note rfl (Nat.le_of_ble_eq_true rfl) ml_RX0_31 ⟨Nat.le_of_ble_eq_true rfl, Nat.le_of_ble_eq_true rfl⟩ ⟨Nat.le_of_ble_eq_true rfl, Nat.le_of_ble_eq_true rfl⟩ rfl (Nat.le_of_ble_eq_true rfl) (ix_tb_at tb_X0_fewest 2 rfl) ⟨k_3.1, List.mem_singleton.mp k_3.2⟩ (c_X4_note hKp h_2) rfl (pc1 := 6) rfl ?_
  refine ix_aload_n (i := 0) (j := 0) X (ix_tb_at tb_X0_fewest 3 rfl) rfl rfl (pc1 := 7) rfl ?_
  refine ix_aload_n (i := 1) (j := 1) X (ix_tb_at tb_X0_fewest 4 rfl) rfl rfl (pc1 := 8) rfl ?_
  obtain ⟨k_4, h⟩ := ix_ck_some h
  obtain ⟨r_7, d_5, h_6, h⟩ := ix_bd2_ex h
  refine tv_RX0_41 (rest := []) hKp X k_4 h_6 (Nat.le_of_ble_eq_true rfl) (Nat.le_of_ble_eq_true rfl) ⟨Nat.le_of_ble_eq_true rfl, Nat.le_of_ble_eq_true rfl⟩ (Nat.le_of_ble_eq_true rfl) (ix_tb_at tb_X0_fewest 5 rfl) (pc1 := 11) rfl ?_
  refine ix_iconst (v := 1) X (ix_tb_at tb_X0_fewest 6 rfl) (by decide) (pc1 := 12) rfl ?_
  refine ix_isub X (ix_tb_at tb_X0_fewest 7 rfl) (pc1 := 13) rfl ?_
  exact ix_iret X hr hlk (ix_r2 (f := fun r => some (.int r)) (g := ix_w z) h) (ix_tb_at tb_X0_fewest 8 rfl)
def tab_X8_greatest : List (Nat × Instr × Nat) := [(0, .aload_n 1, 1), (1, .bipush 52, 2), (3, .invokevirtual 13, 3), (6, .aload_n 0, 1), (7, .getfield 7, 3), (10, .arraylength, 1), (11, .ireturn, 1)]
theorem tb_X8_greatest : ix_tab cX8_greatest tab_X8_greatest := by
  unfold ix_tab
  decide +kernel
noncomputable def f_X8_greatest (n : Nat) (z : ix_Z) (a0 : Nat) (a1 : Nat) (d : ix_D2) : Option (Int32 × ix_D2) :=
  ix_ck (ix_ok z [4] a1) (ix_bd1 (f_X4_note n z a1 52 d) (fun d_1 => ix_ck (ix_ok z [0, 3, 5, 6, 9] a0) (ix_bd1 (z.1 a0 0) (fun b_5 => ix_ck (b_5 < z.2.2 ∧ 20 ≤ (z.2.1 b_5).1 ∧ (z.2.1 b_5).1 < 26) (some (nI (z.2.1 b_5).2, d_1))))))
set_option maxRecDepth 20000 in
theorem c_X8_greatest {l : Launch} {K : ix_Cx} (hKp : ix_Kp K) {n : Nat} {z : ix_Z} {a0 : Nat} {a1 : Nat} {d : ix_D2} {r : Int32} {d1 : ix_D2} (h : f_X8_greatest n z a0 a1 d = some (r, d1)) : ix_M l K yX8_greatest cX8_greatest 2 (some .int) 1 21 0 0 [.ref (K.2.2.1 + a0), .ref (K.2.2.1 + a1)] (ix_w z d) (some (.int r)) (ix_w z d1) := by
  refine ix_met mf_X8_greatest hKp (Nat.le_of_ble_eq_true rfl) ?_
  intro p e s m args below meth c hr hlk hnm X
  have X : ix_X p s m args c K cX8_greatest RX8 2 := X
  show ix_G p l e (ix_rm 1 21 0 0) s m args below meth c (MQ below (ix_Post K (some (.int r)) (ix_w z d1)) args s 0 0 (ix_A K)) K 2 0 0 0 [(0, .ref (K.2.2.1 + a0)), (1, .ref (K.2.2.1 + a1))] [] (ix_w z d)
  unfold f_X8_greatest at h
  refine ix_aload_n (i := 1) (j := 1) X (ix_tb_at tb_X8_greatest 0 rfl) rfl rfl (pc1 := 1) rfl ?_
  refine ix_bipush (v := 52) X (ix_tb_at tb_X8_greatest 1 rfl) (by decide) (pc1 := 3) rfl ?_
  obtain ⟨k_3, h⟩ := ix_ck_some h
  obtain ⟨d_1, h_2, h⟩ := ix_bd1_ex h
  refine ix_callV (As := [.int 52]) (rest := []) (ci := 4) (T := TX4) (nf := 17) X mf_X4_note mi_X4_note ms_X4_note rfl (Nat.le_of_ble_eq_true rfl) ml_RX8_13 ⟨Nat.le_of_ble_eq_true rfl, Nat.le_of_ble_eq_true rfl⟩ ⟨Nat.le_of_ble_eq_true rfl, Nat.le_of_ble_eq_true rfl⟩ rfl (Nat.le_of_ble_eq_true rfl) (ix_tb_at tb_X8_greatest 2 rfl) ⟨k_3.1, List.mem_singleton.mp k_3.2⟩ (c_X4_note hKp h_2) rfl (pc1 := 6) rfl ?_
  refine ix_aload_n (i := 0) (j := 0) X (ix_tb_at tb_X8_greatest 3 rfl) rfl rfl (pc1 := 7) rfl ?_
  obtain ⟨k_4, h⟩ := ix_ck_some h
  obtain ⟨b_5, q_6, h⟩ := ix_bd1_ex h
  refine iz_getR X fl_RX8_7 k_4 q_6 (ix_tb_at tb_X8_greatest 4 rfl) (pc1 := 10) rfl ?_
  obtain ⟨k_7, h⟩ := ix_ck_some h
  refine iz_alen X k_7 (ix_tb_at tb_X8_greatest 5 rfl) (pc1 := 11) rfl ?_
  exact ix_iret X hr hlk (ix_r2 (f := fun r => some (.int r)) (g := ix_w z) h) (ix_tb_at tb_X8_greatest 6 rfl)
def tab_X0_greatest : List (Nat × Instr × Nat) := [(0, .aload_n 1, 1), (1, .bipush 12, 2), (3, .invokevirtual 31, 3), (6, .aload_n 0, 1), (7, .aload_n 1, 1), (8, .invokespecial 45, 3), (11, .aload_n 0, 1), (12, .getfield 7, 3), (15, .invokestatic 48, 3), (18, .ireturn, 1)]
theorem tb_X0_greatest : ix_tab cX0_greatest tab_X0_greatest := by
  unfold ix_tab
  decide +kernel
noncomputable def v_RX0_45 (n : Nat) (z : ix_Z) (b : Nat) (p0 : Nat) (d : ix_D2) : Option (Int32 × ix_D2) := ix_if ((z.2.1 b).1 = 0) (f_X8_greatest n z b p0 d) (f_X8_greatest n z b p0 d)
theorem tv_RX0_45 {l : Launch} {p : Program} {e : Env} {s : State} {m : MethodId} {args : Array Value} {below : List Frame} {meth : Method} {c : Code} {K : ix_Cx} {R : Room} {Q : State → Prop} {nL k n pc : Nat} {cc : ByteArray} {L : List (Nat × Value)} {rest : List Value} (hKp : ix_Kp K) (X : ix_X p s m args c K cc RX0 nL) {N : Nat} {z : ix_Z} {b : Nat} {p0 : Nat} {d : ix_D2} {r : Int32} {d1 : ix_D2} (hk : ix_ok z [0, 5] b) (hcall : v_RX0_45 N z b p0 d = some (r, d1)) (hfr : 2 ≤ R.frames) (hlo : 42 ≤ R.locals) (hcs : k + 0 ≤ R.cells ∧ n + 0 ≤ R.slots) (hrm : (rest.map fun v => v.category).sum ≤ 8) (hd : decode cc pc = .ok (.invokespecial 45, 3)) {pc1 : Nat} (hp : pc + 3 = pc1) (kk : ix_G p l e R s m args below meth c Q K nL k n pc1 L (.int r :: rest) (ix_w z d1)) : ix_G p l e R s m args below meth c Q K nL k n pc L (.ref (K.2.2.1 + p0) :: .ref (K.2.2.1 + b) :: rest) (ix_w z d) := by
  unfold v_RX0_45 at hcall
  have h2 := hk.2
  simp only [List.mem_cons, List.not_mem_nil, or_false] at h2
  rcases h2 with h2 | h2
  · have hcall := ix_ift h2 hcall
    exact ix_callSU2 (As := [.ref (K.2.2.1 + p0)]) (rest := rest) (x := (⟨"ClauseCourt$Clause", "greatest", "(LClauseCourt$Desk;)I"⟩ : MethodName)) (y := yX8_greatest) (C := RX0) (T := TX0) (nf := 4) (ci := 0) X mf_X8_greatest mi_X8_greatest rfl (ix_wm (i := 990) (by decide +kernel)) (ix_wm (i := 646) (by decide +kernel)) (ix_wm (i := 528) (by decide +kernel)) (by decide) rfl (by decide) ml_RX0_45 ⟨Nat.le_trans (Nat.le_of_ble_eq_true rfl) hfr, Nat.le_trans (Nat.le_of_ble_eq_true rfl) hlo⟩ hcs rfl hrm hd ⟨hk.1, h2⟩ (c_X8_greatest hKp hcall) rfl hp kk
  · have hcall := ix_iff (by rw [h2]; decide) hcall
    exact ix_callSU2 (As := [.ref (K.2.2.1 + p0)]) (rest := rest) (x := (⟨"ClauseCourt$Clause", "greatest", "(LClauseCourt$Desk;)I"⟩ : MethodName)) (y := yX8_greatest) (C := RX5) (T := TX5) (nf := 4) (ci := 5) X mf_X8_greatest mi_X8_greatest rfl (ix_wm (i := 990) (by decide +kernel)) (ix_wm (i := 646) (by decide +kernel)) (ix_wm (i := 528) (by decide +kernel)) (by decide) rfl (by decide) ml_RX0_45 ⟨Nat.le_trans (Nat.le_of_ble_eq_true rfl) hfr, Nat.le_trans (Nat.le_of_ble_eq_true rfl) hlo⟩ hcs rfl hrm hd ⟨hk.1, h2⟩ (c_X8_greatest hKp hcall) rfl hp kk
noncomputable def f_X0_greatest (n : Nat) (z : ix_Z) (a0 : Nat) (a1 : Nat) (d : ix_D2) : Option (Int32 × ix_D2) :=
  ix_ck (ix_ok z [4] a1) (ix_bd1 (f_X4_note n z a1 12 d) (fun d_1 => ix_ck (ix_ok z [0, 5] a0) (ix_bd2 (v_RX0_45 n z a0 a1 d_1) (fun r_7 d_5 => some (ix_min r_7 (d_5.1 a0 3), d_5)))))
set_option maxRecDepth 20000 in
theorem c_X0_greatest {l : Launch} {K : ix_Cx} (hKp : ix_Kp K) {n : Nat} {z : ix_Z} {a0 : Nat} {a1 : Nat} {d : ix_D2} {r : Int32} {d1 : ix_D2} (h : f_X0_greatest n z a0 a1 d = some (r, d1)) : ix_M l K yX0_greatest cX0_greatest 2 (some .int) 2 42 0 0 [.ref (K.2.2.1 + a0), .ref (K.2.2.1 + a1)] (ix_w z d) (some (.int r)) (ix_w z d1) := by
  refine ix_met mf_X0_greatest hKp (Nat.le_of_ble_eq_true rfl) ?_
  intro p e s m args below meth c hr hlk hnm X
  have X : ix_X p s m args c K cX0_greatest RX0 2 := X
  show ix_G p l e (ix_rm 2 42 0 0) s m args below meth c (MQ below (ix_Post K (some (.int r)) (ix_w z d1)) args s 0 0 (ix_A K)) K 2 0 0 0 [(0, .ref (K.2.2.1 + a0)), (1, .ref (K.2.2.1 + a1))] [] (ix_w z d)
  unfold f_X0_greatest at h
  refine ix_aload_n (i := 1) (j := 1) X (ix_tb_at tb_X0_greatest 0 rfl) rfl rfl (pc1 := 1) rfl ?_
  refine ix_bipush (v := 12) X (ix_tb_at tb_X0_greatest 1 rfl) (by decide) (pc1 := 3) rfl ?_
  obtain ⟨k_3, h⟩ := ix_ck_some h
  obtain ⟨d_1, h_2, h⟩ := ix_bd1_ex h
  refine ix_callV (As := [.int 12]) (rest := []) (ci := 4) (T := TX4) (nf := 17) X mf_X4_note mi_X4_note ms_X4_note rfl (Nat.le_of_ble_eq_true rfl) ml_RX0_31 ⟨Nat.le_of_ble_eq_true rfl, Nat.le_of_ble_eq_true rfl⟩ ⟨Nat.le_of_ble_eq_true rfl, Nat.le_of_ble_eq_true rfl⟩ rfl (Nat.le_of_ble_eq_true rfl) (ix_tb_at tb_X0_greatest 2 rfl) ⟨k_3.1, List.mem_singleton.mp k_3.2⟩ (c_X4_note hKp h_2) rfl (pc1 := 6) rfl ?_
  refine ix_aload_n (i := 0) (j := 0) X (ix_tb_at tb_X0_greatest 3 rfl) rfl rfl (pc1 := 7) rfl ?_
  refine ix_aload_n (i := 1) (j := 1) X (ix_tb_at tb_X0_greatest 4 rfl) rfl rfl (pc1 := 8) rfl ?_
  obtain ⟨k_4, h⟩ := ix_ck_some h
  obtain ⟨r_7, d_5, h_6, h⟩ := ix_bd2_ex h
  refine tv_RX0_45 (rest := []) hKp X k_4 h_6 (Nat.le_of_ble_eq_true rfl) (Nat.le_of_ble_eq_true rfl) ⟨Nat.le_of_ble_eq_true rfl, Nat.le_of_ble_eq_true rfl⟩ (Nat.le_of_ble_eq_true rfl) (ix_tb_at tb_X0_greatest 5 rfl) (pc1 := 11) rfl ?_
  refine ix_aload_n (i := 0) (j := 0) X (ix_tb_at tb_X0_greatest 6 rfl) rfl rfl (pc1 := 12) rfl ?_
  refine iz_getI X fl_RX0_7 k_4 (ix_tb_at tb_X0_greatest 7 rfl) (pc1 := 15) rfl ?_
  refine ix_mmin X ml_RX0_48 (Nat.le_of_ble_eq_true rfl) (Nat.le_of_ble_eq_true rfl) ⟨Nat.le_of_ble_eq_true rfl, Nat.le_of_ble_eq_true rfl⟩ (ix_tb_at tb_X0_greatest 8 rfl) (pc1 := 18) rfl ?_
  exact ix_iret X hr hlk (ix_r2 (f := fun r => some (.int r)) (g := ix_w z) h) (ix_tb_at tb_X0_greatest 9 rfl)
def tab_X4_writeByte : List (Nat × Instr × Nat) := [(0, .aload_n 0, 1), (1, .getfield 103, 3), (4, .aload_n 0, 1), (5, .getfield 15, 3), (8, .arraylength, 1), (9, .if_icmp .ge 24, 3), (12, .aload_n 0, 1), (13, .getfield 15, 3), (16, .aload_n 0, 1), (17, .getfield 103, 3), (20, .iload_n 1, 1), (21, .i2b, 1), (22, .bastore, 1), (23, .aload_n 0, 1), (24, .dup, 1), (25, .getfield 103, 3), (28, .iconst 1, 1), (29, .iadd, 1), (30, .putfield 103, 3), (33, .return_, 1)]
theorem tb_X4_writeByte : ix_tab cX4_writeByte tab_X4_writeByte := by
  unfold ix_tab
  decide +kernel
noncomputable def f_X4_writeByte (n : Nat) (z : ix_Z) (a0 : Nat) (x1 : Int32) (d : ix_D2) : Option (ix_D2) :=
  ix_ck (ix_ok z [4] a0) (ix_bd1 (z.1 a0 2) (fun b_2 => ix_ck (b_2 < z.2.2 ∧ 20 ≤ (z.2.1 b_2).1 ∧ (z.2.1 b_2).1 < 26) (ix_if (nI (z.2.1 b_2).2 ≤ d.1 a0 3) (some d) (ix_ck (ix_ix z 21 b_2 (d.1 a0 3)) (ix_lt (ix_di d b_2 (ix_n (d.1 a0 3)) (vp_nar .byte x1.toInt8.toInt32)) (fun d_7 => ix_lt (ix_di d_7 a0 3 ((d_7.1 a0 3) + 1)) (fun d_9 => some d_9)))))))
set_option maxRecDepth 20000 in
theorem c_X4_writeByte {l : Launch} {K : ix_Cx} (hKp : ix_Kp K) {n : Nat} {z : ix_Z} {a0 : Nat} {x1 : Int32} {d : ix_D2} {d1 : ix_D2} (h : f_X4_writeByte n z a0 x1 d = some d1) : ix_M l K yX4_writeByte cX4_writeByte 2 (none : Option Jvm.ClassFile.FieldType) 0 0 0 0 [.ref (K.2.2.1 + a0), .int x1] (ix_w z d) none (ix_w z d1) := by
  refine ix_met mf_X4_writeByte hKp (Nat.le_of_ble_eq_true rfl) ?_
  intro p e s m args below meth c hr hlk hnm X
  have X : ix_X p s m args c K cX4_writeByte RX4 2 := X
  show ix_G p l e (ix_rm 0 0 0 0) s m args below meth c (MQ below (ix_Post K none (ix_w z d1)) args s 0 0 (ix_A K)) K 2 0 0 0 [(0, .ref (K.2.2.1 + a0)), (1, .int x1)] [] (ix_w z d)
  unfold f_X4_writeByte at h
  refine ix_aload_n (i := 0) (j := 0) X (ix_tb_at tb_X4_writeByte 0 rfl) rfl rfl (pc1 := 1) rfl ?_
  obtain ⟨k_1, h⟩ := ix_ck_some h
  refine iz_getI X fl_RX4_103 k_1 (ix_tb_at tb_X4_writeByte 1 rfl) (pc1 := 4) rfl ?_
  refine ix_aload_n (i := 0) (j := 0) X (ix_tb_at tb_X4_writeByte 2 rfl) rfl rfl (pc1 := 5) rfl ?_
  obtain ⟨b_2, q_3, h⟩ := ix_bd1_ex h
  refine iz_getR X fl_RX4_15 k_1 q_3 (ix_tb_at tb_X4_writeByte 3 rfl) (pc1 := 8) rfl ?_
  obtain ⟨k_4, h⟩ := ix_ck_some h
  refine iz_alen X k_4 (ix_tb_at tb_X4_writeByte 4 rfl) (pc1 := 9) rfl ?_
  refine ix_icmp_ge (tgt := 33) X (ix_tb_at tb_X4_writeByte 5 rfl) (by decide) (pc1 := 12) rfl (fun q_5 => ?_) (fun q_5 => ?_)
  · have h := ix_ift q_5 h
    exact ix_vret X hr hlk (ix_r1 (g := ix_w z) h) (ix_tb_at tb_X4_writeByte 19 rfl)
  · have h := ix_iff q_5 h
    refine ix_aload_n (i := 0) (j := 0) X (ix_tb_at tb_X4_writeByte 6 rfl) rfl rfl (pc1 := 13) rfl ?_
    refine iz_getR X fl_RX4_15 k_1 q_3 (ix_tb_at tb_X4_writeByte 7 rfl) (pc1 := 16) rfl ?_
    refine ix_aload_n (i := 0) (j := 0) X (ix_tb_at tb_X4_writeByte 8 rfl) rfl rfl (pc1 := 17) rfl ?_
    refine iz_getI X fl_RX4_103 k_1 (ix_tb_at tb_X4_writeByte 9 rfl) (pc1 := 20) rfl ?_
    refine ix_iload_n (i := 1) (j := 1) X (ix_tb_at tb_X4_writeByte 10 rfl) rfl rfl (pc1 := 21) rfl ?_
    refine ix_i2b X (ix_tb_at tb_X4_writeByte 11 rfl) (pc1 := 22) rfl ?_
    obtain ⟨k_6, h⟩ := ix_ck_some h
    obtain ⟨d_7, e_8, h⟩ := ix_lt_ex h
    refine iz_bast X k_6 (ix_tb_at tb_X4_writeByte 12 rfl) e_8 (pc1 := 23) rfl ?_
    refine ix_aload_n (i := 0) (j := 0) X (ix_tb_at tb_X4_writeByte 13 rfl) rfl rfl (pc1 := 24) rfl ?_
    refine ix_dup X (ix_tb_at tb_X4_writeByte 14 rfl) rfl (pc1 := 25) rfl ?_
    refine iz_getI X fl_RX4_103 k_1 (ix_tb_at tb_X4_writeByte 15 rfl) (pc1 := 28) rfl ?_
    refine ix_iconst (v := 1) X (ix_tb_at tb_X4_writeByte 16 rfl) (by decide) (pc1 := 29) rfl ?_
    refine ix_iadd X (ix_tb_at tb_X4_writeByte 17 rfl) (pc1 := 30) rfl ?_
    obtain ⟨d_9, e_10, h⟩ := ix_lt_ex h
    refine iz_putI X fp_RX4_103 k_1 (ix_tb_at tb_X4_writeByte 18 rfl) e_10 (pc1 := 33) rfl ?_
    exact ix_vret X hr hlk (ix_r1 (g := ix_w z) h) (ix_tb_at tb_X4_writeByte 19 rfl)
def tab_X4_writeText : List (Nat × Instr × Nat) := [(0, .iconst 0, 1), (1, .istore_n 2, 1), (2, .iload_n 2, 1), (3, .aload_n 1, 1), (4, .invokevirtual 106, 3), (7, .if_icmp .ge 18, 3), (10, .aload_n 0, 1), (11, .aload_n 1, 1), (12, .iload_n 2, 1), (13, .invokevirtual 110, 3), (16, .invokevirtual 114, 3), (19, .iinc 2 1, 3), (22, .goto (-20), 3), (25, .return_, 1)]
theorem tb_X4_writeText : ix_tab cX4_writeText tab_X4_writeText := by
  unfold ix_tab
  decide +kernel
noncomputable def b_X4_writeText_2 (n : Nat) (z : ix_Z)  (a0 : Nat) (a1 : Nat) (rec2 : Int32 → ix_D2 → Option (ix_D2)) (x2 : Int32) (d : ix_D2) : Option (ix_D2) :=
  ix_ck (a1 < 6) (ix_bd2 (f_J0_length_8abf5 n z a1  d) (fun r_2 d_3 => ix_if (r_2 ≤ x2) (some d_3) (ix_bd2 (f_J0_charAt_5068e n z a1 x2 d_3) (fun r_6 d_7 => ix_ck (ix_ok z [4] a0) (ix_bd1 (f_X4_writeByte n z a0 r_6 d_7) (fun d_9 => ix_lt (x2 + 1) (fun x2_12 => rec2 x2_12 d_9)))))))
noncomputable def f_X4_writeText_2 (n : Nat) (z : ix_Z)  (a0 : Nat) (a1 : Nat) (x2 : Int32) (d : ix_D2) : Option (ix_D2) := ix_fix (b_X4_writeText_2 n z  a0 a1) (fun _ _ => none) n x2 d
noncomputable def f_X4_writeText (n : Nat) (z : ix_Z) (a0 : Nat) (a1 : Nat) (d : ix_D2) : Option (ix_D2) :=
  f_X4_writeText_2 n z  a0 a1 0 d
set_option maxRecDepth 20000 in
theorem tb_X4_writeText_2 {l : Launch} {p : Program} {e : Env} {s : State} {m : MethodId} {args : Array Value} {below : List Frame} {meth : Method} {c : Code} {K : ix_Cx} (hKp : ix_Kp K) {n : Nat} {z : ix_Z} (hT : ix_Tc K) (X : ix_X p s m args c K cX4_writeText RX4 3) (hr : meth.sig.returnType = (none : Option Jvm.ClassFile.FieldType)) (hlk : meth.locks = false)  {a0 : Nat} {a1 : Nat} {rec2 : Int32 → ix_D2 → Option (ix_D2)} {d1 : ix_D2} (hrec2 : ∀ (x2 : Int32) (d : ix_D2), rec2 x2 d = some d1 → ix_G p l e (ix_rm 4 85 0 0) s m args below meth c (MQ below (ix_Post K none (ix_w z d1)) args s 0 0 (ix_A K)) K 3 0 0 2 [(0, .ref (K.2.2.1 + a0)), (1, .ref (K.2.1 (100 + a1))), (2, .int x2)] [] (ix_w z d)) {x2 : Int32} {d : ix_D2} (h : b_X4_writeText_2 n z  a0 a1 rec2 x2 d = some d1) : ix_G p l e (ix_rm 4 85 0 0) s m args below meth c (MQ below (ix_Post K none (ix_w z d1)) args s 0 0 (ix_A K)) K 3 0 0 2 [(0, .ref (K.2.2.1 + a0)), (1, .ref (K.2.1 (100 + a1))), (2, .int x2)] [] (ix_w z d) := by
  unfold b_X4_writeText_2 at h
  refine ix_iload_n (i := 2) (j := 2) X (ix_tb_at tb_X4_writeText 2 rfl) rfl rfl (pc1 := 3) rfl ?_
  refine ix_aload_n (i := 1) (j := 1) X (ix_tb_at tb_X4_writeText 3 rfl) rfl rfl (pc1 := 4) rfl ?_
  obtain ⟨k_1, h⟩ := ix_ck_some h
  obtain ⟨r_2, d_3, h_4, h⟩ := ix_bd2_ex h
  refine ix_callT (As := []) (rest := [.int x2]) X hT k_1 rfl mf_J0_length_8abf5 mi_J0_length_8abf5 ms_J0_length_8abf5 ml_RX4_106 ⟨Nat.le_of_ble_eq_true rfl, Nat.le_of_ble_eq_true rfl⟩ ⟨Nat.le_of_ble_eq_true rfl, Nat.le_of_ble_eq_true rfl⟩ rfl (Nat.le_of_ble_eq_true rfl) (ix_tb_at tb_X4_writeText 4 rfl) (c_J0_length_8abf5 hKp hT h_4) rfl (pc1 := 7) rfl ?_
  refine ix_icmp_ge (tgt := 25) X (ix_tb_at tb_X4_writeText 5 rfl) (by decide) (pc1 := 10) rfl (fun q_5 => ?_) (fun q_5 => ?_)
  · have h := ix_ift q_5 h
    exact ix_vret X hr hlk (ix_r1 (g := ix_w z) h) (ix_tb_at tb_X4_writeText 13 rfl)
  · have h := ix_iff q_5 h
    refine ix_aload_n (i := 0) (j := 0) X (ix_tb_at tb_X4_writeText 6 rfl) rfl rfl (pc1 := 11) rfl ?_
    refine ix_aload_n (i := 1) (j := 1) X (ix_tb_at tb_X4_writeText 7 rfl) rfl rfl (pc1 := 12) rfl ?_
    refine ix_iload_n (i := 2) (j := 2) X (ix_tb_at tb_X4_writeText 8 rfl) rfl rfl (pc1 := 13) rfl ?_
    obtain ⟨r_6, d_7, h_8, h⟩ := ix_bd2_ex h
    refine ix_callT (As := [.int x2]) (rest := [.ref (K.2.2.1 + a0)]) X hT k_1 rfl mf_J0_charAt_5068e mi_J0_charAt_5068e ms_J0_charAt_5068e ml_RX4_110 ⟨Nat.le_of_ble_eq_true rfl, Nat.le_of_ble_eq_true rfl⟩ ⟨Nat.le_of_ble_eq_true rfl, Nat.le_of_ble_eq_true rfl⟩ rfl (Nat.le_of_ble_eq_true rfl) (ix_tb_at tb_X4_writeText 9 rfl) (c_J0_charAt_5068e hKp hT h_8) rfl (pc1 := 16) rfl ?_
    obtain ⟨k_11, h⟩ := ix_ck_some h
    obtain ⟨d_9, h_10, h⟩ := ix_bd1_ex h
    refine ix_callV (As := [.int r_6]) (rest := []) (ci := 4) (T := TX4) (nf := 17) X mf_X4_writeByte mi_X4_writeByte ms_X4_writeByte rfl (Nat.le_of_ble_eq_true rfl) ml_RX4_114 ⟨Nat.le_of_ble_eq_true rfl, Nat.le_of_ble_eq_true rfl⟩ ⟨Nat.le_of_ble_eq_true rfl, Nat.le_of_ble_eq_true rfl⟩ rfl (Nat.le_of_ble_eq_true rfl) (ix_tb_at tb_X4_writeText 10 rfl) ⟨k_11.1, List.mem_singleton.mp k_11.2⟩ (c_X4_writeByte hKp h_10) rfl (pc1 := 19) rfl ?_
    obtain ⟨x2_12, e_13, h⟩ := ix_lt_ex h
    refine ix_iinc (i := 2) (j := 2) (v := x2_12) (L1 := [(2, .int x2_12), (0, .ref (K.2.2.1 + a0)), (1, .ref (K.2.1 (100 + a1)))]) X (ix_tb_at tb_X4_writeText 11 rfl) rfl (by rw [oi_1]; exact e_13.symm) (Nat.le_of_ble_eq_true rfl) rfl (pc1 := 22) rfl ?_
    refine ix_goto (tgt := 2) X (ix_tb_at tb_X4_writeText 12 rfl) (by decide) ?_
    refine ix_sub (L1 := [(0, .ref (K.2.2.1 + a0)), (1, .ref (K.2.1 (100 + a1))), (2, .int x2_12)]) [1, 2, 0] rfl ?_
    exact hrec2 x2_12 d_9 h
theorem t_X4_writeText_2 {l : Launch} {p : Program} {e : Env} {s : State} {m : MethodId} {args : Array Value} {below : List Frame} {meth : Method} {c : Code} {K : ix_Cx} (hKp : ix_Kp K) {n : Nat} {z : ix_Z} (hT : ix_Tc K) (X : ix_X p s m args c K cX4_writeText RX4 3) (hr : meth.sig.returnType = (none : Option Jvm.ClassFile.FieldType)) (hlk : meth.locks = false)  {a0 : Nat} {a1 : Nat} {d1 : ix_D2}  {x2 : Int32} {d : ix_D2} (h : f_X4_writeText_2 n z  a0 a1 x2 d = some d1) : ix_G p l e (ix_rm 4 85 0 0) s m args below meth c (MQ below (ix_Post K none (ix_w z d1)) args s 0 0 (ix_A K)) K 3 0 0 2 [(0, .ref (K.2.2.1 + a0)), (1, .ref (K.2.1 (100 + a1))), (2, .int x2)] [] (ix_w z d) := by
  have key : ∀ (f : Nat) (x2 : Int32) (d : ix_D2), ix_fix (b_X4_writeText_2 n z  a0 a1) (fun _ _ => none) f x2 d = some d1 → ix_G p l e (ix_rm 4 85 0 0) s m args below meth c (MQ below (ix_Post K none (ix_w z d1)) args s 0 0 (ix_A K)) K 3 0 0 2 [(0, .ref (K.2.2.1 + a0)), (1, .ref (K.2.1 (100 + a1))), (2, .int x2)] [] (ix_w z d) := by
    intro f
    induction f with
    | zero =>
      intro x2 d h
      have h : (none : Option (ix_D2)) = some d1 := h
      cases h
    | succ f ih =>
      intro x2 d h
      exact tb_X4_writeText_2 hKp hT X hr hlk (rec2 := ix_fix (b_X4_writeText_2 n z  a0 a1) (fun _ _ => none) f)  ih h
  exact key n x2 d h
set_option maxRecDepth 20000 in
theorem c_X4_writeText {l : Launch} {K : ix_Cx} (hKp : ix_Kp K) (hT : ix_Tc K) {n : Nat} {z : ix_Z} {a0 : Nat} {a1 : Nat} {d : ix_D2} {d1 : ix_D2} (h : f_X4_writeText n z a0 a1 d = some d1) : ix_M l K yX4_writeText cX4_writeText 3 (none : Option Jvm.ClassFile.FieldType) 4 85 0 0 [.ref (K.2.2.1 + a0), .ref (K.2.1 (100 + a1))] (ix_w z d) none (ix_w z d1) := by
  refine ix_met mf_X4_writeText hKp (Nat.le_of_ble_eq_true rfl) ?_
  intro p e s m args below meth c hr hlk hnm X
  have X : ix_X p s m args c K cX4_writeText RX4 3 := X
  show ix_G p l e (ix_rm 4 85 0 0) s m args below meth c (MQ below (ix_Post K none (ix_w z d1)) args s 0 0 (ix_A K)) K 3 0 0 0 [(0, .ref (K.2.2.1 + a0)), (1, .ref (K.2.1 (100 + a1)))] [] (ix_w z d)
  unfold f_X4_writeText at h
  refine ix_iconst (v := 0) X (ix_tb_at tb_X4_writeText 0 rfl) (by decide) (pc1 := 1) rfl ?_
  refine ix_istore_n (i := 2) (L1 := [(2, .int 0), (0, .ref (K.2.2.1 + a0)), (1, .ref (K.2.1 (100 + a1)))]) X (ix_tb_at tb_X4_writeText 1 rfl) rfl (Nat.le_of_ble_eq_true rfl) rfl (pc1 := 2) rfl ?_
  refine ix_sub (L1 := [(0, .ref (K.2.2.1 + a0)), (1, .ref (K.2.1 (100 + a1))), (2, .int 0)]) [1, 2, 0] rfl ?_
  exact t_X4_writeText_2 hKp hT X hr hlk  h
def tab_X4_writeNumber : List (Nat × Instr × Nat) := [(0, .iload_n 1, 1), (1, .ifCond .ge 9, 3), (4, .aload_n 0, 1), (5, .bipush 45, 2), (7, .invokevirtual 114, 3), (10, .iload_n 1, 1), (11, .invokestatic 98, 3), (14, .istore_n 2, 1), (15, .iload_n 2, 1), (16, .bipush 100, 2), (18, .if_icmp .lt 17, 3), (21, .aload_n 0, 1), (22, .bipush 48, 2), (24, .iload_n 2, 1), (25, .bipush 100, 2), (27, .idiv, 1), (28, .bipush 10, 2), (30, .irem, 1), (31, .iadd, 1), (32, .invokevirtual 114, 3), (35, .iload_n 2, 1), (36, .bipush 10, 2), (38, .if_icmp .lt 17, 3), (41, .aload_n 0, 1), (42, .bipush 48, 2), (44, .iload_n 2, 1), (45, .bipush 10, 2), (47, .idiv, 1), (48, .bipush 10, 2), (50, .irem, 1), (51, .iadd, 1), (52, .invokevirtual 114, 3), (55, .aload_n 0, 1), (56, .bipush 48, 2), (58, .iload_n 2, 1), (59, .bipush 10, 2), (61, .irem, 1), (62, .iadd, 1), (63, .invokevirtual 114, 3), (66, .return_, 1)]
theorem tb_X4_writeNumber : ix_tab cX4_writeNumber tab_X4_writeNumber := by
  unfold ix_tab
  decide +kernel
noncomputable def f_X4_writeNumber_55 (n : Nat) (z : ix_Z)  (a0 : Nat) (x2 : Int32) (d : ix_D2) : Option (ix_D2) :=
  ix_ck (ix_ok z [4] a0) (ix_bd1 (f_X4_writeByte n z a0 (48 + (x2 - x2 / 10 * 10)) d) (fun d_6 => some d_6))
noncomputable def f_X4_writeNumber_35 (n : Nat) (z : ix_Z)  (a0 : Nat) (x2 : Int32) (d : ix_D2) : Option (ix_D2) :=
  ix_if (x2 < 10) (f_X4_writeNumber_55 n z  a0 x2 d) (ix_ck (ix_ok z [4] a0) (ix_bd1 (f_X4_writeByte n z a0 (48 + ((x2 / 10) - (x2 / 10) / 10 * 10)) d) (fun d_9 => f_X4_writeNumber_55 n z  a0 x2 d_9)))
noncomputable def f_X4_writeNumber_10 (n : Nat) (z : ix_Z)  (a0 : Nat) (x1 : Int32) (d : ix_D2) : Option (ix_D2) :=
  ix_lt (ix_abs x1) (fun x2_2 => ix_if (x2_2 < 100) (f_X4_writeNumber_35 n z  a0 x2_2 d) (ix_ck (ix_ok z [4] a0) (ix_bd1 (f_X4_writeByte n z a0 (48 + ((x2_2 / 100) - (x2_2 / 100) / 10 * 10)) d) (fun d_12 => f_X4_writeNumber_35 n z  a0 x2_2 d_12))))
noncomputable def f_X4_writeNumber (n : Nat) (z : ix_Z) (a0 : Nat) (x1 : Int32) (d : ix_D2) : Option (ix_D2) :=
  ix_if (0 ≤ x1) (f_X4_writeNumber_10 n z  a0 x1 d) (ix_ck (ix_ok z [4] a0) (ix_bd1 (f_X4_writeByte n z a0 45 d) (fun d_15 => f_X4_writeNumber_10 n z  a0 x1 d_15)))
set_option maxRecDepth 20000 in
theorem t_X4_writeNumber_55 {l : Launch} {p : Program} {e : Env} {s : State} {m : MethodId} {args : Array Value} {below : List Frame} {meth : Method} {c : Code} {K : ix_Cx} (hKp : ix_Kp K) {n : Nat} {z : ix_Z} (X : ix_X p s m args c K cX4_writeNumber RX4 3) (hr : meth.sig.returnType = (none : Option Jvm.ClassFile.FieldType)) (hlk : meth.locks = false)  {a0 : Nat} {x2 : Int32} {d1 : ix_D2}  {d : ix_D2} (h : f_X4_writeNumber_55 n z  a0 x2 d = some d1) : ix_G p l e (ix_rm 1 23 0 0) s m args below meth c (MQ below (ix_Post K none (ix_w z d1)) args s 0 0 (ix_A K)) K 3 0 0 55 [(0, .ref (K.2.2.1 + a0)), (2, .int x2)] [] (ix_w z d) := by
  unfold f_X4_writeNumber_55 at h
  refine ix_aload_n (i := 0) (j := 0) X (ix_tb_at tb_X4_writeNumber 32 rfl) rfl rfl (pc1 := 56) rfl ?_
  refine ix_bipush (v := 48) X (ix_tb_at tb_X4_writeNumber 33 rfl) (by decide) (pc1 := 58) rfl ?_
  refine ix_iload_n (i := 2) (j := 1) X (ix_tb_at tb_X4_writeNumber 34 rfl) rfl rfl (pc1 := 59) rfl ?_
  refine ix_bipush (v := 10) X (ix_tb_at tb_X4_writeNumber 35 rfl) (by decide) (pc1 := 61) rfl ?_
  refine ix_irem X (ix_tb_at tb_X4_writeNumber 36 rfl) (by decide) (pc1 := 62) rfl ?_
  refine ix_iadd X (ix_tb_at tb_X4_writeNumber 37 rfl) (pc1 := 63) rfl ?_
  obtain ⟨k_8, h⟩ := ix_ck_some h
  obtain ⟨d_6, h_7, h⟩ := ix_bd1_ex h
  refine ix_callV (As := [.int (48 + (x2 - x2 / 10 * 10))]) (rest := []) (ci := 4) (T := TX4) (nf := 17) X mf_X4_writeByte mi_X4_writeByte ms_X4_writeByte rfl (Nat.le_of_ble_eq_true rfl) ml_RX4_114 ⟨Nat.le_of_ble_eq_true rfl, Nat.le_of_ble_eq_true rfl⟩ ⟨Nat.le_of_ble_eq_true rfl, Nat.le_of_ble_eq_true rfl⟩ rfl (Nat.le_of_ble_eq_true rfl) (ix_tb_at tb_X4_writeNumber 38 rfl) ⟨k_8.1, List.mem_singleton.mp k_8.2⟩ (c_X4_writeByte hKp h_7) rfl (pc1 := 66) rfl ?_
  exact ix_vret X hr hlk (ix_r1 (g := ix_w z) h) (ix_tb_at tb_X4_writeNumber 39 rfl)
set_option maxRecDepth 20000 in
theorem t_X4_writeNumber_35 {l : Launch} {p : Program} {e : Env} {s : State} {m : MethodId} {args : Array Value} {below : List Frame} {meth : Method} {c : Code} {K : ix_Cx} (hKp : ix_Kp K) {n : Nat} {z : ix_Z} (X : ix_X p s m args c K cX4_writeNumber RX4 3) (hr : meth.sig.returnType = (none : Option Jvm.ClassFile.FieldType)) (hlk : meth.locks = false)  {a0 : Nat} {x2 : Int32} {d1 : ix_D2}  {d : ix_D2} (h : f_X4_writeNumber_35 n z  a0 x2 d = some d1) : ix_G p l e (ix_rm 1 23 0 0) s m args below meth c (MQ below (ix_Post K none (ix_w z d1)) args s 0 0 (ix_A K)) K 3 0 0 35 [(0, .ref (K.2.2.1 + a0)), (2, .int x2)] [] (ix_w z d) := by
  unfold f_X4_writeNumber_35 at h
  refine ix_iload_n (i := 2) (j := 1) X (ix_tb_at tb_X4_writeNumber 20 rfl) rfl rfl (pc1 := 36) rfl ?_
  refine ix_bipush (v := 10) X (ix_tb_at tb_X4_writeNumber 21 rfl) (by decide) (pc1 := 38) rfl ?_
  refine ix_icmp_lt (tgt := 55) X (ix_tb_at tb_X4_writeNumber 22 rfl) (by decide) (pc1 := 41) rfl (fun q_5 => ?_) (fun q_5 => ?_)
  · have h := ix_ift q_5 h
    refine ix_sub (L1 := [(0, .ref (K.2.2.1 + a0)), (2, .int x2)]) [0, 1] rfl ?_
    exact t_X4_writeNumber_55 hKp X hr hlk  h
  · have h := ix_iff q_5 h
    refine ix_aload_n (i := 0) (j := 0) X (ix_tb_at tb_X4_writeNumber 23 rfl) rfl rfl (pc1 := 42) rfl ?_
    refine ix_bipush (v := 48) X (ix_tb_at tb_X4_writeNumber 24 rfl) (by decide) (pc1 := 44) rfl ?_
    refine ix_iload_n (i := 2) (j := 1) X (ix_tb_at tb_X4_writeNumber 25 rfl) rfl rfl (pc1 := 45) rfl ?_
    refine ix_bipush (v := 10) X (ix_tb_at tb_X4_writeNumber 26 rfl) (by decide) (pc1 := 47) rfl ?_
    refine ix_idiv X (ix_tb_at tb_X4_writeNumber 27 rfl) (by decide) (pc1 := 48) rfl ?_
    refine ix_bipush (v := 10) X (ix_tb_at tb_X4_writeNumber 28 rfl) (by decide) (pc1 := 50) rfl ?_
    refine ix_irem X (ix_tb_at tb_X4_writeNumber 29 rfl) (by decide) (pc1 := 51) rfl ?_
    refine ix_iadd X (ix_tb_at tb_X4_writeNumber 30 rfl) (pc1 := 52) rfl ?_
    obtain ⟨k_11, h⟩ := ix_ck_some h
    obtain ⟨d_9, h_10, h⟩ := ix_bd1_ex h
    refine ix_callV (As := [.int (48 + ((x2 / 10) - (x2 / 10) / 10 * 10))]) (rest := []) (ci := 4) (T := TX4) (nf := 17) X mf_X4_writeByte mi_X4_writeByte ms_X4_writeByte rfl (Nat.le_of_ble_eq_true rfl) ml_RX4_114 ⟨Nat.le_of_ble_eq_true rfl, Nat.le_of_ble_eq_true rfl⟩ ⟨Nat.le_of_ble_eq_true rfl, Nat.le_of_ble_eq_true rfl⟩ rfl (Nat.le_of_ble_eq_true rfl) (ix_tb_at tb_X4_writeNumber 31 rfl) ⟨k_11.1, List.mem_singleton.mp k_11.2⟩ (c_X4_writeByte hKp h_10) rfl (pc1 := 55) rfl ?_
    refine ix_sub (L1 := [(0, .ref (K.2.2.1 + a0)), (2, .int x2)]) [0, 1] rfl ?_
    exact t_X4_writeNumber_55 hKp X hr hlk  h
set_option maxRecDepth 20000 in
theorem t_X4_writeNumber_10 {l : Launch} {p : Program} {e : Env} {s : State} {m : MethodId} {args : Array Value} {below : List Frame} {meth : Method} {c : Code} {K : ix_Cx} (hKp : ix_Kp K) {n : Nat} {z : ix_Z} (X : ix_X p s m args c K cX4_writeNumber RX4 3) (hr : meth.sig.returnType = (none : Option Jvm.ClassFile.FieldType)) (hlk : meth.locks = false)  {a0 : Nat} {x1 : Int32} {d1 : ix_D2}  {d : ix_D2} (h : f_X4_writeNumber_10 n z  a0 x1 d = some d1) : ix_G p l e (ix_rm 1 23 0 0) s m args below meth c (MQ below (ix_Post K none (ix_w z d1)) args s 0 0 (ix_A K)) K 3 0 0 10 [(0, .ref (K.2.2.1 + a0)), (1, .int x1)] [] (ix_w z d) := by
  unfold f_X4_writeNumber_10 at h
  refine ix_iload_n (i := 1) (j := 1) X (ix_tb_at tb_X4_writeNumber 5 rfl) rfl rfl (pc1 := 11) rfl ?_
  refine ix_mabs X ml_RX4_98 (Nat.le_of_ble_eq_true rfl) (Nat.le_of_ble_eq_true rfl) ⟨Nat.le_of_ble_eq_true rfl, Nat.le_of_ble_eq_true rfl⟩ (ix_tb_at tb_X4_writeNumber 6 rfl) (pc1 := 14) rfl ?_
  obtain ⟨x2_2, e_3, h⟩ := ix_lt_ex h
  refine ix_nmi e_3 ?_
  refine ix_istore_n (i := 2) (L1 := [(2, .int x2_2), (0, .ref (K.2.2.1 + a0)), (1, .int x1)]) X (ix_tb_at tb_X4_writeNumber 7 rfl) rfl (Nat.le_of_ble_eq_true rfl) rfl (pc1 := 15) rfl ?_
  refine ix_iload_n (i := 2) (j := 0) X (ix_tb_at tb_X4_writeNumber 8 rfl) rfl rfl (pc1 := 16) rfl ?_
  refine ix_bipush (v := 100) X (ix_tb_at tb_X4_writeNumber 9 rfl) (by decide) (pc1 := 18) rfl ?_
  refine ix_icmp_lt (tgt := 35) X (ix_tb_at tb_X4_writeNumber 10 rfl) (by decide) (pc1 := 21) rfl (fun q_4 => ?_) (fun q_4 => ?_)
  · have h := ix_ift q_4 h
    refine ix_sub (L1 := [(0, .ref (K.2.2.1 + a0)), (2, .int x2_2)]) [1, 0] rfl ?_
    exact t_X4_writeNumber_35 hKp X hr hlk  h
  · have h := ix_iff q_4 h
    refine ix_aload_n (i := 0) (j := 1) X (ix_tb_at tb_X4_writeNumber 11 rfl) rfl rfl (pc1 := 22) rfl ?_
    refine ix_bipush (v := 48) X (ix_tb_at tb_X4_writeNumber 12 rfl) (by decide) (pc1 := 24) rfl ?_
    refine ix_iload_n (i := 2) (j := 0) X (ix_tb_at tb_X4_writeNumber 13 rfl) rfl rfl (pc1 := 25) rfl ?_
    refine ix_bipush (v := 100) X (ix_tb_at tb_X4_writeNumber 14 rfl) (by decide) (pc1 := 27) rfl ?_
    refine ix_idiv X (ix_tb_at tb_X4_writeNumber 15 rfl) (by decide) (pc1 := 28) rfl ?_
    refine ix_bipush (v := 10) X (ix_tb_at tb_X4_writeNumber 16 rfl) (by decide) (pc1 := 30) rfl ?_
    refine ix_irem X (ix_tb_at tb_X4_writeNumber 17 rfl) (by decide) (pc1 := 31) rfl ?_
    refine ix_iadd X (ix_tb_at tb_X4_writeNumber 18 rfl) (pc1 := 32) rfl ?_
    obtain ⟨k_14, h⟩ := ix_ck_some h
    obtain ⟨d_12, h_13, h⟩ := ix_bd1_ex h
    refine ix_callV (As := [.int (48 + ((x2_2 / 100) - (x2_2 / 100) / 10 * 10))]) (rest := []) (ci := 4) (T := TX4) (nf := 17) X mf_X4_writeByte mi_X4_writeByte ms_X4_writeByte rfl (Nat.le_of_ble_eq_true rfl) ml_RX4_114 ⟨Nat.le_of_ble_eq_true rfl, Nat.le_of_ble_eq_true rfl⟩ ⟨Nat.le_of_ble_eq_true rfl, Nat.le_of_ble_eq_true rfl⟩ rfl (Nat.le_of_ble_eq_true rfl) (ix_tb_at tb_X4_writeNumber 19 rfl) ⟨k_14.1, List.mem_singleton.mp k_14.2⟩ (c_X4_writeByte hKp h_13) rfl (pc1 := 35) rfl ?_
    refine ix_sub (L1 := [(0, .ref (K.2.2.1 + a0)), (2, .int x2_2)]) [1, 0] rfl ?_
    exact t_X4_writeNumber_35 hKp X hr hlk  h
set_option maxRecDepth 20000 in
theorem c_X4_writeNumber {l : Launch} {K : ix_Cx} (hKp : ix_Kp K) {n : Nat} {z : ix_Z} {a0 : Nat} {x1 : Int32} {d : ix_D2} {d1 : ix_D2} (h : f_X4_writeNumber n z a0 x1 d = some d1) : ix_M l K yX4_writeNumber cX4_writeNumber 3 (none : Option Jvm.ClassFile.FieldType) 1 23 0 0 [.ref (K.2.2.1 + a0), .int x1] (ix_w z d) none (ix_w z d1) := by
  refine ix_met mf_X4_writeNumber hKp (Nat.le_of_ble_eq_true rfl) ?_
  intro p e s m args below meth c hr hlk hnm X
  have X : ix_X p s m args c K cX4_writeNumber RX4 3 := X
  show ix_G p l e (ix_rm 1 23 0 0) s m args below meth c (MQ below (ix_Post K none (ix_w z d1)) args s 0 0 (ix_A K)) K 3 0 0 0 [(0, .ref (K.2.2.1 + a0)), (1, .int x1)] [] (ix_w z d)
  unfold f_X4_writeNumber at h
  refine ix_iload_n (i := 1) (j := 1) X (ix_tb_at tb_X4_writeNumber 0 rfl) rfl rfl (pc1 := 1) rfl ?_
  refine ix_if_ge (tgt := 10) X (ix_tb_at tb_X4_writeNumber 1 rfl) (by decide) (pc1 := 4) rfl (fun q_1 => ?_) (fun q_1 => ?_)
  · have h := ix_ift q_1 h
    refine ix_sub (L1 := [(0, .ref (K.2.2.1 + a0)), (1, .int x1)]) [0, 1] rfl ?_
    exact t_X4_writeNumber_10 hKp X hr hlk  h
  · have h := ix_iff q_1 h
    refine ix_aload_n (i := 0) (j := 0) X (ix_tb_at tb_X4_writeNumber 2 rfl) rfl rfl (pc1 := 5) rfl ?_
    refine ix_bipush (v := 45) X (ix_tb_at tb_X4_writeNumber 3 rfl) (by decide) (pc1 := 7) rfl ?_
    obtain ⟨k_17, h⟩ := ix_ck_some h
    obtain ⟨d_15, h_16, h⟩ := ix_bd1_ex h
    refine ix_callV (As := [.int 45]) (rest := []) (ci := 4) (T := TX4) (nf := 17) X mf_X4_writeByte mi_X4_writeByte ms_X4_writeByte rfl (Nat.le_of_ble_eq_true rfl) ml_RX4_114 ⟨Nat.le_of_ble_eq_true rfl, Nat.le_of_ble_eq_true rfl⟩ ⟨Nat.le_of_ble_eq_true rfl, Nat.le_of_ble_eq_true rfl⟩ rfl (Nat.le_of_ble_eq_true rfl) (ix_tb_at tb_X4_writeNumber 4 rfl) ⟨k_17.1, List.mem_singleton.mp k_17.2⟩ (c_X4_writeByte hKp h_16) rfl (pc1 := 10) rfl ?_
    refine ix_sub (L1 := [(0, .ref (K.2.2.1 + a0)), (1, .int x1)]) [0, 1] rfl ?_
    exact t_X4_writeNumber_10 hKp X hr hlk  h
def tab_X4_writeList : List (Nat × Instr × Nat) := [(0, .aload_n 0, 1), (1, .bipush 64, 2), (3, .invokevirtual 117, 3), (6, .aload_n 0, 1), (7, .bipush 40, 2), (9, .invokevirtual 114, 3), (12, .iconst 0, 1), (13, .istore_n 2, 1), (14, .iload_n 2, 1), (15, .aload_n 1, 1), (16, .arraylength, 1), (17, .if_icmp .ge 26, 3), (20, .iload_n 2, 1), (21, .ifCond .le 9, 3), (24, .aload_n 0, 1), (25, .bipush 44, 2), (27, .invokevirtual 114, 3), (30, .aload_n 0, 1), (31, .aload_n 1, 1), (32, .iload_n 2, 1), (33, .iaload, 1), (34, .invokevirtual 120, 3), (37, .iinc 2 1, 3), (40, .goto (-26), 3), (43, .aload_n 0, 1), (44, .bipush 41, 2), (46, .invokevirtual 114, 3), (49, .return_, 1)]
theorem tb_X4_writeList : ix_tab cX4_writeList tab_X4_writeList := by
  unfold ix_tab
  decide +kernel
noncomputable def f_X4_writeList_30 (n : Nat) (z : ix_Z) (rec14 : Int32 → ix_D2 → Option (ix_D2)) (a0 : Nat) (a1 : Nat) (x2 : Int32) (d : ix_D2) : Option (ix_D2) :=
  ix_ck (ix_ix z 20 a1 x2) (ix_ck (ix_ok z [4] a0) (ix_bd1 (f_X4_writeNumber n z a0 (d.1 a1 (ix_n x2)) d) (fun d_13 => ix_lt (x2 + 1) (fun x2_16 => rec14 x2_16 d_13))))
noncomputable def b_X4_writeList_14 (n : Nat) (z : ix_Z)  (a0 : Nat) (a1 : Nat) (rec14 : Int32 → ix_D2 → Option (ix_D2)) (x2 : Int32) (d : ix_D2) : Option (ix_D2) :=
  ix_ck (a1 < z.2.2 ∧ 20 ≤ (z.2.1 a1).1 ∧ (z.2.1 a1).1 < 26) (ix_if (nI (z.2.1 a1).2 ≤ x2) (ix_ck (ix_ok z [4] a0) (ix_bd1 (f_X4_writeByte n z a0 41 d) (fun d_8 => some d_8))) (ix_if (x2 ≤ 0) (f_X4_writeList_30 n z rec14 a0 a1 x2 d) (ix_ck (ix_ok z [4] a0) (ix_bd1 (f_X4_writeByte n z a0 44 d) (fun d_18 => f_X4_writeList_30 n z rec14 a0 a1 x2 d_18)))))
noncomputable def f_X4_writeList_14 (n : Nat) (z : ix_Z)  (a0 : Nat) (a1 : Nat) (x2 : Int32) (d : ix_D2) : Option (ix_D2) := ix_fix (b_X4_writeList_14 n z  a0 a1) (fun _ _ => none) n x2 d
noncomputable def f_X4_writeList (n : Nat) (z : ix_Z) (a0 : Nat) (a1 : Nat) (d : ix_D2) : Option (ix_D2) :=
  ix_ck (ix_ok z [4] a0) (ix_bd1 (f_X4_note n z a0 64 d) (fun d_1 => ix_bd1 (f_X4_writeByte n z a0 40 d_1) (fun d_4 => f_X4_writeList_14 n z  a0 a1 0 d_4)))
set_option maxRecDepth 20000 in
theorem t_X4_writeList_30 {l : Launch} {p : Program} {e : Env} {s : State} {m : MethodId} {args : Array Value} {below : List Frame} {meth : Method} {c : Code} {K : ix_Cx} (hKp : ix_Kp K) {n : Nat} {z : ix_Z} (X : ix_X p s m args c K cX4_writeList RX4 3) (hr : meth.sig.returnType = (none : Option Jvm.ClassFile.FieldType)) (hlk : meth.locks = false) {rec14 : Int32 → ix_D2 → Option (ix_D2)} {a0 : Nat} {a1 : Nat} {x2 : Int32} {d1 : ix_D2} (hrec14 : ∀ (x2 : Int32) (d : ix_D2), rec14 x2 d = some d1 → ix_G p l e (ix_rm 2 45 0 0) s m args below meth c (MQ below (ix_Post K none (ix_w z d1)) args s 0 0 (ix_A K)) K 3 0 0 14 [(0, .ref (K.2.2.1 + a0)), (1, .ref (K.2.2.1 + a1)), (2, .int x2)] [] (ix_w z d)) {d : ix_D2} (h : f_X4_writeList_30 n z rec14 a0 a1 x2 d = some d1) : ix_G p l e (ix_rm 2 45 0 0) s m args below meth c (MQ below (ix_Post K none (ix_w z d1)) args s 0 0 (ix_A K)) K 3 0 0 30 [(0, .ref (K.2.2.1 + a0)), (1, .ref (K.2.2.1 + a1)), (2, .int x2)] [] (ix_w z d) := by
  unfold f_X4_writeList_30 at h
  refine ix_aload_n (i := 0) (j := 0) X (ix_tb_at tb_X4_writeList 17 rfl) rfl rfl (pc1 := 31) rfl ?_
  refine ix_aload_n (i := 1) (j := 1) X (ix_tb_at tb_X4_writeList 18 rfl) rfl rfl (pc1 := 32) rfl ?_
  refine ix_iload_n (i := 2) (j := 2) X (ix_tb_at tb_X4_writeList 19 rfl) rfl rfl (pc1 := 33) rfl ?_
  obtain ⟨k_12, h⟩ := ix_ck_some h
  refine iz_iald X k_12 (ix_tb_at tb_X4_writeList 20 rfl) (pc1 := 34) rfl ?_
  obtain ⟨k_15, h⟩ := ix_ck_some h
  obtain ⟨d_13, h_14, h⟩ := ix_bd1_ex h
  refine ix_callV (As := [.int (d.1 a1 (ix_n x2))]) (rest := []) (ci := 4) (T := TX4) (nf := 17) X mf_X4_writeNumber mi_X4_writeNumber ms_X4_writeNumber rfl (Nat.le_of_ble_eq_true rfl) ml_RX4_120 ⟨Nat.le_of_ble_eq_true rfl, Nat.le_of_ble_eq_true rfl⟩ ⟨Nat.le_of_ble_eq_true rfl, Nat.le_of_ble_eq_true rfl⟩ rfl (Nat.le_of_ble_eq_true rfl) (ix_tb_at tb_X4_writeList 21 rfl) ⟨k_15.1, List.mem_singleton.mp k_15.2⟩ (c_X4_writeNumber hKp h_14) rfl (pc1 := 37) rfl ?_
  obtain ⟨x2_16, e_17, h⟩ := ix_lt_ex h
  refine ix_iinc (i := 2) (j := 2) (v := x2_16) (L1 := [(2, .int x2_16), (0, .ref (K.2.2.1 + a0)), (1, .ref (K.2.2.1 + a1))]) X (ix_tb_at tb_X4_writeList 22 rfl) rfl (by rw [oi_1]; exact e_17.symm) (Nat.le_of_ble_eq_true rfl) rfl (pc1 := 40) rfl ?_
  refine ix_goto (tgt := 14) X (ix_tb_at tb_X4_writeList 23 rfl) (by decide) ?_
  refine ix_sub (L1 := [(0, .ref (K.2.2.1 + a0)), (1, .ref (K.2.2.1 + a1)), (2, .int x2_16)]) [1, 2, 0] rfl ?_
  exact hrec14 x2_16 d_13 h
set_option maxRecDepth 20000 in
theorem tb_X4_writeList_14 {l : Launch} {p : Program} {e : Env} {s : State} {m : MethodId} {args : Array Value} {below : List Frame} {meth : Method} {c : Code} {K : ix_Cx} (hKp : ix_Kp K) {n : Nat} {z : ix_Z} (X : ix_X p s m args c K cX4_writeList RX4 3) (hr : meth.sig.returnType = (none : Option Jvm.ClassFile.FieldType)) (hlk : meth.locks = false)  {a0 : Nat} {a1 : Nat} {rec14 : Int32 → ix_D2 → Option (ix_D2)} {d1 : ix_D2} (hrec14 : ∀ (x2 : Int32) (d : ix_D2), rec14 x2 d = some d1 → ix_G p l e (ix_rm 2 45 0 0) s m args below meth c (MQ below (ix_Post K none (ix_w z d1)) args s 0 0 (ix_A K)) K 3 0 0 14 [(0, .ref (K.2.2.1 + a0)), (1, .ref (K.2.2.1 + a1)), (2, .int x2)] [] (ix_w z d)) {x2 : Int32} {d : ix_D2} (h : b_X4_writeList_14 n z  a0 a1 rec14 x2 d = some d1) : ix_G p l e (ix_rm 2 45 0 0) s m args below meth c (MQ below (ix_Post K none (ix_w z d1)) args s 0 0 (ix_A K)) K 3 0 0 14 [(0, .ref (K.2.2.1 + a0)), (1, .ref (K.2.2.1 + a1)), (2, .int x2)] [] (ix_w z d) := by
  unfold b_X4_writeList_14 at h
  refine ix_iload_n (i := 2) (j := 2) X (ix_tb_at tb_X4_writeList 8 rfl) rfl rfl (pc1 := 15) rfl ?_
  refine ix_aload_n (i := 1) (j := 1) X (ix_tb_at tb_X4_writeList 9 rfl) rfl rfl (pc1 := 16) rfl ?_
  obtain ⟨k_6, h⟩ := ix_ck_some h
  refine iz_alen X k_6 (ix_tb_at tb_X4_writeList 10 rfl) (pc1 := 17) rfl ?_
  refine ix_icmp_ge (tgt := 43) X (ix_tb_at tb_X4_writeList 11 rfl) (by decide) (pc1 := 20) rfl (fun q_7 => ?_) (fun q_7 => ?_)
  · have h := ix_ift q_7 h
    refine ix_aload_n (i := 0) (j := 0) X (ix_tb_at tb_X4_writeList 24 rfl) rfl rfl (pc1 := 44) rfl ?_
    refine ix_bipush (v := 41) X (ix_tb_at tb_X4_writeList 25 rfl) (by decide) (pc1 := 46) rfl ?_
    obtain ⟨k_10, h⟩ := ix_ck_some h
    obtain ⟨d_8, h_9, h⟩ := ix_bd1_ex h
    refine ix_callV (As := [.int 41]) (rest := []) (ci := 4) (T := TX4) (nf := 17) X mf_X4_writeByte mi_X4_writeByte ms_X4_writeByte rfl (Nat.le_of_ble_eq_true rfl) ml_RX4_114 ⟨Nat.le_of_ble_eq_true rfl, Nat.le_of_ble_eq_true rfl⟩ ⟨Nat.le_of_ble_eq_true rfl, Nat.le_of_ble_eq_true rfl⟩ rfl (Nat.le_of_ble_eq_true rfl) (ix_tb_at tb_X4_writeList 26 rfl) ⟨k_10.1, List.mem_singleton.mp k_10.2⟩ (c_X4_writeByte hKp h_9) rfl (pc1 := 49) rfl ?_
    exact ix_vret X hr hlk (ix_r1 (g := ix_w z) h) (ix_tb_at tb_X4_writeList 27 rfl)
  · have h := ix_iff q_7 h
    refine ix_iload_n (i := 2) (j := 2) X (ix_tb_at tb_X4_writeList 12 rfl) rfl rfl (pc1 := 21) rfl ?_
    refine ix_if_le (tgt := 30) X (ix_tb_at tb_X4_writeList 13 rfl) (by decide) (pc1 := 24) rfl (fun q_11 => ?_) (fun q_11 => ?_)
    · have h := ix_ift q_11 h
      refine ix_sub (L1 := [(0, .ref (K.2.2.1 + a0)), (1, .ref (K.2.2.1 + a1)), (2, .int x2)]) [0, 1, 2] rfl ?_
      exact t_X4_writeList_30 hKp X hr hlk hrec14 h
    · have h := ix_iff q_11 h
      refine ix_aload_n (i := 0) (j := 0) X (ix_tb_at tb_X4_writeList 14 rfl) rfl rfl (pc1 := 25) rfl ?_
      refine ix_bipush (v := 44) X (ix_tb_at tb_X4_writeList 15 rfl) (by decide) (pc1 := 27) rfl ?_
      obtain ⟨k_20, h⟩ := ix_ck_some h
      obtain ⟨d_18, h_19, h⟩ := ix_bd1_ex h
      refine ix_callV (As := [.int 44]) (rest := []) (ci := 4) (T := TX4) (nf := 17) X mf_X4_writeByte mi_X4_writeByte ms_X4_writeByte rfl (Nat.le_of_ble_eq_true rfl) ml_RX4_114 ⟨Nat.le_of_ble_eq_true rfl, Nat.le_of_ble_eq_true rfl⟩ ⟨Nat.le_of_ble_eq_true rfl, Nat.le_of_ble_eq_true rfl⟩ rfl (Nat.le_of_ble_eq_true rfl) (ix_tb_at tb_X4_writeList 16 rfl) ⟨k_20.1, List.mem_singleton.mp k_20.2⟩ (c_X4_writeByte hKp h_19) rfl (pc1 := 30) rfl ?_
      refine ix_sub (L1 := [(0, .ref (K.2.2.1 + a0)), (1, .ref (K.2.2.1 + a1)), (2, .int x2)]) [0, 1, 2] rfl ?_
      exact t_X4_writeList_30 hKp X hr hlk hrec14 h
theorem t_X4_writeList_14 {l : Launch} {p : Program} {e : Env} {s : State} {m : MethodId} {args : Array Value} {below : List Frame} {meth : Method} {c : Code} {K : ix_Cx} (hKp : ix_Kp K) {n : Nat} {z : ix_Z} (X : ix_X p s m args c K cX4_writeList RX4 3) (hr : meth.sig.returnType = (none : Option Jvm.ClassFile.FieldType)) (hlk : meth.locks = false)  {a0 : Nat} {a1 : Nat} {d1 : ix_D2}  {x2 : Int32} {d : ix_D2} (h : f_X4_writeList_14 n z  a0 a1 x2 d = some d1) : ix_G p l e (ix_rm 2 45 0 0) s m args below meth c (MQ below (ix_Post K none (ix_w z d1)) args s 0 0 (ix_A K)) K 3 0 0 14 [(0, .ref (K.2.2.1 + a0)), (1, .ref (K.2.2.1 + a1)), (2, .int x2)] [] (ix_w z d) := by
  have key : ∀ (f : Nat) (x2 : Int32) (d : ix_D2), ix_fix (b_X4_writeList_14 n z  a0 a1) (fun _ _ => none) f x2 d = some d1 → ix_G p l e (ix_rm 2 45 0 0) s m args below meth c (MQ below (ix_Post K none (ix_w z d1)) args s 0 0 (ix_A K)) K 3 0 0 14 [(0, .ref (K.2.2.1 + a0)), (1, .ref (K.2.2.1 + a1)), (2, .int x2)] [] (ix_w z d) := by
    intro f
    induction f with
    | zero =>
      intro x2 d h
      have h : (none : Option (ix_D2)) = some d1 := h
      cases h
    | succ f ih =>
      intro x2 d h
      exact tb_X4_writeList_14 hKp X hr hlk (rec14 := ix_fix (b_X4_writeList_14 n z  a0 a1) (fun _ _ => none) f)  ih h
  exact key n x2 d h
set_option maxRecDepth 20000 in
theorem c_X4_writeList {l : Launch} {K : ix_Cx} (hKp : ix_Kp K) {n : Nat} {z : ix_Z} {a0 : Nat} {a1 : Nat} {d : ix_D2} {d1 : ix_D2} (h : f_X4_writeList n z a0 a1 d = some d1) : ix_M l K yX4_writeList cX4_writeList 3 (none : Option Jvm.ClassFile.FieldType) 2 45 0 0 [.ref (K.2.2.1 + a0), .ref (K.2.2.1 + a1)] (ix_w z d) none (ix_w z d1) := by
  refine ix_met mf_X4_writeList hKp (Nat.le_of_ble_eq_true rfl) ?_
  intro p e s m args below meth c hr hlk hnm X
  have X : ix_X p s m args c K cX4_writeList RX4 3 := X
  show ix_G p l e (ix_rm 2 45 0 0) s m args below meth c (MQ below (ix_Post K none (ix_w z d1)) args s 0 0 (ix_A K)) K 3 0 0 0 [(0, .ref (K.2.2.1 + a0)), (1, .ref (K.2.2.1 + a1))] [] (ix_w z d)
  unfold f_X4_writeList at h
  refine ix_aload_n (i := 0) (j := 0) X (ix_tb_at tb_X4_writeList 0 rfl) rfl rfl (pc1 := 1) rfl ?_
  refine ix_bipush (v := 64) X (ix_tb_at tb_X4_writeList 1 rfl) (by decide) (pc1 := 3) rfl ?_
  obtain ⟨k_3, h⟩ := ix_ck_some h
  obtain ⟨d_1, h_2, h⟩ := ix_bd1_ex h
  refine ix_callV (As := [.int 64]) (rest := []) (ci := 4) (T := TX4) (nf := 17) X mf_X4_note mi_X4_note ms_X4_note rfl (Nat.le_of_ble_eq_true rfl) ml_RX4_117 ⟨Nat.le_of_ble_eq_true rfl, Nat.le_of_ble_eq_true rfl⟩ ⟨Nat.le_of_ble_eq_true rfl, Nat.le_of_ble_eq_true rfl⟩ rfl (Nat.le_of_ble_eq_true rfl) (ix_tb_at tb_X4_writeList 2 rfl) ⟨k_3.1, List.mem_singleton.mp k_3.2⟩ (c_X4_note hKp h_2) rfl (pc1 := 6) rfl ?_
  refine ix_aload_n (i := 0) (j := 0) X (ix_tb_at tb_X4_writeList 3 rfl) rfl rfl (pc1 := 7) rfl ?_
  refine ix_bipush (v := 40) X (ix_tb_at tb_X4_writeList 4 rfl) (by decide) (pc1 := 9) rfl ?_
  obtain ⟨d_4, h_5, h⟩ := ix_bd1_ex h
  refine ix_callV (As := [.int 40]) (rest := []) (ci := 4) (T := TX4) (nf := 17) X mf_X4_writeByte mi_X4_writeByte ms_X4_writeByte rfl (Nat.le_of_ble_eq_true rfl) ml_RX4_114 ⟨Nat.le_of_ble_eq_true rfl, Nat.le_of_ble_eq_true rfl⟩ ⟨Nat.le_of_ble_eq_true rfl, Nat.le_of_ble_eq_true rfl⟩ rfl (Nat.le_of_ble_eq_true rfl) (ix_tb_at tb_X4_writeList 5 rfl) ⟨k_3.1, List.mem_singleton.mp k_3.2⟩ (c_X4_writeByte hKp h_5) rfl (pc1 := 12) rfl ?_
  refine ix_iconst (v := 0) X (ix_tb_at tb_X4_writeList 6 rfl) (by decide) (pc1 := 13) rfl ?_
  refine ix_istore_n (i := 2) (L1 := [(2, .int 0), (0, .ref (K.2.2.1 + a0)), (1, .ref (K.2.2.1 + a1))]) X (ix_tb_at tb_X4_writeList 7 rfl) rfl (Nat.le_of_ble_eq_true rfl) rfl (pc1 := 14) rfl ?_
  refine ix_sub (L1 := [(0, .ref (K.2.2.1 + a0)), (1, .ref (K.2.2.1 + a1)), (2, .int 0)]) [1, 2, 0] rfl ?_
  exact t_X4_writeList_14 hKp X hr hlk  h
def tab_X0_write : List (Nat × Instr × Nat) := [(0, .aload_n 1, 1), (1, .bipush 14, 2), (3, .invokevirtual 31, 3), (6, .aload_n 1, 1), (7, .ldc 54, 2), (9, .invokevirtual 56, 3), (12, .aload_n 1, 1), (13, .aload_n 0, 1), (14, .getfield 7, 3), (17, .invokevirtual 60, 3), (20, .aload_n 1, 1), (21, .aload_n 0, 1), (22, .getfield 17, 3), (25, .invokevirtual 63, 3), (28, .return_, 1)]
theorem tb_X0_write : ix_tab cX0_write tab_X0_write := by
  unfold ix_tab
  decide +kernel
noncomputable def f_X0_write (n : Nat) (z : ix_Z) (a0 : Nat) (a1 : Nat) (d : ix_D2) : Option (ix_D2) :=
  ix_ck (ix_ok z [4] a1) (ix_bd1 (f_X4_note n z a1 14 d) (fun d_1 => ix_bd1 (f_X4_writeText n z a1 1 d_1) (fun d_4 => ix_ck (ix_ok z [0, 5] a0) (ix_bd1 (f_X4_writeNumber n z a1 (d_4.1 a0 3) d_4) (fun d_7 => ix_bd1 (z.1 a0 0) (fun b_9 => ix_bd1 (f_X4_writeList n z a1 b_9 d_7) (fun d_11 => some d_11)))))))
set_option maxRecDepth 20000 in
theorem c_X0_write {l : Launch} {K : ix_Cx} (hKp : ix_Kp K) (hT : ix_Tc K) {n : Nat} {z : ix_Z} {a0 : Nat} {a1 : Nat} {d : ix_D2} {d1 : ix_D2} (h : f_X0_write n z a0 a1 d = some d1) : ix_M l K yX0_write cX0_write 2 (none : Option Jvm.ClassFile.FieldType) 5 107 0 0 [.ref (K.2.2.1 + a0), .ref (K.2.2.1 + a1)] (ix_w z d) none (ix_w z d1) := by
  refine ix_met mf_X0_write hKp (Nat.le_of_ble_eq_true rfl) ?_
  intro p e s m args below meth c hr hlk hnm X
  have X : ix_X p s m args c K cX0_write RX0 2 := X
  show ix_G p l e (ix_rm 5 107 0 0) s m args below meth c (MQ below (ix_Post K none (ix_w z d1)) args s 0 0 (ix_A K)) K 2 0 0 0 [(0, .ref (K.2.2.1 + a0)), (1, .ref (K.2.2.1 + a1))] [] (ix_w z d)
  unfold f_X0_write at h
  refine ix_aload_n (i := 1) (j := 1) X (ix_tb_at tb_X0_write 0 rfl) rfl rfl (pc1 := 1) rfl ?_
  refine ix_bipush (v := 14) X (ix_tb_at tb_X0_write 1 rfl) (by decide) (pc1 := 3) rfl ?_
  obtain ⟨k_3, h⟩ := ix_ck_some h
  obtain ⟨d_1, h_2, h⟩ := ix_bd1_ex h
  refine ix_callV (As := [.int 14]) (rest := []) (ci := 4) (T := TX4) (nf := 17) X mf_X4_note mi_X4_note ms_X4_note rfl (Nat.le_of_ble_eq_true rfl) ml_RX0_31 ⟨Nat.le_of_ble_eq_true rfl, Nat.le_of_ble_eq_true rfl⟩ ⟨Nat.le_of_ble_eq_true rfl, Nat.le_of_ble_eq_true rfl⟩ rfl (Nat.le_of_ble_eq_true rfl) (ix_tb_at tb_X0_write 2 rfl) ⟨k_3.1, List.mem_singleton.mp k_3.2⟩ (c_X4_note hKp h_2) rfl (pc1 := 6) rfl ?_
  refine ix_aload_n (i := 1) (j := 1) X (ix_tb_at tb_X0_write 3 rfl) rfl rfl (pc1 := 7) rfl ?_
  refine ix_ldcS (j := 1) (tx := "most ") X hT rfl (ix_tb_at tb_X0_write 4 rfl) (pc1 := 9) rfl ?_
  obtain ⟨d_4, h_5, h⟩ := ix_bd1_ex h
  refine ix_callV (As := [.ref (K.2.1 (100 + 1))]) (rest := []) (ci := 4) (T := TX4) (nf := 17) X mf_X4_writeText mi_X4_writeText ms_X4_writeText rfl (Nat.le_of_ble_eq_true rfl) ml_RX0_56 ⟨Nat.le_of_ble_eq_true rfl, Nat.le_of_ble_eq_true rfl⟩ ⟨Nat.le_of_ble_eq_true rfl, Nat.le_of_ble_eq_true rfl⟩ rfl (Nat.le_of_ble_eq_true rfl) (ix_tb_at tb_X0_write 5 rfl) ⟨k_3.1, List.mem_singleton.mp k_3.2⟩ (c_X4_writeText hKp hT h_5) rfl (pc1 := 12) rfl ?_
  refine ix_aload_n (i := 1) (j := 1) X (ix_tb_at tb_X0_write 6 rfl) rfl rfl (pc1 := 13) rfl ?_
  refine ix_aload_n (i := 0) (j := 0) X (ix_tb_at tb_X0_write 7 rfl) rfl rfl (pc1 := 14) rfl ?_
  obtain ⟨k_6, h⟩ := ix_ck_some h
  refine iz_getI X fl_RX0_7 k_6 (ix_tb_at tb_X0_write 8 rfl) (pc1 := 17) rfl ?_
  obtain ⟨d_7, h_8, h⟩ := ix_bd1_ex h
  refine ix_callV (As := [.int (d_4.1 a0 3)]) (rest := []) (ci := 4) (T := TX4) (nf := 17) X mf_X4_writeNumber mi_X4_writeNumber ms_X4_writeNumber rfl (Nat.le_of_ble_eq_true rfl) ml_RX0_60 ⟨Nat.le_of_ble_eq_true rfl, Nat.le_of_ble_eq_true rfl⟩ ⟨Nat.le_of_ble_eq_true rfl, Nat.le_of_ble_eq_true rfl⟩ rfl (Nat.le_of_ble_eq_true rfl) (ix_tb_at tb_X0_write 9 rfl) ⟨k_3.1, List.mem_singleton.mp k_3.2⟩ (c_X4_writeNumber hKp h_8) rfl (pc1 := 20) rfl ?_
  refine ix_aload_n (i := 1) (j := 1) X (ix_tb_at tb_X0_write 10 rfl) rfl rfl (pc1 := 21) rfl ?_
  refine ix_aload_n (i := 0) (j := 0) X (ix_tb_at tb_X0_write 11 rfl) rfl rfl (pc1 := 22) rfl ?_
  obtain ⟨b_9, q_10, h⟩ := ix_bd1_ex h
  refine iz_getR X fl_RX0_17 k_6 q_10 (ix_tb_at tb_X0_write 12 rfl) (pc1 := 25) rfl ?_
  obtain ⟨d_11, h_12, h⟩ := ix_bd1_ex h
  refine ix_callV (As := [.ref (K.2.2.1 + b_9)]) (rest := []) (ci := 4) (T := TX4) (nf := 17) X mf_X4_writeList mi_X4_writeList ms_X4_writeList rfl (Nat.le_of_ble_eq_true rfl) ml_RX0_63 ⟨Nat.le_of_ble_eq_true rfl, Nat.le_of_ble_eq_true rfl⟩ ⟨Nat.le_of_ble_eq_true rfl, Nat.le_of_ble_eq_true rfl⟩ rfl (Nat.le_of_ble_eq_true rfl) (ix_tb_at tb_X0_write 13 rfl) ⟨k_3.1, List.mem_singleton.mp k_3.2⟩ (c_X4_writeList hKp h_12) rfl (pc1 := 28) rfl ?_
  exact ix_vret X hr hlk (ix_r1 (g := ix_w z) h) (ix_tb_at tb_X0_write 14 rfl)
def tab_X7_shortenTo : List (Nat × Instr × Nat) := [(0, .iload_n 1, 1), (1, .ifCond .lt 16, 3), (4, .iload_n 1, 1), (5, .aload_n 0, 1), (6, .getfield 18, 3), (9, .if_icmp .ge 8, 3), (12, .aload_n 0, 1), (13, .iload_n 1, 1), (14, .putfield 18, 3), (17, .return_, 1)]
theorem tb_X7_shortenTo : ix_tab cX7_shortenTo tab_X7_shortenTo := by
  unfold ix_tab
  decide +kernel
noncomputable def f_X7_shortenTo (n : Nat) (z : ix_Z) (a0 : Nat) (x1 : Int32) (d : ix_D2) : Option (ix_D2) :=
  ix_if (x1 < 0) (some d) (ix_ck (ix_ok z [7] a0) (ix_if (d.1 a0 2 ≤ x1) (some d) (ix_lt (ix_di d a0 2 x1) (fun d_4 => some d_4))))
set_option maxRecDepth 20000 in
theorem c_X7_shortenTo {l : Launch} {K : ix_Cx} (hKp : ix_Kp K) {n : Nat} {z : ix_Z} {a0 : Nat} {x1 : Int32} {d : ix_D2} {d1 : ix_D2} (h : f_X7_shortenTo n z a0 x1 d = some d1) : ix_M l K yX7_shortenTo cX7_shortenTo 2 (none : Option Jvm.ClassFile.FieldType) 0 0 0 0 [.ref (K.2.2.1 + a0), .int x1] (ix_w z d) none (ix_w z d1) := by
  refine ix_met mf_X7_shortenTo hKp (Nat.le_of_ble_eq_true rfl) ?_
  intro p e s m args below meth c hr hlk hnm X
  have X : ix_X p s m args c K cX7_shortenTo RX7 2 := X
  show ix_G p l e (ix_rm 0 0 0 0) s m args below meth c (MQ below (ix_Post K none (ix_w z d1)) args s 0 0 (ix_A K)) K 2 0 0 0 [(0, .ref (K.2.2.1 + a0)), (1, .int x1)] [] (ix_w z d)
  unfold f_X7_shortenTo at h
  refine ix_iload_n (i := 1) (j := 1) X (ix_tb_at tb_X7_shortenTo 0 rfl) rfl rfl (pc1 := 1) rfl ?_
  refine ix_if_lt (tgt := 17) X (ix_tb_at tb_X7_shortenTo 1 rfl) (by decide) (pc1 := 4) rfl (fun q_1 => ?_) (fun q_1 => ?_)
  · have h := ix_ift q_1 h
    exact ix_vret X hr hlk (ix_r1 (g := ix_w z) h) (ix_tb_at tb_X7_shortenTo 9 rfl)
  · have h := ix_iff q_1 h
    refine ix_iload_n (i := 1) (j := 1) X (ix_tb_at tb_X7_shortenTo 2 rfl) rfl rfl (pc1 := 5) rfl ?_
    refine ix_aload_n (i := 0) (j := 0) X (ix_tb_at tb_X7_shortenTo 3 rfl) rfl rfl (pc1 := 6) rfl ?_
    obtain ⟨k_2, h⟩ := ix_ck_some h
    refine iz_getI X fl_RX7_18 k_2 (ix_tb_at tb_X7_shortenTo 4 rfl) (pc1 := 9) rfl ?_
    refine ix_icmp_ge (tgt := 17) X (ix_tb_at tb_X7_shortenTo 5 rfl) (by decide) (pc1 := 12) rfl (fun q_3 => ?_) (fun q_3 => ?_)
    · have h := ix_ift q_3 h
      exact ix_vret X hr hlk (ix_r1 (g := ix_w z) h) (ix_tb_at tb_X7_shortenTo 9 rfl)
    · have h := ix_iff q_3 h
      refine ix_aload_n (i := 0) (j := 0) X (ix_tb_at tb_X7_shortenTo 6 rfl) rfl rfl (pc1 := 13) rfl ?_
      refine ix_iload_n (i := 1) (j := 1) X (ix_tb_at tb_X7_shortenTo 7 rfl) rfl rfl (pc1 := 14) rfl ?_
      obtain ⟨d_4, e_5, h⟩ := ix_lt_ex h
      refine iz_putI X fp_RX7_18 k_2 (ix_tb_at tb_X7_shortenTo 8 rfl) e_5 (pc1 := 17) rfl ?_
      exact ix_vret X hr hlk (ix_r1 (g := ix_w z) h) (ix_tb_at tb_X7_shortenTo 9 rfl)
def tab_J7_fill_53178 : List (Nat × Instr × Nat) := [(0, .iconst 0, 1), (1, .istore_n 2, 1), (2, .aload_n 0, 1), (3, .arraylength, 1), (4, .istore_n 3, 1), (5, .iload_n 2, 1), (6, .iload_n 3, 1), (7, .if_icmp .ge 13, 3), (10, .aload_n 0, 1), (11, .iload_n 2, 1), (12, .iload_n 1, 1), (13, .iastore, 1), (14, .iinc 2 1, 3), (17, .goto (-12), 3), (20, .return_, 1)]
theorem tb_J7_fill_53178 : ix_tab cJ7_fill_53178 tab_J7_fill_53178 := by
  unfold ix_tab
  decide +kernel
noncomputable def b_J7_fill_53178_5 (n : Nat) (z : ix_Z)  (a0 : Nat) (x1 : Int32) (x3 : Int32) (rec5 : Int32 → ix_D2 → Option (ix_D2)) (x2 : Int32) (d : ix_D2) : Option (ix_D2) :=
  ix_if (x3 ≤ x2) (some d) (ix_ck (ix_ix z 20 a0 x2) (ix_lt (ix_di d a0 (ix_n x2) x1) (fun d_6 => ix_lt (x2 + 1) (fun x2_8 => rec5 x2_8 d_6))))
noncomputable def f_J7_fill_53178_5 (n : Nat) (z : ix_Z)  (a0 : Nat) (x1 : Int32) (x3 : Int32) (x2 : Int32) (d : ix_D2) : Option (ix_D2) := ix_fix (b_J7_fill_53178_5 n z  a0 x1 x3) (fun _ _ => none) n x2 d
noncomputable def f_J7_fill_53178 (n : Nat) (z : ix_Z) (a0 : Nat) (x1 : Int32) (d : ix_D2) : Option (ix_D2) :=
  ix_ck (a0 < z.2.2 ∧ 20 ≤ (z.2.1 a0).1 ∧ (z.2.1 a0).1 < 26) (ix_lt (nI (z.2.1 a0).2) (fun x3_2 => f_J7_fill_53178_5 n z  a0 x1 x3_2 0 d))
set_option maxRecDepth 20000 in
theorem tb_J7_fill_53178_5 {l : Launch} {p : Program} {e : Env} {s : State} {m : MethodId} {args : Array Value} {below : List Frame} {meth : Method} {c : Code} {K : ix_Cx} (hKp : ix_Kp K) {n : Nat} {z : ix_Z} (X : ix_X p s m args c K cJ7_fill_53178 RJ7 4) (hr : meth.sig.returnType = (none : Option Jvm.ClassFile.FieldType)) (hlk : meth.locks = false)  {a0 : Nat} {x1 : Int32} {x3 : Int32} {rec5 : Int32 → ix_D2 → Option (ix_D2)} {d1 : ix_D2} (hrec5 : ∀ (x2 : Int32) (d : ix_D2), rec5 x2 d = some d1 → ix_G p l e (ix_rm 0 0 0 0) s m args below meth c (MQ below (ix_Post K none (ix_w z d1)) args s 0 0 (ix_A K)) K 4 0 0 5 [(0, .ref (K.2.2.1 + a0)), (1, .int x1), (2, .int x2), (3, .int x3)] [] (ix_w z d)) {x2 : Int32} {d : ix_D2} (h : b_J7_fill_53178_5 n z  a0 x1 x3 rec5 x2 d = some d1) : ix_G p l e (ix_rm 0 0 0 0) s m args below meth c (MQ below (ix_Post K none (ix_w z d1)) args s 0 0 (ix_A K)) K 4 0 0 5 [(0, .ref (K.2.2.1 + a0)), (1, .int x1), (2, .int x2), (3, .int x3)] [] (ix_w z d) := by
  unfold b_J7_fill_53178_5 at h
  refine ix_iload_n (i := 2) (j := 2) X (ix_tb_at tb_J7_fill_53178 5 rfl) rfl rfl (pc1 := 6) rfl ?_
  refine ix_iload_n (i := 3) (j := 3) X (ix_tb_at tb_J7_fill_53178 6 rfl) rfl rfl (pc1 := 7) rfl ?_
  refine ix_icmp_ge (tgt := 20) X (ix_tb_at tb_J7_fill_53178 7 rfl) (by decide) (pc1 := 10) rfl (fun q_4 => ?_) (fun q_4 => ?_)
  · have h := ix_ift q_4 h
    exact ix_vret X hr hlk (ix_r1 (g := ix_w z) h) (ix_tb_at tb_J7_fill_53178 14 rfl)
  · have h := ix_iff q_4 h
    refine ix_aload_n (i := 0) (j := 0) X (ix_tb_at tb_J7_fill_53178 8 rfl) rfl rfl (pc1 := 11) rfl ?_
    refine ix_iload_n (i := 2) (j := 2) X (ix_tb_at tb_J7_fill_53178 9 rfl) rfl rfl (pc1 := 12) rfl ?_
    refine ix_iload_n (i := 1) (j := 1) X (ix_tb_at tb_J7_fill_53178 10 rfl) rfl rfl (pc1 := 13) rfl ?_
    obtain ⟨k_5, h⟩ := ix_ck_some h
    obtain ⟨d_6, e_7, h⟩ := ix_lt_ex h
    refine iz_iast X k_5 (ix_tb_at tb_J7_fill_53178 11 rfl) e_7 (pc1 := 14) rfl ?_
    obtain ⟨x2_8, e_9, h⟩ := ix_lt_ex h
    refine ix_iinc (i := 2) (j := 2) (v := x2_8) (L1 := [(2, .int x2_8), (0, .ref (K.2.2.1 + a0)), (1, .int x1), (3, .int x3)]) X (ix_tb_at tb_J7_fill_53178 12 rfl) rfl (by rw [oi_1]; exact e_9.symm) (Nat.le_of_ble_eq_true rfl) rfl (pc1 := 17) rfl ?_
    refine ix_goto (tgt := 5) X (ix_tb_at tb_J7_fill_53178 13 rfl) (by decide) ?_
    refine ix_sub (L1 := [(0, .ref (K.2.2.1 + a0)), (1, .int x1), (2, .int x2_8), (3, .int x3)]) [1, 2, 0, 3] rfl ?_
    exact hrec5 x2_8 d_6 h
theorem t_J7_fill_53178_5 {l : Launch} {p : Program} {e : Env} {s : State} {m : MethodId} {args : Array Value} {below : List Frame} {meth : Method} {c : Code} {K : ix_Cx} (hKp : ix_Kp K) {n : Nat} {z : ix_Z} (X : ix_X p s m args c K cJ7_fill_53178 RJ7 4) (hr : meth.sig.returnType = (none : Option Jvm.ClassFile.FieldType)) (hlk : meth.locks = false)  {a0 : Nat} {x1 : Int32} {x3 : Int32} {d1 : ix_D2}  {x2 : Int32} {d : ix_D2} (h : f_J7_fill_53178_5 n z  a0 x1 x3 x2 d = some d1) : ix_G p l e (ix_rm 0 0 0 0) s m args below meth c (MQ below (ix_Post K none (ix_w z d1)) args s 0 0 (ix_A K)) K 4 0 0 5 [(0, .ref (K.2.2.1 + a0)), (1, .int x1), (2, .int x2), (3, .int x3)] [] (ix_w z d) := by
  have key : ∀ (f : Nat) (x2 : Int32) (d : ix_D2), ix_fix (b_J7_fill_53178_5 n z  a0 x1 x3) (fun _ _ => none) f x2 d = some d1 → ix_G p l e (ix_rm 0 0 0 0) s m args below meth c (MQ below (ix_Post K none (ix_w z d1)) args s 0 0 (ix_A K)) K 4 0 0 5 [(0, .ref (K.2.2.1 + a0)), (1, .int x1), (2, .int x2), (3, .int x3)] [] (ix_w z d) := by
    intro f
    induction f with
    | zero =>
      intro x2 d h
      have h : (none : Option (ix_D2)) = some d1 := h
      cases h
    | succ f ih =>
      intro x2 d h
      exact tb_J7_fill_53178_5 hKp X hr hlk (rec5 := ix_fix (b_J7_fill_53178_5 n z  a0 x1 x3) (fun _ _ => none) f)  ih h
  exact key n x2 d h
set_option maxRecDepth 20000 in
theorem c_J7_fill_53178 {l : Launch} {K : ix_Cx} (hKp : ix_Kp K) {n : Nat} {z : ix_Z} {a0 : Nat} {x1 : Int32} {d : ix_D2} {d1 : ix_D2} (h : f_J7_fill_53178 n z a0 x1 d = some d1) : ix_M l K yJ7_fill_53178 cJ7_fill_53178 4 (none : Option Jvm.ClassFile.FieldType) 0 0 0 0 [.ref (K.2.2.1 + a0), .int x1] (ix_w z d) none (ix_w z d1) := by
  refine ix_met mf_J7_fill_53178 hKp (Nat.le_of_ble_eq_true rfl) ?_
  intro p e s m args below meth c hr hlk hnm X
  have X : ix_X p s m args c K cJ7_fill_53178 RJ7 4 := X
  show ix_G p l e (ix_rm 0 0 0 0) s m args below meth c (MQ below (ix_Post K none (ix_w z d1)) args s 0 0 (ix_A K)) K 4 0 0 0 [(0, .ref (K.2.2.1 + a0)), (1, .int x1)] [] (ix_w z d)
  unfold f_J7_fill_53178 at h
  refine ix_iconst (v := 0) X (ix_tb_at tb_J7_fill_53178 0 rfl) (by decide) (pc1 := 1) rfl ?_
  refine ix_istore_n (i := 2) (L1 := [(2, .int 0), (0, .ref (K.2.2.1 + a0)), (1, .int x1)]) X (ix_tb_at tb_J7_fill_53178 1 rfl) rfl (Nat.le_of_ble_eq_true rfl) rfl (pc1 := 2) rfl ?_
  refine ix_aload_n (i := 0) (j := 1) X (ix_tb_at tb_J7_fill_53178 2 rfl) rfl rfl (pc1 := 3) rfl ?_
  obtain ⟨k_1, h⟩ := ix_ck_some h
  refine iz_alen X k_1 (ix_tb_at tb_J7_fill_53178 3 rfl) (pc1 := 4) rfl ?_
  obtain ⟨x3_2, e_3, h⟩ := ix_lt_ex h
  refine ix_nmi e_3 ?_
  refine ix_istore_n (i := 3) (L1 := [(3, .int x3_2), (2, .int 0), (0, .ref (K.2.2.1 + a0)), (1, .int x1)]) X (ix_tb_at tb_J7_fill_53178 4 rfl) rfl (Nat.le_of_ble_eq_true rfl) rfl (pc1 := 5) rfl ?_
  refine ix_sub (L1 := [(0, .ref (K.2.2.1 + a0)), (1, .int x1), (2, .int 0), (3, .int x3_2)]) [2, 3, 1, 0] rfl ?_
  exact t_J7_fill_53178_5 hKp X hr hlk  h
def tab_J7_fill_d0a16 : List (Nat × Instr × Nat) := [(0, .iconst 0, 1), (1, .istore_n 3, 1), (2, .aload_n 0, 1), (3, .arraylength, 1), (4, .istore 4, 2), (6, .iload_n 3, 1), (7, .iload 4, 2), (9, .if_icmp .ge 13, 3), (12, .aload_n 0, 1), (13, .iload_n 3, 1), (14, .lload_n 1, 1), (15, .lastore, 1), (16, .iinc 3 1, 3), (19, .goto (-13), 3), (22, .return_, 1)]
theorem tb_J7_fill_d0a16 : ix_tab cJ7_fill_d0a16 tab_J7_fill_d0a16 := by
  unfold ix_tab
  decide +kernel
noncomputable def b_J7_fill_d0a16_6 (n : Nat) (z : ix_Z)  (a0 : Nat) (y1 : Int64) (x4 : Int32) (rec6 : Int32 → ix_D2 → Option (ix_D2)) (x3 : Int32) (d : ix_D2) : Option (ix_D2) :=
  ix_if (x4 ≤ x3) (some d) (ix_ck (ix_ix z 23 a0 x3) (ix_lt (ix_dj d a0 (ix_n x3) y1) (fun d_6 => ix_lt (x3 + 1) (fun x3_8 => rec6 x3_8 d_6))))
noncomputable def f_J7_fill_d0a16_6 (n : Nat) (z : ix_Z)  (a0 : Nat) (y1 : Int64) (x4 : Int32) (x3 : Int32) (d : ix_D2) : Option (ix_D2) := ix_fix (b_J7_fill_d0a16_6 n z  a0 y1 x4) (fun _ _ => none) n x3 d
noncomputable def f_J7_fill_d0a16 (n : Nat) (z : ix_Z) (a0 : Nat) (y1 : Int64) (d : ix_D2) : Option (ix_D2) :=
  ix_ck (a0 < z.2.2 ∧ 20 ≤ (z.2.1 a0).1 ∧ (z.2.1 a0).1 < 26) (ix_lt (nI (z.2.1 a0).2) (fun x4_2 => f_J7_fill_d0a16_6 n z  a0 y1 x4_2 0 d))
set_option maxRecDepth 20000 in
theorem tb_J7_fill_d0a16_6 {l : Launch} {p : Program} {e : Env} {s : State} {m : MethodId} {args : Array Value} {below : List Frame} {meth : Method} {c : Code} {K : ix_Cx} (hKp : ix_Kp K) {n : Nat} {z : ix_Z} (X : ix_X p s m args c K cJ7_fill_d0a16 RJ7 5) (hr : meth.sig.returnType = (none : Option Jvm.ClassFile.FieldType)) (hlk : meth.locks = false)  {a0 : Nat} {y1 : Int64} {x4 : Int32} {rec6 : Int32 → ix_D2 → Option (ix_D2)} {d1 : ix_D2} (hrec6 : ∀ (x3 : Int32) (d : ix_D2), rec6 x3 d = some d1 → ix_G p l e (ix_rm 0 0 0 0) s m args below meth c (MQ below (ix_Post K none (ix_w z d1)) args s 0 0 (ix_A K)) K 5 0 0 6 [(0, .ref (K.2.2.1 + a0)), (1, .long y1), (3, .int x3), (4, .int x4)] [] (ix_w z d)) {x3 : Int32} {d : ix_D2} (h : b_J7_fill_d0a16_6 n z  a0 y1 x4 rec6 x3 d = some d1) : ix_G p l e (ix_rm 0 0 0 0) s m args below meth c (MQ below (ix_Post K none (ix_w z d1)) args s 0 0 (ix_A K)) K 5 0 0 6 [(0, .ref (K.2.2.1 + a0)), (1, .long y1), (3, .int x3), (4, .int x4)] [] (ix_w z d) := by
  unfold b_J7_fill_d0a16_6 at h
  refine ix_iload_n (i := 3) (j := 2) X (ix_tb_at tb_J7_fill_d0a16 5 rfl) rfl rfl (pc1 := 7) rfl ?_
  refine ix_iload (i := 4) (j := 3) X (ix_tb_at tb_J7_fill_d0a16 6 rfl) rfl (pc1 := 9) rfl ?_
  refine ix_icmp_ge (tgt := 22) X (ix_tb_at tb_J7_fill_d0a16 7 rfl) (by decide) (pc1 := 12) rfl (fun q_4 => ?_) (fun q_4 => ?_)
  · have h := ix_ift q_4 h
    exact ix_vret X hr hlk (ix_r1 (g := ix_w z) h) (ix_tb_at tb_J7_fill_d0a16 14 rfl)
  · have h := ix_iff q_4 h
    refine ix_aload_n (i := 0) (j := 0) X (ix_tb_at tb_J7_fill_d0a16 8 rfl) rfl rfl (pc1 := 13) rfl ?_
    refine ix_iload_n (i := 3) (j := 2) X (ix_tb_at tb_J7_fill_d0a16 9 rfl) rfl rfl (pc1 := 14) rfl ?_
    refine ix_lload_n (i := 1) (j := 1) X (ix_tb_at tb_J7_fill_d0a16 10 rfl) rfl rfl (pc1 := 15) rfl ?_
    obtain ⟨k_5, h⟩ := ix_ck_some h
    obtain ⟨d_6, e_7, h⟩ := ix_lt_ex h
    refine iz_last X k_5 (ix_tb_at tb_J7_fill_d0a16 11 rfl) e_7 (pc1 := 16) rfl ?_
    obtain ⟨x3_8, e_9, h⟩ := ix_lt_ex h
    refine ix_iinc (i := 3) (j := 2) (v := x3_8) (L1 := [(3, .int x3_8), (0, .ref (K.2.2.1 + a0)), (1, .long y1), (4, .int x4)]) X (ix_tb_at tb_J7_fill_d0a16 12 rfl) rfl (by rw [oi_1]; exact e_9.symm) (Nat.le_of_ble_eq_true rfl) rfl (pc1 := 19) rfl ?_
    refine ix_goto (tgt := 6) X (ix_tb_at tb_J7_fill_d0a16 13 rfl) (by decide) ?_
    refine ix_sub (L1 := [(0, .ref (K.2.2.1 + a0)), (1, .long y1), (3, .int x3_8), (4, .int x4)]) [1, 2, 0, 3] rfl ?_
    exact hrec6 x3_8 d_6 h
theorem t_J7_fill_d0a16_6 {l : Launch} {p : Program} {e : Env} {s : State} {m : MethodId} {args : Array Value} {below : List Frame} {meth : Method} {c : Code} {K : ix_Cx} (hKp : ix_Kp K) {n : Nat} {z : ix_Z} (X : ix_X p s m args c K cJ7_fill_d0a16 RJ7 5) (hr : meth.sig.returnType = (none : Option Jvm.ClassFile.FieldType)) (hlk : meth.locks = false)  {a0 : Nat} {y1 : Int64} {x4 : Int32} {d1 : ix_D2}  {x3 : Int32} {d : ix_D2} (h : f_J7_fill_d0a16_6 n z  a0 y1 x4 x3 d = some d1) : ix_G p l e (ix_rm 0 0 0 0) s m args below meth c (MQ below (ix_Post K none (ix_w z d1)) args s 0 0 (ix_A K)) K 5 0 0 6 [(0, .ref (K.2.2.1 + a0)), (1, .long y1), (3, .int x3), (4, .int x4)] [] (ix_w z d) := by
  have key : ∀ (f : Nat) (x3 : Int32) (d : ix_D2), ix_fix (b_J7_fill_d0a16_6 n z  a0 y1 x4) (fun _ _ => none) f x3 d = some d1 → ix_G p l e (ix_rm 0 0 0 0) s m args below meth c (MQ below (ix_Post K none (ix_w z d1)) args s 0 0 (ix_A K)) K 5 0 0 6 [(0, .ref (K.2.2.1 + a0)), (1, .long y1), (3, .int x3), (4, .int x4)] [] (ix_w z d) := by
    intro f
    induction f with
    | zero =>
      intro x3 d h
      have h : (none : Option (ix_D2)) = some d1 := h
      cases h
    | succ f ih =>
      intro x3 d h
      exact tb_J7_fill_d0a16_6 hKp X hr hlk (rec6 := ix_fix (b_J7_fill_d0a16_6 n z  a0 y1 x4) (fun _ _ => none) f)  ih h
  exact key n x3 d h
set_option maxRecDepth 20000 in
theorem c_J7_fill_d0a16 {l : Launch} {K : ix_Cx} (hKp : ix_Kp K) {n : Nat} {z : ix_Z} {a0 : Nat} {y1 : Int64} {d : ix_D2} {d1 : ix_D2} (h : f_J7_fill_d0a16 n z a0 y1 d = some d1) : ix_M l K yJ7_fill_d0a16 cJ7_fill_d0a16 5 (none : Option Jvm.ClassFile.FieldType) 0 0 0 0 [.ref (K.2.2.1 + a0), .long y1] (ix_w z d) none (ix_w z d1) := by
  refine ix_met mf_J7_fill_d0a16 hKp (Nat.le_of_ble_eq_true rfl) ?_
  intro p e s m args below meth c hr hlk hnm X
  have X : ix_X p s m args c K cJ7_fill_d0a16 RJ7 5 := X
  show ix_G p l e (ix_rm 0 0 0 0) s m args below meth c (MQ below (ix_Post K none (ix_w z d1)) args s 0 0 (ix_A K)) K 5 0 0 0 [(0, .ref (K.2.2.1 + a0)), (1, .long y1)] [] (ix_w z d)
  unfold f_J7_fill_d0a16 at h
  refine ix_iconst (v := 0) X (ix_tb_at tb_J7_fill_d0a16 0 rfl) (by decide) (pc1 := 1) rfl ?_
  refine ix_istore_n (i := 3) (L1 := [(3, .int 0), (0, .ref (K.2.2.1 + a0)), (1, .long y1)]) X (ix_tb_at tb_J7_fill_d0a16 1 rfl) rfl (Nat.le_of_ble_eq_true rfl) rfl (pc1 := 2) rfl ?_
  refine ix_aload_n (i := 0) (j := 1) X (ix_tb_at tb_J7_fill_d0a16 2 rfl) rfl rfl (pc1 := 3) rfl ?_
  obtain ⟨k_1, h⟩ := ix_ck_some h
  refine iz_alen X k_1 (ix_tb_at tb_J7_fill_d0a16 3 rfl) (pc1 := 4) rfl ?_
  obtain ⟨x4_2, e_3, h⟩ := ix_lt_ex h
  refine ix_nmi e_3 ?_
  refine ix_istore (i := 4) (L1 := [(4, .int x4_2), (3, .int 0), (0, .ref (K.2.2.1 + a0)), (1, .long y1)]) X (ix_tb_at tb_J7_fill_d0a16 4 rfl) (Nat.le_of_ble_eq_true rfl) rfl (pc1 := 6) rfl ?_
  refine ix_sub (L1 := [(0, .ref (K.2.2.1 + a0)), (1, .long y1), (3, .int 0), (4, .int x4_2)]) [2, 3, 1, 0] rfl ?_
  exact t_J7_fill_d0a16_6 hKp X hr hlk  h
def tab_X1_clear : List (Nat × Instr × Nat) := [(0, .aload_n 0, 1), (1, .getfield 16, 3), (4, .iconst 0, 1), (5, .invokevirtual 55, 3), (8, .aload_n 0, 1), (9, .getfield 20, 3), (12, .iconst 0, 1), (13, .invokestatic 59, 3), (16, .aload_n 0, 1), (17, .getfield 33, 3), (20, .lconst 0, 1), (21, .invokestatic 65, 3), (24, .aload_n 0, 1), (25, .getfield 37, 3), (28, .lconst 0, 1), (29, .invokestatic 65, 3), (32, .aload_n 0, 1), (33, .getfield 40, 3), (36, .iconst 0, 1), (37, .invokestatic 59, 3), (40, .aload_n 0, 1), (41, .getfield 43, 3), (44, .iconst 0, 1), (45, .invokestatic 59, 3), (48, .aload_n 0, 1), (49, .iconst 0, 1), (50, .putfield 68, 3), (53, .aload_n 0, 1), (54, .iconst 0, 1), (55, .putfield 72, 3), (58, .aload_n 0, 1), (59, .iload_n 1, 1), (60, .putfield 75, 3), (63, .return_, 1)]
theorem tb_X1_clear : ix_tab cX1_clear tab_X1_clear := by
  unfold ix_tab
  decide +kernel
noncomputable def f_X1_clear (n : Nat) (z : ix_Z) (a0 : Nat) (x1 : Int32) (d : ix_D2) : Option (ix_D2) :=
  ix_ck (ix_ok z [1] a0) (ix_bd1 (z.1 a0 0) (fun b_2 => ix_ck (ix_ok z [7] b_2) (ix_bd1 (f_X7_shortenTo n z b_2 0 d) (fun d_4 => ix_bd1 (z.1 a0 1) (fun b_7 => ix_bd1 (f_J7_fill_53178 n z b_7 0 d_4) (fun d_9 => ix_bd1 (z.1 a0 5) (fun b_11 => ix_bd1 (f_J7_fill_d0a16 n z b_11 0 d_9) (fun d_13 => ix_bd1 (z.1 a0 6) (fun b_15 => ix_bd1 (f_J7_fill_d0a16 n z b_15 0 d_13) (fun d_17 => ix_bd1 (z.1 a0 7) (fun b_19 => ix_bd1 (f_J7_fill_53178 n z b_19 0 d_17) (fun d_21 => ix_bd1 (z.1 a0 8) (fun b_23 => ix_bd1 (f_J7_fill_53178 n z b_23 0 d_21) (fun d_25 => ix_lt (ix_di d_25 a0 12 0) (fun d_27 => ix_lt (ix_di d_27 a0 13 0) (fun d_29 => ix_lt (ix_di d_29 a0 14 x1) (fun d_31 => some d_31)))))))))))))))))
set_option maxRecDepth 20000 in
theorem c_X1_clear {l : Launch} {K : ix_Cx} (hKp : ix_Kp K) {n : Nat} {z : ix_Z} {a0 : Nat} {x1 : Int32} {d : ix_D2} {d1 : ix_D2} (h : f_X1_clear n z a0 x1 d = some d1) : ix_M l K yX1_clear cX1_clear 2 (none : Option Jvm.ClassFile.FieldType) 1 24 0 0 [.ref (K.2.2.1 + a0), .int x1] (ix_w z d) none (ix_w z d1) := by
  refine ix_met mf_X1_clear hKp (Nat.le_of_ble_eq_true rfl) ?_
  intro p e s m args below meth c hr hlk hnm X
  have X : ix_X p s m args c K cX1_clear RX1 2 := X
  show ix_G p l e (ix_rm 1 24 0 0) s m args below meth c (MQ below (ix_Post K none (ix_w z d1)) args s 0 0 (ix_A K)) K 2 0 0 0 [(0, .ref (K.2.2.1 + a0)), (1, .int x1)] [] (ix_w z d)
  unfold f_X1_clear at h
  refine ix_aload_n (i := 0) (j := 0) X (ix_tb_at tb_X1_clear 0 rfl) rfl rfl (pc1 := 1) rfl ?_
  obtain ⟨k_1, h⟩ := ix_ck_some h
  obtain ⟨b_2, q_3, h⟩ := ix_bd1_ex h
  refine iz_getR X fl_RX1_16 k_1 q_3 (ix_tb_at tb_X1_clear 1 rfl) (pc1 := 4) rfl ?_
  refine ix_iconst (v := 0) X (ix_tb_at tb_X1_clear 2 rfl) (by decide) (pc1 := 5) rfl ?_
  obtain ⟨k_6, h⟩ := ix_ck_some h
  obtain ⟨d_4, h_5, h⟩ := ix_bd1_ex h
  refine ix_callV (As := [.int 0]) (rest := []) (ci := 7) (T := TX7) (nf := 3) X mf_X7_shortenTo mi_X7_shortenTo ms_X7_shortenTo rfl (Nat.le_of_ble_eq_true rfl) ml_RX1_55 ⟨Nat.le_of_ble_eq_true rfl, Nat.le_of_ble_eq_true rfl⟩ ⟨Nat.le_of_ble_eq_true rfl, Nat.le_of_ble_eq_true rfl⟩ rfl (Nat.le_of_ble_eq_true rfl) (ix_tb_at tb_X1_clear 3 rfl) ⟨k_6.1, List.mem_singleton.mp k_6.2⟩ (c_X7_shortenTo hKp h_5) rfl (pc1 := 8) rfl ?_
  refine ix_aload_n (i := 0) (j := 0) X (ix_tb_at tb_X1_clear 4 rfl) rfl rfl (pc1 := 9) rfl ?_
  obtain ⟨b_7, q_8, h⟩ := ix_bd1_ex h
  refine iz_getR X fl_RX1_20 k_1 q_8 (ix_tb_at tb_X1_clear 5 rfl) (pc1 := 12) rfl ?_
  refine ix_iconst (v := 0) X (ix_tb_at tb_X1_clear 6 rfl) (by decide) (pc1 := 13) rfl ?_
  obtain ⟨d_9, h_10, h⟩ := ix_bd1_ex h
  refine ix_callS (As := [.ref (K.2.2.1 + b_7), .int 0]) (rest := []) X mf_J7_fill_53178 st_J7_fill_53178 ml_RX1_59 ⟨Nat.le_of_ble_eq_true rfl, Nat.le_of_ble_eq_true rfl⟩ ⟨Nat.le_of_ble_eq_true rfl, Nat.le_of_ble_eq_true rfl⟩ rfl (Nat.le_of_ble_eq_true rfl) (ix_tb_at tb_X1_clear 7 rfl) (c_J7_fill_53178 hKp h_10) rfl (pc1 := 16) rfl ?_
  refine ix_aload_n (i := 0) (j := 0) X (ix_tb_at tb_X1_clear 8 rfl) rfl rfl (pc1 := 17) rfl ?_
  obtain ⟨b_11, q_12, h⟩ := ix_bd1_ex h
  refine iz_getR X fl_RX1_33 k_1 q_12 (ix_tb_at tb_X1_clear 9 rfl) (pc1 := 20) rfl ?_
  refine ix_lconst (v := 0) X (ix_tb_at tb_X1_clear 10 rfl) (by decide) (pc1 := 21) rfl ?_
  obtain ⟨d_13, h_14, h⟩ := ix_bd1_ex h
  refine ix_callS (As := [.ref (K.2.2.1 + b_11), .long 0]) (rest := []) X mf_J7_fill_d0a16 st_J7_fill_d0a16 ml_RX1_65 ⟨Nat.le_of_ble_eq_true rfl, Nat.le_of_ble_eq_true rfl⟩ ⟨Nat.le_of_ble_eq_true rfl, Nat.le_of_ble_eq_true rfl⟩ rfl (Nat.le_of_ble_eq_true rfl) (ix_tb_at tb_X1_clear 11 rfl) (c_J7_fill_d0a16 hKp h_14) rfl (pc1 := 24) rfl ?_
  refine ix_aload_n (i := 0) (j := 0) X (ix_tb_at tb_X1_clear 12 rfl) rfl rfl (pc1 := 25) rfl ?_
  obtain ⟨b_15, q_16, h⟩ := ix_bd1_ex h
  refine iz_getR X fl_RX1_37 k_1 q_16 (ix_tb_at tb_X1_clear 13 rfl) (pc1 := 28) rfl ?_
  refine ix_lconst (v := 0) X (ix_tb_at tb_X1_clear 14 rfl) (by decide) (pc1 := 29) rfl ?_
  obtain ⟨d_17, h_18, h⟩ := ix_bd1_ex h
  refine ix_callS (As := [.ref (K.2.2.1 + b_15), .long 0]) (rest := []) X mf_J7_fill_d0a16 st_J7_fill_d0a16 ml_RX1_65 ⟨Nat.le_of_ble_eq_true rfl, Nat.le_of_ble_eq_true rfl⟩ ⟨Nat.le_of_ble_eq_true rfl, Nat.le_of_ble_eq_true rfl⟩ rfl (Nat.le_of_ble_eq_true rfl) (ix_tb_at tb_X1_clear 15 rfl) (c_J7_fill_d0a16 hKp h_18) rfl (pc1 := 32) rfl ?_
  refine ix_aload_n (i := 0) (j := 0) X (ix_tb_at tb_X1_clear 16 rfl) rfl rfl (pc1 := 33) rfl ?_
  obtain ⟨b_19, q_20, h⟩ := ix_bd1_ex h
  refine iz_getR X fl_RX1_40 k_1 q_20 (ix_tb_at tb_X1_clear 17 rfl) (pc1 := 36) rfl ?_
  refine ix_iconst (v := 0) X (ix_tb_at tb_X1_clear 18 rfl) (by decide) (pc1 := 37) rfl ?_
  obtain ⟨d_21, h_22, h⟩ := ix_bd1_ex h
  refine ix_callS (As := [.ref (K.2.2.1 + b_19), .int 0]) (rest := []) X mf_J7_fill_53178 st_J7_fill_53178 ml_RX1_59 ⟨Nat.le_of_ble_eq_true rfl, Nat.le_of_ble_eq_true rfl⟩ ⟨Nat.le_of_ble_eq_true rfl, Nat.le_of_ble_eq_true rfl⟩ rfl (Nat.le_of_ble_eq_true rfl) (ix_tb_at tb_X1_clear 19 rfl) (c_J7_fill_53178 hKp h_22) rfl (pc1 := 40) rfl ?_
  refine ix_aload_n (i := 0) (j := 0) X (ix_tb_at tb_X1_clear 20 rfl) rfl rfl (pc1 := 41) rfl ?_
  obtain ⟨b_23, q_24, h⟩ := ix_bd1_ex h
  refine iz_getR X fl_RX1_43 k_1 q_24 (ix_tb_at tb_X1_clear 21 rfl) (pc1 := 44) rfl ?_
  refine ix_iconst (v := 0) X (ix_tb_at tb_X1_clear 22 rfl) (by decide) (pc1 := 45) rfl ?_
  obtain ⟨d_25, h_26, h⟩ := ix_bd1_ex h
  refine ix_callS (As := [.ref (K.2.2.1 + b_23), .int 0]) (rest := []) X mf_J7_fill_53178 st_J7_fill_53178 ml_RX1_59 ⟨Nat.le_of_ble_eq_true rfl, Nat.le_of_ble_eq_true rfl⟩ ⟨Nat.le_of_ble_eq_true rfl, Nat.le_of_ble_eq_true rfl⟩ rfl (Nat.le_of_ble_eq_true rfl) (ix_tb_at tb_X1_clear 23 rfl) (c_J7_fill_53178 hKp h_26) rfl (pc1 := 48) rfl ?_
  refine ix_aload_n (i := 0) (j := 0) X (ix_tb_at tb_X1_clear 24 rfl) rfl rfl (pc1 := 49) rfl ?_
  refine ix_iconst (v := 0) X (ix_tb_at tb_X1_clear 25 rfl) (by decide) (pc1 := 50) rfl ?_
  obtain ⟨d_27, e_28, h⟩ := ix_lt_ex h
  refine iz_putI X fp_RX1_68 k_1 (ix_tb_at tb_X1_clear 26 rfl) e_28 (pc1 := 53) rfl ?_
  refine ix_aload_n (i := 0) (j := 0) X (ix_tb_at tb_X1_clear 27 rfl) rfl rfl (pc1 := 54) rfl ?_
  refine ix_iconst (v := 0) X (ix_tb_at tb_X1_clear 28 rfl) (by decide) (pc1 := 55) rfl ?_
  obtain ⟨d_29, e_30, h⟩ := ix_lt_ex h
  refine iz_putI X fp_RX1_72 k_1 (ix_tb_at tb_X1_clear 29 rfl) e_30 (pc1 := 58) rfl ?_
  refine ix_aload_n (i := 0) (j := 0) X (ix_tb_at tb_X1_clear 30 rfl) rfl rfl (pc1 := 59) rfl ?_
  refine ix_iload_n (i := 1) (j := 1) X (ix_tb_at tb_X1_clear 31 rfl) rfl rfl (pc1 := 60) rfl ?_
  obtain ⟨d_31, e_32, h⟩ := ix_lt_ex h
  refine iz_putI X fp_RX1_75 k_1 (ix_tb_at tb_X1_clear 32 rfl) e_32 (pc1 := 63) rfl ?_
  exact ix_vret X hr hlk (ix_r1 (g := ix_w z) h) (ix_tb_at tb_X1_clear 33 rfl)
def tab_X7_has : List (Nat × Instr × Nat) := [(0, .iload_n 1, 1), (1, .ifCond .lt 15, 3), (4, .iload_n 1, 1), (5, .aload_n 0, 1), (6, .getfield 18, 3), (9, .if_icmp .ge 7, 3), (12, .iconst 1, 1), (13, .goto 4, 3), (16, .iconst 0, 1), (17, .ireturn, 1)]
theorem tb_X7_has : ix_tab cX7_has tab_X7_has := by
  unfold ix_tab
  decide +kernel
noncomputable def f_X7_has (n : Nat) (z : ix_Z) (a0 : Nat) (x1 : Int32) (d : ix_D2) : Option (Int32 × ix_D2) :=
  ix_if (x1 < 0) (some (0, d)) (ix_ck (ix_ok z [7] a0) (ix_if (d.1 a0 2 ≤ x1) (some (0, d)) (some (1, d))))
set_option maxRecDepth 20000 in
theorem c_X7_has {l : Launch} {K : ix_Cx} (hKp : ix_Kp K) {n : Nat} {z : ix_Z} {a0 : Nat} {x1 : Int32} {d : ix_D2} {r : Int32} {d1 : ix_D2} (h : f_X7_has n z a0 x1 d = some (r, d1)) : ix_M l K yX7_has cX7_has 2 (some .boolean) 0 0 0 0 [.ref (K.2.2.1 + a0), .int x1] (ix_w z d) (some (.int r)) (ix_w z d1) := by
  refine ix_met mf_X7_has hKp (Nat.le_of_ble_eq_true rfl) ?_
  intro p e s m args below meth c hr hlk hnm X
  have X : ix_X p s m args c K cX7_has RX7 2 := X
  show ix_G p l e (ix_rm 0 0 0 0) s m args below meth c (MQ below (ix_Post K (some (.int r)) (ix_w z d1)) args s 0 0 (ix_A K)) K 2 0 0 0 [(0, .ref (K.2.2.1 + a0)), (1, .int x1)] [] (ix_w z d)
  unfold f_X7_has at h
  refine ix_iload_n (i := 1) (j := 1) X (ix_tb_at tb_X7_has 0 rfl) rfl rfl (pc1 := 1) rfl ?_
  refine ix_if_lt (tgt := 16) X (ix_tb_at tb_X7_has 1 rfl) (by decide) (pc1 := 4) rfl (fun q_1 => ?_) (fun q_1 => ?_)
  · have h := ix_ift q_1 h
    refine ix_iconst (v := 0) X (ix_tb_at tb_X7_has 8 rfl) (by decide) (pc1 := 17) rfl ?_
    exact ix_zret X hr hlk (by decide) (ix_r2 (f := fun r => some (.int r)) (g := ix_w z) h) (ix_tb_at tb_X7_has 9 rfl)
  · have h := ix_iff q_1 h
    refine ix_iload_n (i := 1) (j := 1) X (ix_tb_at tb_X7_has 2 rfl) rfl rfl (pc1 := 5) rfl ?_
    refine ix_aload_n (i := 0) (j := 0) X (ix_tb_at tb_X7_has 3 rfl) rfl rfl (pc1 := 6) rfl ?_
    obtain ⟨k_2, h⟩ := ix_ck_some h
    refine iz_getI X fl_RX7_18 k_2 (ix_tb_at tb_X7_has 4 rfl) (pc1 := 9) rfl ?_
    refine ix_icmp_ge (tgt := 16) X (ix_tb_at tb_X7_has 5 rfl) (by decide) (pc1 := 12) rfl (fun q_3 => ?_) (fun q_3 => ?_)
    · have h := ix_ift q_3 h
      refine ix_iconst (v := 0) X (ix_tb_at tb_X7_has 8 rfl) (by decide) (pc1 := 17) rfl ?_
      exact ix_zret X hr hlk (by decide) (ix_r2 (f := fun r => some (.int r)) (g := ix_w z) h) (ix_tb_at tb_X7_has 9 rfl)
    · have h := ix_iff q_3 h
      refine ix_iconst (v := 1) X (ix_tb_at tb_X7_has 6 rfl) (by decide) (pc1 := 13) rfl ?_
      refine ix_goto (tgt := 17) X (ix_tb_at tb_X7_has 7 rfl) (by decide) ?_
      exact ix_zret X hr hlk (by decide) (ix_r2 (f := fun r => some (.int r)) (g := ix_w z) h) (ix_tb_at tb_X7_has 9 rfl)
def tab_X7_size : List (Nat × Instr × Nat) := [(0, .aload_n 0, 1), (1, .iload_n 1, 1), (2, .invokevirtual 28, 3), (5, .ifCond .eq 21, 3), (8, .aload_n 0, 1), (9, .getfield 15, 3), (12, .iload_n 1, 1), (13, .iconst 1, 1), (14, .iadd, 1), (15, .iaload, 1), (16, .aload_n 0, 1), (17, .getfield 15, 3), (20, .iload_n 1, 1), (21, .iaload, 1), (22, .isub, 1), (23, .goto 4, 3), (26, .iconst 0, 1), (27, .ireturn, 1)]
theorem tb_X7_size : ix_tab cX7_size tab_X7_size := by
  unfold ix_tab
  decide +kernel
noncomputable def f_X7_size (n : Nat) (z : ix_Z) (a0 : Nat) (x1 : Int32) (d : ix_D2) : Option (Int32 × ix_D2) :=
  ix_ck (ix_ok z [7] a0) (ix_bd2 (f_X7_has n z a0 x1 d) (fun r_4 d_1 => ix_if (r_4 = 0) (some (0, d_1)) (ix_bd1 (z.1 a0 1) (fun b_6 => ix_ck (ix_ix z 20 b_6 (x1 + 1)) (ix_ck (ix_ix z 20 b_6 x1) (some ((d_1.1 b_6 (ix_n (x1 + 1))) - (d_1.1 b_6 (ix_n x1)), d_1)))))))
set_option maxRecDepth 20000 in
theorem c_X7_size {l : Launch} {K : ix_Cx} (hKp : ix_Kp K) {n : Nat} {z : ix_Z} {a0 : Nat} {x1 : Int32} {d : ix_D2} {r : Int32} {d1 : ix_D2} (h : f_X7_size n z a0 x1 d = some (r, d1)) : ix_M l K yX7_size cX7_size 2 (some .int) 1 21 0 0 [.ref (K.2.2.1 + a0), .int x1] (ix_w z d) (some (.int r)) (ix_w z d1) := by
  refine ix_met mf_X7_size hKp (Nat.le_of_ble_eq_true rfl) ?_
  intro p e s m args below meth c hr hlk hnm X
  have X : ix_X p s m args c K cX7_size RX7 2 := X
  show ix_G p l e (ix_rm 1 21 0 0) s m args below meth c (MQ below (ix_Post K (some (.int r)) (ix_w z d1)) args s 0 0 (ix_A K)) K 2 0 0 0 [(0, .ref (K.2.2.1 + a0)), (1, .int x1)] [] (ix_w z d)
  unfold f_X7_size at h
  refine ix_aload_n (i := 0) (j := 0) X (ix_tb_at tb_X7_size 0 rfl) rfl rfl (pc1 := 1) rfl ?_
  refine ix_iload_n (i := 1) (j := 1) X (ix_tb_at tb_X7_size 1 rfl) rfl rfl (pc1 := 2) rfl ?_
  obtain ⟨k_3, h⟩ := ix_ck_some h
  obtain ⟨r_4, d_1, h_2, h⟩ := ix_bd2_ex h
  refine ix_callV (As := [.int x1]) (rest := []) (ci := 7) (T := TX7) (nf := 3) X mf_X7_has mi_X7_has ms_X7_has rfl (Nat.le_of_ble_eq_true rfl) ml_RX7_28 ⟨Nat.le_of_ble_eq_true rfl, Nat.le_of_ble_eq_true rfl⟩ ⟨Nat.le_of_ble_eq_true rfl, Nat.le_of_ble_eq_true rfl⟩ rfl (Nat.le_of_ble_eq_true rfl) (ix_tb_at tb_X7_size 2 rfl) ⟨k_3.1, List.mem_singleton.mp k_3.2⟩ (c_X7_has hKp h_2) rfl (pc1 := 5) rfl ?_
  refine ix_if_eq (tgt := 26) X (ix_tb_at tb_X7_size 3 rfl) (by decide) (pc1 := 8) rfl (fun q_5 => ?_) (fun q_5 => ?_)
  · have h := ix_ift q_5 h
    refine ix_iconst (v := 0) X (ix_tb_at tb_X7_size 16 rfl) (by decide) (pc1 := 27) rfl ?_
    exact ix_iret X hr hlk (ix_r2 (f := fun r => some (.int r)) (g := ix_w z) h) (ix_tb_at tb_X7_size 17 rfl)
  · have h := ix_iff q_5 h
    refine ix_aload_n (i := 0) (j := 0) X (ix_tb_at tb_X7_size 4 rfl) rfl rfl (pc1 := 9) rfl ?_
    obtain ⟨b_6, q_7, h⟩ := ix_bd1_ex h
    refine iz_getR X fl_RX7_15 k_3 q_7 (ix_tb_at tb_X7_size 5 rfl) (pc1 := 12) rfl ?_
    refine ix_iload_n (i := 1) (j := 1) X (ix_tb_at tb_X7_size 6 rfl) rfl rfl (pc1 := 13) rfl ?_
    refine ix_iconst (v := 1) X (ix_tb_at tb_X7_size 7 rfl) (by decide) (pc1 := 14) rfl ?_
    refine ix_iadd X (ix_tb_at tb_X7_size 8 rfl) (pc1 := 15) rfl ?_
    obtain ⟨k_8, h⟩ := ix_ck_some h
    refine iz_iald X k_8 (ix_tb_at tb_X7_size 9 rfl) (pc1 := 16) rfl ?_
    refine ix_aload_n (i := 0) (j := 0) X (ix_tb_at tb_X7_size 10 rfl) rfl rfl (pc1 := 17) rfl ?_
    refine iz_getR X fl_RX7_15 k_3 q_7 (ix_tb_at tb_X7_size 11 rfl) (pc1 := 20) rfl ?_
    refine ix_iload_n (i := 1) (j := 1) X (ix_tb_at tb_X7_size 12 rfl) rfl rfl (pc1 := 21) rfl ?_
    obtain ⟨k_9, h⟩ := ix_ck_some h
    refine iz_iald X k_9 (ix_tb_at tb_X7_size 13 rfl) (pc1 := 22) rfl ?_
    refine ix_isub X (ix_tb_at tb_X7_size 14 rfl) (pc1 := 23) rfl ?_
    refine ix_goto (tgt := 27) X (ix_tb_at tb_X7_size 15 rfl) (by decide) ?_
    exact ix_iret X hr hlk (ix_r2 (f := fun r => some (.int r)) (g := ix_w z) h) (ix_tb_at tb_X7_size 17 rfl)
def tab_X1_sort : List (Nat × Instr × Nat) := [(0, .iload_n 1, 1), (1, .bipush 64, 2), (3, .idiv, 1), (4, .istore_n 2, 1), (5, .lconst 1, 1), (6, .iload_n 1, 1), (7, .bipush 64, 2), (9, .irem, 1), (10, .lshl, 1), (11, .lstore_n 3, 1), (12, .aload_n 0, 1), (13, .getfield 33, 3), (16, .iload_n 2, 1), (17, .dup2, 1), (18, .laload, 1), (19, .lload_n 3, 1), (20, .ldc2_w 106, 3), (23, .lxor, 1), (24, .land, 1), (25, .lastore, 1), (26, .aload_n 0, 1), (27, .getfield 37, 3), (30, .iload_n 2, 1), (31, .dup2, 1), (32, .laload, 1), (33, .lload_n 3, 1), (34, .ldc2_w 106, 3), (37, .lxor, 1), (38, .land, 1), (39, .lastore, 1), (40, .aload_n 0, 1), (41, .getfield 30, 3), (44, .iload_n 1, 1), (45, .iaload, 1), (46, .ifCond .ne 13, 3), (49, .aload_n 0, 1), (50, .getfield 33, 3), (53, .iload_n 2, 1), (54, .dup2, 1), (55, .laload, 1), (56, .lload_n 3, 1), (57, .lor, 1), (58, .lastore, 1), (59, .aload_n 0, 1), (60, .getfield 30, 3), (63, .iload_n 1, 1), (64, .iaload, 1), (65, .iconst 1, 1), (66, .if_icmp .ne 13, 3), (69, .aload_n 0, 1), (70, .getfield 37, 3), (73, .iload_n 2, 1), (74, .dup2, 1), (75, .laload, 1), (76, .lload_n 3, 1), (77, .lor, 1), (78, .lastore, 1), (79, .return_, 1)]
theorem tb_X1_sort : ix_tab cX1_sort tab_X1_sort := by
  unfold ix_tab
  decide +kernel
noncomputable def f_X1_sort_59 (n : Nat) (z : ix_Z)  (a0 : Nat) (x1 : Int32) (x2 : Int32) (y3 : Int64) (d : ix_D2) : Option (ix_D2) :=
  ix_ck (ix_ok z [1] a0) (ix_bd1 (z.1 a0 4) (fun b_21 => ix_ck (ix_ix z 20 b_21 x1) (ix_if (d.1 b_21 (ix_n x1) = 1) (ix_bd1 (z.1 a0 6) (fun b_25 => ix_ck (ix_ix z 23 b_25 x2) (ix_lt (ix_dj d b_25 (ix_n x2) ((d.2 b_25 (ix_n x2)) ||| y3)) (fun d_28 => some d_28)))) (some d))))
noncomputable def f_X1_sort (n : Nat) (z : ix_Z) (a0 : Nat) (x1 : Int32) (d : ix_D2) : Option (ix_D2) :=
  ix_lt (x1 / 64) (fun x2_1 => ix_lt (1 <<< ((x1 - x1 / 64 * 64).toInt64 &&& 63)) (fun x3_3 => ix_ck (ix_ok z [1] a0) (ix_bd1 (z.1 a0 5) (fun b_6 => ix_ck (ix_ix z 23 b_6 x2_1) (ix_lt (ix_dj d b_6 (ix_n x2_1) ((d.2 b_6 (ix_n x2_1)) &&& (x3_3 ^^^ ((-1))))) (fun d_9 => ix_bd1 (z.1 a0 6) (fun b_11 => ix_ck (ix_ix z 23 b_11 x2_1) (ix_lt (ix_dj d_9 b_11 (ix_n x2_1) ((d_9.2 b_11 (ix_n x2_1)) &&& (x3_3 ^^^ ((-1))))) (fun d_14 => ix_bd1 (z.1 a0 4) (fun b_16 => ix_ck (ix_ix z 20 b_16 x1) (ix_if (d_14.1 b_16 (ix_n x1) = 0) (ix_lt (ix_dj d_14 b_6 (ix_n x2_1) ((d_14.2 b_6 (ix_n x2_1)) ||| x3_3)) (fun d_30 => f_X1_sort_59 n z  a0 x1 x2_1 x3_3 d_30)) (f_X1_sort_59 n z  a0 x1 x2_1 x3_3 d_14))))))))))))
set_option maxRecDepth 20000 in
theorem t_X1_sort_59 {l : Launch} {p : Program} {e : Env} {s : State} {m : MethodId} {args : Array Value} {below : List Frame} {meth : Method} {c : Code} {K : ix_Cx} (hKp : ix_Kp K) {n : Nat} {z : ix_Z} (X : ix_X p s m args c K cX1_sort RX1 5) (hr : meth.sig.returnType = (none : Option Jvm.ClassFile.FieldType)) (hlk : meth.locks = false)  {a0 : Nat} {x1 : Int32} {x2 : Int32} {y3 : Int64} {d1 : ix_D2}  {d : ix_D2} (h : f_X1_sort_59 n z  a0 x1 x2 y3 d = some d1) : ix_G p l e (ix_rm 0 0 0 0) s m args below meth c (MQ below (ix_Post K none (ix_w z d1)) args s 0 0 (ix_A K)) K 5 0 0 59 [(0, .ref (K.2.2.1 + a0)), (1, .int x1), (2, .int x2), (3, .long y3)] [] (ix_w z d) := by
  unfold f_X1_sort_59 at h
  refine ix_aload_n (i := 0) (j := 0) X (ix_tb_at tb_X1_sort 43 rfl) rfl rfl (pc1 := 60) rfl ?_
  obtain ⟨k_20, h⟩ := ix_ck_some h
  obtain ⟨b_21, q_22, h⟩ := ix_bd1_ex h
  refine iz_getR X fl_RX1_30 k_20 q_22 (ix_tb_at tb_X1_sort 44 rfl) (pc1 := 63) rfl ?_
  refine ix_iload_n (i := 1) (j := 1) X (ix_tb_at tb_X1_sort 45 rfl) rfl rfl (pc1 := 64) rfl ?_
  obtain ⟨k_23, h⟩ := ix_ck_some h
  refine iz_iald X k_23 (ix_tb_at tb_X1_sort 46 rfl) (pc1 := 65) rfl ?_
  refine ix_iconst (v := 1) X (ix_tb_at tb_X1_sort 47 rfl) (by decide) (pc1 := 66) rfl ?_
  refine ix_icmp_ne (tgt := 79) X (ix_tb_at tb_X1_sort 48 rfl) (by decide) (pc1 := 69) rfl (fun q_24 => ?_) (fun q_24 => ?_)
  · have h := ix_iff q_24 h
    exact ix_vret X hr hlk (ix_r1 (g := ix_w z) h) (ix_tb_at tb_X1_sort 57 rfl)
  · have h := ix_ift q_24 h
    refine ix_aload_n (i := 0) (j := 0) X (ix_tb_at tb_X1_sort 49 rfl) rfl rfl (pc1 := 70) rfl ?_
    obtain ⟨b_25, q_26, h⟩ := ix_bd1_ex h
    refine iz_getR X fl_RX1_37 k_20 q_26 (ix_tb_at tb_X1_sort 50 rfl) (pc1 := 73) rfl ?_
    refine ix_iload_n (i := 2) (j := 2) X (ix_tb_at tb_X1_sort 51 rfl) rfl rfl (pc1 := 74) rfl ?_
    refine ix_dup2 X (ix_tb_at tb_X1_sort 52 rfl) rfl rfl (pc1 := 75) rfl ?_
    obtain ⟨k_27, h⟩ := ix_ck_some h
    refine iz_lald X k_27 (ix_tb_at tb_X1_sort 53 rfl) (pc1 := 76) rfl ?_
    refine ix_lload_n (i := 3) (j := 3) X (ix_tb_at tb_X1_sort 54 rfl) rfl rfl (pc1 := 77) rfl ?_
    refine ix_lor X (ix_tb_at tb_X1_sort 55 rfl) (pc1 := 78) rfl ?_
    obtain ⟨d_28, e_29, h⟩ := ix_lt_ex h
    refine iz_last X k_27 (ix_tb_at tb_X1_sort 56 rfl) e_29 (pc1 := 79) rfl ?_
    exact ix_vret X hr hlk (ix_r1 (g := ix_w z) h) (ix_tb_at tb_X1_sort 57 rfl)
set_option maxRecDepth 20000 in
theorem c_X1_sort {l : Launch} {K : ix_Cx} (hKp : ix_Kp K) {n : Nat} {z : ix_Z} {a0 : Nat} {x1 : Int32} {d : ix_D2} {d1 : ix_D2} (h : f_X1_sort n z a0 x1 d = some d1) : ix_M l K yX1_sort cX1_sort 5 (none : Option Jvm.ClassFile.FieldType) 0 0 0 0 [.ref (K.2.2.1 + a0), .int x1] (ix_w z d) none (ix_w z d1) := by
  refine ix_met mf_X1_sort hKp (Nat.le_of_ble_eq_true rfl) ?_
  intro p e s m args below meth c hr hlk hnm X
  have X : ix_X p s m args c K cX1_sort RX1 5 := X
  show ix_G p l e (ix_rm 0 0 0 0) s m args below meth c (MQ below (ix_Post K none (ix_w z d1)) args s 0 0 (ix_A K)) K 5 0 0 0 [(0, .ref (K.2.2.1 + a0)), (1, .int x1)] [] (ix_w z d)
  unfold f_X1_sort at h
  refine ix_iload_n (i := 1) (j := 1) X (ix_tb_at tb_X1_sort 0 rfl) rfl rfl (pc1 := 1) rfl ?_
  refine ix_bipush (v := 64) X (ix_tb_at tb_X1_sort 1 rfl) (by decide) (pc1 := 3) rfl ?_
  refine ix_idiv X (ix_tb_at tb_X1_sort 2 rfl) (by decide) (pc1 := 4) rfl ?_
  obtain ⟨x2_1, e_2, h⟩ := ix_lt_ex h
  refine ix_nmi e_2 ?_
  refine ix_istore_n (i := 2) (L1 := [(2, .int x2_1), (0, .ref (K.2.2.1 + a0)), (1, .int x1)]) X (ix_tb_at tb_X1_sort 3 rfl) rfl (Nat.le_of_ble_eq_true rfl) rfl (pc1 := 5) rfl ?_
  refine ix_lconst (v := 1) X (ix_tb_at tb_X1_sort 4 rfl) (by decide) (pc1 := 6) rfl ?_
  refine ix_iload_n (i := 1) (j := 2) X (ix_tb_at tb_X1_sort 5 rfl) rfl rfl (pc1 := 7) rfl ?_
  refine ix_bipush (v := 64) X (ix_tb_at tb_X1_sort 6 rfl) (by decide) (pc1 := 9) rfl ?_
  refine ix_irem X (ix_tb_at tb_X1_sort 7 rfl) (by decide) (pc1 := 10) rfl ?_
  refine ix_lshl X (ix_tb_at tb_X1_sort 8 rfl) (pc1 := 11) rfl ?_
  obtain ⟨x3_3, e_4, h⟩ := ix_lt_ex h
  refine ix_nml e_4 ?_
  refine ix_lstore_n (i := 3) (L1 := [(3, .long x3_3), (2, .int x2_1), (0, .ref (K.2.2.1 + a0)), (1, .int x1)]) X (ix_tb_at tb_X1_sort 9 rfl) rfl (Nat.le_of_ble_eq_true rfl) rfl (pc1 := 12) rfl ?_
  refine ix_aload_n (i := 0) (j := 2) X (ix_tb_at tb_X1_sort 10 rfl) rfl rfl (pc1 := 13) rfl ?_
  obtain ⟨k_5, h⟩ := ix_ck_some h
  obtain ⟨b_6, q_7, h⟩ := ix_bd1_ex h
  refine iz_getR X fl_RX1_33 k_5 q_7 (ix_tb_at tb_X1_sort 11 rfl) (pc1 := 16) rfl ?_
  refine ix_iload_n (i := 2) (j := 1) X (ix_tb_at tb_X1_sort 12 rfl) rfl rfl (pc1 := 17) rfl ?_
  refine ix_dup2 X (ix_tb_at tb_X1_sort 13 rfl) rfl rfl (pc1 := 18) rfl ?_
  obtain ⟨k_8, h⟩ := ix_ck_some h
  refine iz_lald X k_8 (ix_tb_at tb_X1_sort 14 rfl) (pc1 := 19) rfl ?_
  refine ix_lload_n (i := 3) (j := 0) X (ix_tb_at tb_X1_sort 15 rfl) rfl rfl (pc1 := 20) rfl ?_
  refine ix_ldc2 (pl := 1170) (v := (-1)) X (ix_tb_at tb_X1_sort 16 rfl) (by decide +kernel) (pc1 := 23) rfl ?_
  refine ix_lxor X (ix_tb_at tb_X1_sort 17 rfl) (pc1 := 24) rfl ?_
  refine ix_land X (ix_tb_at tb_X1_sort 18 rfl) (pc1 := 25) rfl ?_
  obtain ⟨d_9, e_10, h⟩ := ix_lt_ex h
  refine iz_last X k_8 (ix_tb_at tb_X1_sort 19 rfl) e_10 (pc1 := 26) rfl ?_
  refine ix_aload_n (i := 0) (j := 2) X (ix_tb_at tb_X1_sort 20 rfl) rfl rfl (pc1 := 27) rfl ?_
  obtain ⟨b_11, q_12, h⟩ := ix_bd1_ex h
  refine iz_getR X fl_RX1_37 k_5 q_12 (ix_tb_at tb_X1_sort 21 rfl) (pc1 := 30) rfl ?_
  refine ix_iload_n (i := 2) (j := 1) X (ix_tb_at tb_X1_sort 22 rfl) rfl rfl (pc1 := 31) rfl ?_
  refine ix_dup2 X (ix_tb_at tb_X1_sort 23 rfl) rfl rfl (pc1 := 32) rfl ?_
  obtain ⟨k_13, h⟩ := ix_ck_some h
  refine iz_lald X k_13 (ix_tb_at tb_X1_sort 24 rfl) (pc1 := 33) rfl ?_
  refine ix_lload_n (i := 3) (j := 0) X (ix_tb_at tb_X1_sort 25 rfl) rfl rfl (pc1 := 34) rfl ?_
  refine ix_ldc2 (pl := 1170) (v := (-1)) X (ix_tb_at tb_X1_sort 26 rfl) (by decide +kernel) (pc1 := 37) rfl ?_
  refine ix_lxor X (ix_tb_at tb_X1_sort 27 rfl) (pc1 := 38) rfl ?_
  refine ix_land X (ix_tb_at tb_X1_sort 28 rfl) (pc1 := 39) rfl ?_
  obtain ⟨d_14, e_15, h⟩ := ix_lt_ex h
  refine iz_last X k_13 (ix_tb_at tb_X1_sort 29 rfl) e_15 (pc1 := 40) rfl ?_
  refine ix_aload_n (i := 0) (j := 2) X (ix_tb_at tb_X1_sort 30 rfl) rfl rfl (pc1 := 41) rfl ?_
  obtain ⟨b_16, q_17, h⟩ := ix_bd1_ex h
  refine iz_getR X fl_RX1_30 k_5 q_17 (ix_tb_at tb_X1_sort 31 rfl) (pc1 := 44) rfl ?_
  refine ix_iload_n (i := 1) (j := 3) X (ix_tb_at tb_X1_sort 32 rfl) rfl rfl (pc1 := 45) rfl ?_
  obtain ⟨k_18, h⟩ := ix_ck_some h
  refine iz_iald X k_18 (ix_tb_at tb_X1_sort 33 rfl) (pc1 := 46) rfl ?_
  refine ix_if_ne (tgt := 59) X (ix_tb_at tb_X1_sort 34 rfl) (by decide) (pc1 := 49) rfl (fun q_19 => ?_) (fun q_19 => ?_)
  · have h := ix_iff q_19 h
    refine ix_sub (L1 := [(0, .ref (K.2.2.1 + a0)), (1, .int x1), (2, .int x2_1), (3, .long x3_3)]) [2, 3, 1, 0] rfl ?_
    exact t_X1_sort_59 hKp X hr hlk  h
  · have h := ix_ift q_19 h
    refine ix_aload_n (i := 0) (j := 2) X (ix_tb_at tb_X1_sort 35 rfl) rfl rfl (pc1 := 50) rfl ?_
    refine iz_getR X fl_RX1_33 k_5 q_7 (ix_tb_at tb_X1_sort 36 rfl) (pc1 := 53) rfl ?_
    refine ix_iload_n (i := 2) (j := 1) X (ix_tb_at tb_X1_sort 37 rfl) rfl rfl (pc1 := 54) rfl ?_
    refine ix_dup2 X (ix_tb_at tb_X1_sort 38 rfl) rfl rfl (pc1 := 55) rfl ?_
    refine iz_lald X k_8 (ix_tb_at tb_X1_sort 39 rfl) (pc1 := 56) rfl ?_
    refine ix_lload_n (i := 3) (j := 0) X (ix_tb_at tb_X1_sort 40 rfl) rfl rfl (pc1 := 57) rfl ?_
    refine ix_lor X (ix_tb_at tb_X1_sort 41 rfl) (pc1 := 58) rfl ?_
    obtain ⟨d_30, e_31, h⟩ := ix_lt_ex h
    refine iz_last X k_8 (ix_tb_at tb_X1_sort 42 rfl) e_31 (pc1 := 59) rfl ?_
    refine ix_sub (L1 := [(0, .ref (K.2.2.1 + a0)), (1, .int x1), (2, .int x2_1), (3, .long x3_3)]) [2, 3, 1, 0] rfl ?_
    exact t_X1_sort_59 hKp X hr hlk  h
def tab_X1_lay : List (Nat × Instr × Nat) := [(0, .aload_n 0, 1), (1, .getfield 16, 3), (4, .getfield 95, 3), (7, .istore 4, 2), (9, .aload_n 0, 1), (10, .getfield 16, 3), (13, .aload_n 1, 1), (14, .iload_n 2, 1), (15, .iload_n 3, 1), (16, .invokevirtual 98, 3), (19, .ifCond .ne 4, 3), (22, .return_, 1), (23, .iconst 0, 1), (24, .istore 5, 2), (26, .aload_n 0, 1), (27, .getfield 16, 3), (30, .getfield 85, 3), (33, .iload 4, 2), (35, .iaload, 1), (36, .istore 6, 2), (38, .iload 6, 2), (40, .aload_n 0, 1), (41, .getfield 16, 3), (44, .getfield 85, 3), (47, .iload 4, 2), (49, .iconst 1, 1), (50, .iadd, 1), (51, .iaload, 1), (52, .if_icmp .ge 91, 3), (55, .aload_n 0, 1), (56, .getfield 16, 3), (59, .getfield 82, 3), (62, .iload 6, 2), (64, .iaload, 1), (65, .istore 7, 2), (67, .aload_n 0, 1), (68, .getfield 27, 3), (71, .iload 6, 2), (73, .iload 4, 2), (75, .iastore, 1), (76, .aload_n 0, 1), (77, .getfield 24, 3), (80, .iload 6, 2), (82, .aload_n 0, 1), (83, .getfield 20, 3), (86, .iload 7, 2), (88, .sipush 300, 3), (91, .iadd, 1), (92, .iaload, 1), (93, .iastore, 1), (94, .aload_n 0, 1), (95, .getfield 20, 3), (98, .iload 7, 2), (100, .sipush 300, 3), (103, .iadd, 1), (104, .iload 6, 2), (106, .iconst 1, 1), (107, .iadd, 1), (108, .iastore, 1), (109, .iload 5, 2), (111, .aload_n 0, 1), (112, .iload 7, 2), (114, .invokevirtual 78, 3), (117, .ifCond .le 9, 3), (120, .sipush 1000, 3), (123, .goto 11, 3), (126, .aload_n 0, 1), (127, .iload 7, 2), (129, .invokevirtual 78, 3), (132, .iconst 1, 1), (133, .iadd, 1), (134, .iadd, 1), (135, .istore 5, 2), (137, .iinc 6 1, 3), (140, .goto (-102), 3), (143, .aload_n 0, 1), (144, .getfield 30, 3), (147, .iload 4, 2), (149, .iload 5, 2), (151, .iastore, 1), (152, .aload_n 0, 1), (153, .iload 4, 2), (155, .invokevirtual 102, 3), (158, .return_, 1)]
theorem tb_X1_lay : ix_tab cX1_lay tab_X1_lay := by
  unfold ix_tab
  decide +kernel
noncomputable def f_X1_lay_134 (n : Nat) (z : ix_Z) (rec38 : Int32 → Int32 → ix_D2 → Option (ix_D2)) (a0 : Nat) (x4 : Int32) (x6 : Int32) (s0 : Int32) (s1 : Int32) (d : ix_D2) : Option (ix_D2) :=
  ix_lt (s1 + s0) (fun x5_58 => ix_lt (x6 + 1) (fun x6_60 => rec38 x5_58 x6_60 d))
noncomputable def b_X1_lay_38 (n : Nat) (z : ix_Z)  (a0 : Nat) (x4 : Int32) (rec38 : Int32 → Int32 → ix_D2 → Option (ix_D2)) (x5 : Int32) (x6 : Int32) (d : ix_D2) : Option (ix_D2) :=
  ix_ck (ix_ok z [1] a0) (ix_bd1 (z.1 a0 0) (fun b_17 => ix_ck (ix_ok z [7] b_17) (ix_bd1 (z.1 b_17 1) (fun b_20 => ix_ck (ix_ix z 20 b_20 (x4 + 1)) (ix_if (d.1 b_20 (ix_n (x4 + 1)) ≤ x6) (ix_bd1 (z.1 a0 4) (fun b_24 => ix_ck (ix_ix z 20 b_24 x4) (ix_lt (ix_di d b_24 (ix_n x4) x5) (fun d_27 => ix_bd1 (f_X1_sort n z a0 x4 d_27) (fun d_29 => some d_29))))) (ix_bd1 (z.1 b_17 0) (fun b_31 => ix_ck (ix_ix z 20 b_31 x6) (ix_lt (d.1 b_31 (ix_n x6)) (fun x7_34 => ix_bd1 (z.1 a0 3) (fun b_36 => ix_ck (ix_ix z 20 b_36 x6) (ix_lt (ix_di d b_36 (ix_n x6) x4) (fun d_39 => ix_bd1 (z.1 a0 2) (fun b_41 => ix_bd1 (z.1 a0 1) (fun b_43 => ix_ck (ix_ix z 20 b_43 (x7_34 + 300)) (ix_ck (ix_ix z 20 b_41 x6) (ix_lt (ix_di d_39 b_41 (ix_n x6) (d_39.1 b_43 (ix_n (x7_34 + 300)))) (fun d_47 => ix_lt (ix_di d_47 b_43 (ix_n (x7_34 + 300)) (x6 + 1)) (fun d_49 => ix_bd2 (f_X1_valueOf n z a0 x7_34 d_49) (fun r_53 d_51 => ix_if (r_53 ≤ 0) (ix_bd2 (f_X1_valueOf n z a0 x7_34 d_51) (fun r_57 d_55 => f_X1_lay_134 n z rec38 a0 x4 x6 (r_57 + 1) x5 d_55)) (f_X1_lay_134 n z rec38 a0 x4 x6 1000 x5 d_51))))))))))))))))))))
noncomputable def f_X1_lay_38 (n : Nat) (z : ix_Z)  (a0 : Nat) (x4 : Int32) (x5 : Int32) (x6 : Int32) (d : ix_D2) : Option (ix_D2) := ix_fix (b_X1_lay_38 n z  a0 x4) (fun _ _ _ => none) n x5 x6 d
noncomputable def f_X1_lay (n : Nat) (z : ix_Z) (a0 : Nat) (a1 : Nat) (x2 : Int32) (x3 : Int32) (d : ix_D2) : Option (ix_D2) :=
  ix_ck (ix_ok z [1] a0) (ix_bd1 (z.1 a0 0) (fun b_2 => ix_ck (ix_ok z [7] b_2) (ix_lt (d.1 b_2 2) (fun x4_5 => ix_bd2 (f_X7_push n z b_2 a1 x2 x3 d) (fun r_9 d_7 => ix_if (r_9 = 0) (some d_7) (ix_bd1 (z.1 b_2 1) (fun b_11 => ix_ck (ix_ix z 20 b_11 x4_5) (ix_lt (d_7.1 b_11 (ix_n x4_5)) (fun x6_14 => f_X1_lay_38 n z  a0 x4_5 0 x6_14 d_7)))))))))
set_option maxRecDepth 20000 in
theorem t_X1_lay_134 {l : Launch} {p : Program} {e : Env} {s : State} {m : MethodId} {args : Array Value} {below : List Frame} {meth : Method} {c : Code} {K : ix_Cx} (hKp : ix_Kp K) {n : Nat} {z : ix_Z} (X : ix_X p s m args c K cX1_lay RX1 8) (hr : meth.sig.returnType = (none : Option Jvm.ClassFile.FieldType)) (hlk : meth.locks = false) {rec38 : Int32 → Int32 → ix_D2 → Option (ix_D2)} {a0 : Nat} {x4 : Int32} {x6 : Int32} {s0 : Int32} {s1 : Int32} {d1 : ix_D2} (hrec38 : ∀ (x5 : Int32) (x6 : Int32) (d : ix_D2), rec38 x5 x6 d = some d1 → ix_G p l e (ix_rm 2 50 0 0) s m args below meth c (MQ below (ix_Post K none (ix_w z d1)) args s 0 0 (ix_A K)) K 8 0 0 38 [(0, .ref (K.2.2.1 + a0)), (4, .int x4), (5, .int x5), (6, .int x6)] [] (ix_w z d)) {d : ix_D2} (h : f_X1_lay_134 n z rec38 a0 x4 x6 s0 s1 d = some d1) : ix_G p l e (ix_rm 2 50 0 0) s m args below meth c (MQ below (ix_Post K none (ix_w z d1)) args s 0 0 (ix_A K)) K 8 0 0 134 [(0, .ref (K.2.2.1 + a0)), (4, .int x4), (6, .int x6)] [.int s0, .int s1] (ix_w z d) := by
  unfold f_X1_lay_134 at h
  refine ix_iadd X (ix_tb_at tb_X1_lay 71 rfl) (pc1 := 135) rfl ?_
  obtain ⟨x5_58, e_59, h⟩ := ix_lt_ex h
  refine ix_nmi e_59 ?_
  refine ix_istore (i := 5) (L1 := [(5, .int x5_58), (0, .ref (K.2.2.1 + a0)), (4, .int x4), (6, .int x6)]) X (ix_tb_at tb_X1_lay 72 rfl) (Nat.le_of_ble_eq_true rfl) rfl (pc1 := 137) rfl ?_
  obtain ⟨x6_60, e_61, h⟩ := ix_lt_ex h
  refine ix_iinc (i := 6) (j := 3) (v := x6_60) (L1 := [(6, .int x6_60), (5, .int x5_58), (0, .ref (K.2.2.1 + a0)), (4, .int x4)]) X (ix_tb_at tb_X1_lay 73 rfl) rfl (by rw [oi_1]; exact e_61.symm) (Nat.le_of_ble_eq_true rfl) rfl (pc1 := 140) rfl ?_
  refine ix_goto (tgt := 38) X (ix_tb_at tb_X1_lay 74 rfl) (by decide) ?_
  refine ix_sub (L1 := [(0, .ref (K.2.2.1 + a0)), (4, .int x4), (5, .int x5_58), (6, .int x6_60)]) [2, 3, 1, 0] rfl ?_
  exact hrec38 x5_58 x6_60 d h
set_option maxRecDepth 20000 in
theorem tb_X1_lay_38 {l : Launch} {p : Program} {e : Env} {s : State} {m : MethodId} {args : Array Value} {below : List Frame} {meth : Method} {c : Code} {K : ix_Cx} (hKp : ix_Kp K) {n : Nat} {z : ix_Z} (X : ix_X p s m args c K cX1_lay RX1 8) (hr : meth.sig.returnType = (none : Option Jvm.ClassFile.FieldType)) (hlk : meth.locks = false)  {a0 : Nat} {x4 : Int32} {rec38 : Int32 → Int32 → ix_D2 → Option (ix_D2)} {d1 : ix_D2} (hrec38 : ∀ (x5 : Int32) (x6 : Int32) (d : ix_D2), rec38 x5 x6 d = some d1 → ix_G p l e (ix_rm 2 50 0 0) s m args below meth c (MQ below (ix_Post K none (ix_w z d1)) args s 0 0 (ix_A K)) K 8 0 0 38 [(0, .ref (K.2.2.1 + a0)), (4, .int x4), (5, .int x5), (6, .int x6)] [] (ix_w z d)) {x5 : Int32} {x6 : Int32} {d : ix_D2} (h : b_X1_lay_38 n z  a0 x4 rec38 x5 x6 d = some d1) : ix_G p l e (ix_rm 2 50 0 0) s m args below meth c (MQ below (ix_Post K none (ix_w z d1)) args s 0 0 (ix_A K)) K 8 0 0 38 [(0, .ref (K.2.2.1 + a0)), (4, .int x4), (5, .int x5), (6, .int x6)] [] (ix_w z d) := by
  unfold b_X1_lay_38 at h
  refine ix_iload (i := 6) (j := 3) X (ix_tb_at tb_X1_lay 20 rfl) rfl (pc1 := 40) rfl ?_
  refine ix_aload_n (i := 0) (j := 0) X (ix_tb_at tb_X1_lay 21 rfl) rfl rfl (pc1 := 41) rfl ?_
  obtain ⟨k_16, h⟩ := ix_ck_some h
  obtain ⟨b_17, q_18, h⟩ := ix_bd1_ex h
  refine iz_getR X fl_RX1_16 k_16 q_18 (ix_tb_at tb_X1_lay 22 rfl) (pc1 := 44) rfl ?_
  obtain ⟨k_19, h⟩ := ix_ck_some h
  obtain ⟨b_20, q_21, h⟩ := ix_bd1_ex h
  refine iz_getR X fl_RX1_85 k_19 q_21 (ix_tb_at tb_X1_lay 23 rfl) (pc1 := 47) rfl ?_
  refine ix_iload (i := 4) (j := 1) X (ix_tb_at tb_X1_lay 24 rfl) rfl (pc1 := 49) rfl ?_
  refine ix_iconst (v := 1) X (ix_tb_at tb_X1_lay 25 rfl) (by decide) (pc1 := 50) rfl ?_
  refine ix_iadd X (ix_tb_at tb_X1_lay 26 rfl) (pc1 := 51) rfl ?_
  obtain ⟨k_22, h⟩ := ix_ck_some h
  refine iz_iald X k_22 (ix_tb_at tb_X1_lay 27 rfl) (pc1 := 52) rfl ?_
  refine ix_icmp_ge (tgt := 143) X (ix_tb_at tb_X1_lay 28 rfl) (by decide) (pc1 := 55) rfl (fun q_23 => ?_) (fun q_23 => ?_)
  · have h := ix_ift q_23 h
    refine ix_aload_n (i := 0) (j := 0) X (ix_tb_at tb_X1_lay 75 rfl) rfl rfl (pc1 := 144) rfl ?_
    obtain ⟨b_24, q_25, h⟩ := ix_bd1_ex h
    refine iz_getR X fl_RX1_30 k_16 q_25 (ix_tb_at tb_X1_lay 76 rfl) (pc1 := 147) rfl ?_
    refine ix_iload (i := 4) (j := 1) X (ix_tb_at tb_X1_lay 77 rfl) rfl (pc1 := 149) rfl ?_
    refine ix_iload (i := 5) (j := 2) X (ix_tb_at tb_X1_lay 78 rfl) rfl (pc1 := 151) rfl ?_
    obtain ⟨k_26, h⟩ := ix_ck_some h
    obtain ⟨d_27, e_28, h⟩ := ix_lt_ex h
    refine iz_iast X k_26 (ix_tb_at tb_X1_lay 79 rfl) e_28 (pc1 := 152) rfl ?_
    refine ix_aload_n (i := 0) (j := 0) X (ix_tb_at tb_X1_lay 80 rfl) rfl rfl (pc1 := 153) rfl ?_
    refine ix_iload (i := 4) (j := 1) X (ix_tb_at tb_X1_lay 81 rfl) rfl (pc1 := 155) rfl ?_
    obtain ⟨d_29, h_30, h⟩ := ix_bd1_ex h
    refine ix_callV (As := [.int x4]) (rest := []) (ci := 1) (T := TX1) (nf := 17) X mf_X1_sort mi_X1_sort ms_X1_sort rfl (Nat.le_of_ble_eq_true rfl) ml_RX1_102 ⟨Nat.le_of_ble_eq_true rfl, Nat.le_of_ble_eq_true rfl⟩ ⟨Nat.le_of_ble_eq_true rfl, Nat.le_of_ble_eq_true rfl⟩ rfl (Nat.le_of_ble_eq_true rfl) (ix_tb_at tb_X1_lay 82 rfl) ⟨k_16.1, List.mem_singleton.mp k_16.2⟩ (c_X1_sort hKp h_30) rfl (pc1 := 158) rfl ?_
    exact ix_vret X hr hlk (ix_r1 (g := ix_w z) h) (ix_tb_at tb_X1_lay 83 rfl)
  · have h := ix_iff q_23 h
    refine ix_aload_n (i := 0) (j := 0) X (ix_tb_at tb_X1_lay 29 rfl) rfl rfl (pc1 := 56) rfl ?_
    refine iz_getR X fl_RX1_16 k_16 q_18 (ix_tb_at tb_X1_lay 30 rfl) (pc1 := 59) rfl ?_
    obtain ⟨b_31, q_32, h⟩ := ix_bd1_ex h
    refine iz_getR X fl_RX1_82 k_19 q_32 (ix_tb_at tb_X1_lay 31 rfl) (pc1 := 62) rfl ?_
    refine ix_iload (i := 6) (j := 3) X (ix_tb_at tb_X1_lay 32 rfl) rfl (pc1 := 64) rfl ?_
    obtain ⟨k_33, h⟩ := ix_ck_some h
    refine iz_iald X k_33 (ix_tb_at tb_X1_lay 33 rfl) (pc1 := 65) rfl ?_
    obtain ⟨x7_34, e_35, h⟩ := ix_lt_ex h
    refine ix_nmi e_35 ?_
    refine ix_istore (i := 7) (L1 := [(7, .int x7_34), (0, .ref (K.2.2.1 + a0)), (4, .int x4), (5, .int x5), (6, .int x6)]) X (ix_tb_at tb_X1_lay 34 rfl) (Nat.le_of_ble_eq_true rfl) rfl (pc1 := 67) rfl ?_
    refine ix_aload_n (i := 0) (j := 1) X (ix_tb_at tb_X1_lay 35 rfl) rfl rfl (pc1 := 68) rfl ?_
    obtain ⟨b_36, q_37, h⟩ := ix_bd1_ex h
    refine iz_getR X fl_RX1_27 k_16 q_37 (ix_tb_at tb_X1_lay 36 rfl) (pc1 := 71) rfl ?_
    refine ix_iload (i := 6) (j := 4) X (ix_tb_at tb_X1_lay 37 rfl) rfl (pc1 := 73) rfl ?_
    refine ix_iload (i := 4) (j := 2) X (ix_tb_at tb_X1_lay 38 rfl) rfl (pc1 := 75) rfl ?_
    obtain ⟨k_38, h⟩ := ix_ck_some h
    obtain ⟨d_39, e_40, h⟩ := ix_lt_ex h
    refine iz_iast X k_38 (ix_tb_at tb_X1_lay 39 rfl) e_40 (pc1 := 76) rfl ?_
    refine ix_aload_n (i := 0) (j := 1) X (ix_tb_at tb_X1_lay 40 rfl) rfl rfl (pc1 := 77) rfl ?_
    obtain ⟨b_41, q_42, h⟩ := ix_bd1_ex h
    refine iz_getR X fl_RX1_24 k_16 q_42 (ix_tb_at tb_X1_lay 41 rfl) (pc1 := 80) rfl ?_
    refine ix_iload (i := 6) (j := 4) X (ix_tb_at tb_X1_lay 42 rfl) rfl (pc1 := 82) rfl ?_
    refine ix_aload_n (i := 0) (j := 1) X (ix_tb_at tb_X1_lay 43 rfl) rfl rfl (pc1 := 83) rfl ?_
    obtain ⟨b_43, q_44, h⟩ := ix_bd1_ex h
    refine iz_getR X fl_RX1_20 k_16 q_44 (ix_tb_at tb_X1_lay 44 rfl) (pc1 := 86) rfl ?_
    refine ix_iload (i := 7) (j := 0) X (ix_tb_at tb_X1_lay 45 rfl) rfl (pc1 := 88) rfl ?_
    refine ix_sipush (v := 300) X (ix_tb_at tb_X1_lay 46 rfl) (by decide) (pc1 := 91) rfl ?_
    refine ix_iadd X (ix_tb_at tb_X1_lay 47 rfl) (pc1 := 92) rfl ?_
    obtain ⟨k_45, h⟩ := ix_ck_some h
    refine iz_iald X k_45 (ix_tb_at tb_X1_lay 48 rfl) (pc1 := 93) rfl ?_
    obtain ⟨k_46, h⟩ := ix_ck_some h
    obtain ⟨d_47, e_48, h⟩ := ix_lt_ex h
    refine iz_iast X k_46 (ix_tb_at tb_X1_lay 49 rfl) e_48 (pc1 := 94) rfl ?_
    refine ix_aload_n (i := 0) (j := 1) X (ix_tb_at tb_X1_lay 50 rfl) rfl rfl (pc1 := 95) rfl ?_
    refine iz_getR X fl_RX1_20 k_16 q_44 (ix_tb_at tb_X1_lay 51 rfl) (pc1 := 98) rfl ?_
    refine ix_iload (i := 7) (j := 0) X (ix_tb_at tb_X1_lay 52 rfl) rfl (pc1 := 100) rfl ?_
    refine ix_sipush (v := 300) X (ix_tb_at tb_X1_lay 53 rfl) (by decide) (pc1 := 103) rfl ?_
    refine ix_iadd X (ix_tb_at tb_X1_lay 54 rfl) (pc1 := 104) rfl ?_
    refine ix_iload (i := 6) (j := 4) X (ix_tb_at tb_X1_lay 55 rfl) rfl (pc1 := 106) rfl ?_
    refine ix_iconst (v := 1) X (ix_tb_at tb_X1_lay 56 rfl) (by decide) (pc1 := 107) rfl ?_
    refine ix_iadd X (ix_tb_at tb_X1_lay 57 rfl) (pc1 := 108) rfl ?_
    obtain ⟨d_49, e_50, h⟩ := ix_lt_ex h
    refine iz_iast X k_45 (ix_tb_at tb_X1_lay 58 rfl) e_50 (pc1 := 109) rfl ?_
    refine ix_iload (i := 5) (j := 3) X (ix_tb_at tb_X1_lay 59 rfl) rfl (pc1 := 111) rfl ?_
    refine ix_aload_n (i := 0) (j := 1) X (ix_tb_at tb_X1_lay 60 rfl) rfl rfl (pc1 := 112) rfl ?_
    refine ix_iload (i := 7) (j := 0) X (ix_tb_at tb_X1_lay 61 rfl) rfl (pc1 := 114) rfl ?_
    obtain ⟨r_53, d_51, h_52, h⟩ := ix_bd2_ex h
    refine ix_callV (As := [.int x7_34]) (rest := [.int x5]) (ci := 1) (T := TX1) (nf := 17) X mf_X1_valueOf mi_X1_valueOf ms_X1_valueOf rfl (Nat.le_of_ble_eq_true rfl) ml_RX1_78 ⟨Nat.le_of_ble_eq_true rfl, Nat.le_of_ble_eq_true rfl⟩ ⟨Nat.le_of_ble_eq_true rfl, Nat.le_of_ble_eq_true rfl⟩ rfl (Nat.le_of_ble_eq_true rfl) (ix_tb_at tb_X1_lay 62 rfl) ⟨k_16.1, List.mem_singleton.mp k_16.2⟩ (c_X1_valueOf hKp h_52) rfl (pc1 := 117) rfl ?_
    refine ix_if_le (tgt := 126) X (ix_tb_at tb_X1_lay 63 rfl) (by decide) (pc1 := 120) rfl (fun q_54 => ?_) (fun q_54 => ?_)
    · have h := ix_ift q_54 h
      refine ix_aload_n (i := 0) (j := 1) X (ix_tb_at tb_X1_lay 66 rfl) rfl rfl (pc1 := 127) rfl ?_
      refine ix_iload (i := 7) (j := 0) X (ix_tb_at tb_X1_lay 67 rfl) rfl (pc1 := 129) rfl ?_
      obtain ⟨r_57, d_55, h_56, h⟩ := ix_bd2_ex h
      refine ix_callV (As := [.int x7_34]) (rest := [.int x5]) (ci := 1) (T := TX1) (nf := 17) X mf_X1_valueOf mi_X1_valueOf ms_X1_valueOf rfl (Nat.le_of_ble_eq_true rfl) ml_RX1_78 ⟨Nat.le_of_ble_eq_true rfl, Nat.le_of_ble_eq_true rfl⟩ ⟨Nat.le_of_ble_eq_true rfl, Nat.le_of_ble_eq_true rfl⟩ rfl (Nat.le_of_ble_eq_true rfl) (ix_tb_at tb_X1_lay 68 rfl) ⟨k_16.1, List.mem_singleton.mp k_16.2⟩ (c_X1_valueOf hKp h_56) rfl (pc1 := 132) rfl ?_
      refine ix_iconst (v := 1) X (ix_tb_at tb_X1_lay 69 rfl) (by decide) (pc1 := 133) rfl ?_
      refine ix_iadd X (ix_tb_at tb_X1_lay 70 rfl) (pc1 := 134) rfl ?_
      refine ix_sub (L1 := [(0, .ref (K.2.2.1 + a0)), (4, .int x4), (6, .int x6)]) [1, 2, 4] rfl ?_
      exact t_X1_lay_134 hKp X hr hlk hrec38 h
    · have h := ix_iff q_54 h
      refine ix_sipush (v := 1000) X (ix_tb_at tb_X1_lay 64 rfl) (by decide) (pc1 := 123) rfl ?_
      refine ix_goto (tgt := 134) X (ix_tb_at tb_X1_lay 65 rfl) (by decide) ?_
      refine ix_sub (L1 := [(0, .ref (K.2.2.1 + a0)), (4, .int x4), (6, .int x6)]) [1, 2, 4] rfl ?_
      exact t_X1_lay_134 hKp X hr hlk hrec38 h
theorem t_X1_lay_38 {l : Launch} {p : Program} {e : Env} {s : State} {m : MethodId} {args : Array Value} {below : List Frame} {meth : Method} {c : Code} {K : ix_Cx} (hKp : ix_Kp K) {n : Nat} {z : ix_Z} (X : ix_X p s m args c K cX1_lay RX1 8) (hr : meth.sig.returnType = (none : Option Jvm.ClassFile.FieldType)) (hlk : meth.locks = false)  {a0 : Nat} {x4 : Int32} {d1 : ix_D2}  {x5 : Int32} {x6 : Int32} {d : ix_D2} (h : f_X1_lay_38 n z  a0 x4 x5 x6 d = some d1) : ix_G p l e (ix_rm 2 50 0 0) s m args below meth c (MQ below (ix_Post K none (ix_w z d1)) args s 0 0 (ix_A K)) K 8 0 0 38 [(0, .ref (K.2.2.1 + a0)), (4, .int x4), (5, .int x5), (6, .int x6)] [] (ix_w z d) := by
  have key : ∀ (f : Nat) (x5 : Int32) (x6 : Int32) (d : ix_D2), ix_fix (b_X1_lay_38 n z  a0 x4) (fun _ _ _ => none) f x5 x6 d = some d1 → ix_G p l e (ix_rm 2 50 0 0) s m args below meth c (MQ below (ix_Post K none (ix_w z d1)) args s 0 0 (ix_A K)) K 8 0 0 38 [(0, .ref (K.2.2.1 + a0)), (4, .int x4), (5, .int x5), (6, .int x6)] [] (ix_w z d) := by
    intro f
    induction f with
    | zero =>
      intro x5 x6 d h
      have h : (none : Option (ix_D2)) = some d1 := h
      cases h
    | succ f ih =>
      intro x5 x6 d h
      exact tb_X1_lay_38 hKp X hr hlk (rec38 := ix_fix (b_X1_lay_38 n z  a0 x4) (fun _ _ _ => none) f)  ih h
  exact key n x5 x6 d h
set_option maxRecDepth 20000 in
theorem c_X1_lay {l : Launch} {K : ix_Cx} (hKp : ix_Kp K) {n : Nat} {z : ix_Z} {a0 : Nat} {a1 : Nat} {x2 : Int32} {x3 : Int32} {d : ix_D2} {d1 : ix_D2} (h : f_X1_lay n z a0 a1 x2 x3 d = some d1) : ix_M l K yX1_lay cX1_lay 8 (none : Option Jvm.ClassFile.FieldType) 2 50 0 0 [.ref (K.2.2.1 + a0), .ref (K.2.2.1 + a1), .int x2, .int x3] (ix_w z d) none (ix_w z d1) := by
  refine ix_met mf_X1_lay hKp (Nat.le_of_ble_eq_true rfl) ?_
  intro p e s m args below meth c hr hlk hnm X
  have X : ix_X p s m args c K cX1_lay RX1 8 := X
  show ix_G p l e (ix_rm 2 50 0 0) s m args below meth c (MQ below (ix_Post K none (ix_w z d1)) args s 0 0 (ix_A K)) K 8 0 0 0 [(0, .ref (K.2.2.1 + a0)), (1, .ref (K.2.2.1 + a1)), (2, .int x2), (3, .int x3)] [] (ix_w z d)
  unfold f_X1_lay at h
  refine ix_aload_n (i := 0) (j := 0) X (ix_tb_at tb_X1_lay 0 rfl) rfl rfl (pc1 := 1) rfl ?_
  obtain ⟨k_1, h⟩ := ix_ck_some h
  obtain ⟨b_2, q_3, h⟩ := ix_bd1_ex h
  refine iz_getR X fl_RX1_16 k_1 q_3 (ix_tb_at tb_X1_lay 1 rfl) (pc1 := 4) rfl ?_
  obtain ⟨k_4, h⟩ := ix_ck_some h
  refine iz_getI X fl_RX1_95 k_4 (ix_tb_at tb_X1_lay 2 rfl) (pc1 := 7) rfl ?_
  obtain ⟨x4_5, e_6, h⟩ := ix_lt_ex h
  refine ix_nmi e_6 ?_
  refine ix_istore (i := 4) (L1 := [(4, .int x4_5), (0, .ref (K.2.2.1 + a0)), (1, .ref (K.2.2.1 + a1)), (2, .int x2), (3, .int x3)]) X (ix_tb_at tb_X1_lay 3 rfl) (Nat.le_of_ble_eq_true rfl) rfl (pc1 := 9) rfl ?_
  refine ix_aload_n (i := 0) (j := 1) X (ix_tb_at tb_X1_lay 4 rfl) rfl rfl (pc1 := 10) rfl ?_
  refine iz_getR X fl_RX1_16 k_1 q_3 (ix_tb_at tb_X1_lay 5 rfl) (pc1 := 13) rfl ?_
  refine ix_aload_n (i := 1) (j := 2) X (ix_tb_at tb_X1_lay 6 rfl) rfl rfl (pc1 := 14) rfl ?_
  refine ix_iload_n (i := 2) (j := 3) X (ix_tb_at tb_X1_lay 7 rfl) rfl rfl (pc1 := 15) rfl ?_
  refine ix_iload_n (i := 3) (j := 4) X (ix_tb_at tb_X1_lay 8 rfl) rfl rfl (pc1 := 16) rfl ?_
  obtain ⟨r_9, d_7, h_8, h⟩ := ix_bd2_ex h
  refine ix_callV (As := [.ref (K.2.2.1 + a1), .int x2, .int x3]) (rest := []) (ci := 7) (T := TX7) (nf := 3) X mf_X7_push mi_X7_push ms_X7_push rfl (Nat.le_of_ble_eq_true rfl) ml_RX1_98 ⟨Nat.le_of_ble_eq_true rfl, Nat.le_of_ble_eq_true rfl⟩ ⟨Nat.le_of_ble_eq_true rfl, Nat.le_of_ble_eq_true rfl⟩ rfl (Nat.le_of_ble_eq_true rfl) (ix_tb_at tb_X1_lay 9 rfl) ⟨k_4.1, List.mem_singleton.mp k_4.2⟩ (c_X7_push hKp h_8) rfl (pc1 := 19) rfl ?_
  refine ix_if_ne (tgt := 23) X (ix_tb_at tb_X1_lay 10 rfl) (by decide) (pc1 := 22) rfl (fun q_10 => ?_) (fun q_10 => ?_)
  · have h := ix_iff q_10 h
    refine ix_iconst (v := 0) X (ix_tb_at tb_X1_lay 12 rfl) (by decide) (pc1 := 24) rfl ?_
    refine ix_istore (i := 5) (L1 := [(5, .int 0), (4, .int x4_5), (0, .ref (K.2.2.1 + a0)), (1, .ref (K.2.2.1 + a1)), (2, .int x2), (3, .int x3)]) X (ix_tb_at tb_X1_lay 13 rfl) (Nat.le_of_ble_eq_true rfl) rfl (pc1 := 26) rfl ?_
    refine ix_aload_n (i := 0) (j := 2) X (ix_tb_at tb_X1_lay 14 rfl) rfl rfl (pc1 := 27) rfl ?_
    refine iz_getR X fl_RX1_16 k_1 q_3 (ix_tb_at tb_X1_lay 15 rfl) (pc1 := 30) rfl ?_
    obtain ⟨b_11, q_12, h⟩ := ix_bd1_ex h
    refine iz_getR X fl_RX1_85 k_4 q_12 (ix_tb_at tb_X1_lay 16 rfl) (pc1 := 33) rfl ?_
    refine ix_iload (i := 4) (j := 1) X (ix_tb_at tb_X1_lay 17 rfl) rfl (pc1 := 35) rfl ?_
    obtain ⟨k_13, h⟩ := ix_ck_some h
    refine iz_iald X k_13 (ix_tb_at tb_X1_lay 18 rfl) (pc1 := 36) rfl ?_
    obtain ⟨x6_14, e_15, h⟩ := ix_lt_ex h
    refine ix_nmi e_15 ?_
    refine ix_istore (i := 6) (L1 := [(6, .int x6_14), (5, .int 0), (4, .int x4_5), (0, .ref (K.2.2.1 + a0)), (1, .ref (K.2.2.1 + a1)), (2, .int x2), (3, .int x3)]) X (ix_tb_at tb_X1_lay 19 rfl) (Nat.le_of_ble_eq_true rfl) rfl (pc1 := 38) rfl ?_
    refine ix_sub (L1 := [(0, .ref (K.2.2.1 + a0)), (4, .int x4_5), (5, .int 0), (6, .int x6_14)]) [3, 2, 1, 0] rfl ?_
    exact t_X1_lay_38 hKp X hr hlk  h
  · have h := ix_ift q_10 h
    exact ix_vret X hr hlk (ix_r1 (g := ix_w z) h) (ix_tb_at tb_X1_lay 11 rfl)
def tab_X1_layRow : List (Nat × Instr × Nat) := [(0, .aload_n 0, 1), (1, .aload_n 1, 1), (2, .getfield 82, 3), (5, .aload_n 1, 1), (6, .getfield 85, 3), (9, .iload_n 2, 1), (10, .iaload, 1), (11, .aload_n 1, 1), (12, .iload_n 2, 1), (13, .invokevirtual 88, 3), (16, .invokevirtual 91, 3), (19, .return_, 1)]
theorem tb_X1_layRow : ix_tab cX1_layRow tab_X1_layRow := by
  unfold ix_tab
  decide +kernel
noncomputable def f_X1_layRow (n : Nat) (z : ix_Z) (a0 : Nat) (a1 : Nat) (x2 : Int32) (d : ix_D2) : Option (ix_D2) :=
  ix_ck (ix_ok z [7] a1) (ix_bd1 (z.1 a1 0) (fun b_2 => ix_bd1 (z.1 a1 1) (fun b_4 => ix_ck (ix_ix z 20 b_4 x2) (ix_bd2 (f_X7_size n z a1 x2 d) (fun r_9 d_7 => ix_ck (ix_ok z [1] a0) (ix_bd1 (f_X1_lay n z a0 b_2 (d.1 b_4 (ix_n x2)) r_9 d_7) (fun d_10 => some d_10)))))))
set_option maxRecDepth 20000 in
theorem c_X1_layRow {l : Launch} {K : ix_Cx} (hKp : ix_Kp K) {n : Nat} {z : ix_Z} {a0 : Nat} {a1 : Nat} {x2 : Int32} {d : ix_D2} {d1 : ix_D2} (h : f_X1_layRow n z a0 a1 x2 d = some d1) : ix_M l K yX1_layRow cX1_layRow 3 (none : Option Jvm.ClassFile.FieldType) 3 77 0 0 [.ref (K.2.2.1 + a0), .ref (K.2.2.1 + a1), .int x2] (ix_w z d) none (ix_w z d1) := by
  refine ix_met mf_X1_layRow hKp (Nat.le_of_ble_eq_true rfl) ?_
  intro p e s m args below meth c hr hlk hnm X
  have X : ix_X p s m args c K cX1_layRow RX1 3 := X
  show ix_G p l e (ix_rm 3 77 0 0) s m args below meth c (MQ below (ix_Post K none (ix_w z d1)) args s 0 0 (ix_A K)) K 3 0 0 0 [(0, .ref (K.2.2.1 + a0)), (1, .ref (K.2.2.1 + a1)), (2, .int x2)] [] (ix_w z d)
  unfold f_X1_layRow at h
  refine ix_aload_n (i := 0) (j := 0) X (ix_tb_at tb_X1_layRow 0 rfl) rfl rfl (pc1 := 1) rfl ?_
  refine ix_aload_n (i := 1) (j := 1) X (ix_tb_at tb_X1_layRow 1 rfl) rfl rfl (pc1 := 2) rfl ?_
  obtain ⟨k_1, h⟩ := ix_ck_some h
  obtain ⟨b_2, q_3, h⟩ := ix_bd1_ex h
  refine iz_getR X fl_RX1_82 k_1 q_3 (ix_tb_at tb_X1_layRow 2 rfl) (pc1 := 5) rfl ?_
  refine ix_aload_n (i := 1) (j := 1) X (ix_tb_at tb_X1_layRow 3 rfl) rfl rfl (pc1 := 6) rfl ?_
  obtain ⟨b_4, q_5, h⟩ := ix_bd1_ex h
  refine iz_getR X fl_RX1_85 k_1 q_5 (ix_tb_at tb_X1_layRow 4 rfl) (pc1 := 9) rfl ?_
  refine ix_iload_n (i := 2) (j := 2) X (ix_tb_at tb_X1_layRow 5 rfl) rfl rfl (pc1 := 10) rfl ?_
  obtain ⟨k_6, h⟩ := ix_ck_some h
  refine iz_iald X k_6 (ix_tb_at tb_X1_layRow 6 rfl) (pc1 := 11) rfl ?_
  refine ix_aload_n (i := 1) (j := 1) X (ix_tb_at tb_X1_layRow 7 rfl) rfl rfl (pc1 := 12) rfl ?_
  refine ix_iload_n (i := 2) (j := 2) X (ix_tb_at tb_X1_layRow 8 rfl) rfl rfl (pc1 := 13) rfl ?_
  obtain ⟨r_9, d_7, h_8, h⟩ := ix_bd2_ex h
  refine ix_callV (As := [.int x2]) (rest := [.int (d.1 b_4 (ix_n x2)), .ref (K.2.2.1 + b_2), .ref (K.2.2.1 + a0)]) (ci := 7) (T := TX7) (nf := 3) X mf_X7_size mi_X7_size ms_X7_size rfl (Nat.le_of_ble_eq_true rfl) ml_RX1_88 ⟨Nat.le_of_ble_eq_true rfl, Nat.le_of_ble_eq_true rfl⟩ ⟨Nat.le_of_ble_eq_true rfl, Nat.le_of_ble_eq_true rfl⟩ rfl (Nat.le_of_ble_eq_true rfl) (ix_tb_at tb_X1_layRow 9 rfl) ⟨k_1.1, List.mem_singleton.mp k_1.2⟩ (c_X7_size hKp h_8) rfl (pc1 := 16) rfl ?_
  obtain ⟨k_12, h⟩ := ix_ck_some h
  obtain ⟨d_10, h_11, h⟩ := ix_bd1_ex h
  refine ix_callV (As := [.ref (K.2.2.1 + b_2), .int (d.1 b_4 (ix_n x2)), .int r_9]) (rest := []) (ci := 1) (T := TX1) (nf := 17) X mf_X1_lay mi_X1_lay ms_X1_lay rfl (Nat.le_of_ble_eq_true rfl) ml_RX1_91 ⟨Nat.le_of_ble_eq_true rfl, Nat.le_of_ble_eq_true rfl⟩ ⟨Nat.le_of_ble_eq_true rfl, Nat.le_of_ble_eq_true rfl⟩ rfl (Nat.le_of_ble_eq_true rfl) (ix_tb_at tb_X1_layRow 10 rfl) ⟨k_12.1, List.mem_singleton.mp k_12.2⟩ (c_X1_lay hKp h_11) rfl (pc1 := 19) rfl ?_
  exact ix_vret X hr hlk (ix_r1 (g := ix_w z) h) (ix_tb_at tb_X1_layRow 11 rfl)
def tab_X1_bury : List (Nat × Instr × Nat) := [(0, .aload_n 0, 1), (1, .getfield 30, 3), (4, .iload_n 1, 1), (5, .dup2, 1), (6, .iaload, 1), (7, .ldc 105, 2), (9, .iadd, 1), (10, .iastore, 1), (11, .aload_n 0, 1), (12, .iload_n 1, 1), (13, .invokevirtual 102, 3), (16, .return_, 1)]
theorem tb_X1_bury : ix_tab cX1_bury tab_X1_bury := by
  unfold ix_tab
  decide +kernel
noncomputable def f_X1_bury (n : Nat) (z : ix_Z) (a0 : Nat) (x1 : Int32) (d : ix_D2) : Option (ix_D2) :=
  ix_ck (ix_ok z [1] a0) (ix_bd1 (z.1 a0 4) (fun b_2 => ix_ck (ix_ix z 20 b_2 x1) (ix_lt (ix_di d b_2 (ix_n x1) ((d.1 b_2 (ix_n x1)) + 1000000)) (fun d_5 => ix_bd1 (f_X1_sort n z a0 x1 d_5) (fun d_7 => some d_7)))))
set_option maxRecDepth 20000 in
theorem c_X1_bury {l : Launch} {K : ix_Cx} (hKp : ix_Kp K) {n : Nat} {z : ix_Z} {a0 : Nat} {x1 : Int32} {d : ix_D2} {d1 : ix_D2} (h : f_X1_bury n z a0 x1 d = some d1) : ix_M l K yX1_bury cX1_bury 2 (none : Option Jvm.ClassFile.FieldType) 1 24 0 0 [.ref (K.2.2.1 + a0), .int x1] (ix_w z d) none (ix_w z d1) := by
  refine ix_met mf_X1_bury hKp (Nat.le_of_ble_eq_true rfl) ?_
  intro p e s m args below meth c hr hlk hnm X
  have X : ix_X p s m args c K cX1_bury RX1 2 := X
  show ix_G p l e (ix_rm 1 24 0 0) s m args below meth c (MQ below (ix_Post K none (ix_w z d1)) args s 0 0 (ix_A K)) K 2 0 0 0 [(0, .ref (K.2.2.1 + a0)), (1, .int x1)] [] (ix_w z d)
  unfold f_X1_bury at h
  refine ix_aload_n (i := 0) (j := 0) X (ix_tb_at tb_X1_bury 0 rfl) rfl rfl (pc1 := 1) rfl ?_
  obtain ⟨k_1, h⟩ := ix_ck_some h
  obtain ⟨b_2, q_3, h⟩ := ix_bd1_ex h
  refine iz_getR X fl_RX1_30 k_1 q_3 (ix_tb_at tb_X1_bury 1 rfl) (pc1 := 4) rfl ?_
  refine ix_iload_n (i := 1) (j := 1) X (ix_tb_at tb_X1_bury 2 rfl) rfl rfl (pc1 := 5) rfl ?_
  refine ix_dup2 X (ix_tb_at tb_X1_bury 3 rfl) rfl rfl (pc1 := 6) rfl ?_
  obtain ⟨k_4, h⟩ := ix_ck_some h
  refine iz_iald X k_4 (ix_tb_at tb_X1_bury 4 rfl) (pc1 := 7) rfl ?_
  refine ix_ldc (pl := 1314) (v := 1000000) X (ix_tb_at tb_X1_bury 5 rfl) (by decide +kernel) (pc1 := 9) rfl ?_
  refine ix_iadd X (ix_tb_at tb_X1_bury 6 rfl) (pc1 := 10) rfl ?_
  obtain ⟨d_5, e_6, h⟩ := ix_lt_ex h
  refine iz_iast X k_4 (ix_tb_at tb_X1_bury 7 rfl) e_6 (pc1 := 11) rfl ?_
  refine ix_aload_n (i := 0) (j := 0) X (ix_tb_at tb_X1_bury 8 rfl) rfl rfl (pc1 := 12) rfl ?_
  refine ix_iload_n (i := 1) (j := 1) X (ix_tb_at tb_X1_bury 9 rfl) rfl rfl (pc1 := 13) rfl ?_
  obtain ⟨d_7, h_8, h⟩ := ix_bd1_ex h
  refine ix_callV (As := [.int x1]) (rest := []) (ci := 1) (T := TX1) (nf := 17) X mf_X1_sort mi_X1_sort ms_X1_sort rfl (Nat.le_of_ble_eq_true rfl) ml_RX1_102 ⟨Nat.le_of_ble_eq_true rfl, Nat.le_of_ble_eq_true rfl⟩ ⟨Nat.le_of_ble_eq_true rfl, Nat.le_of_ble_eq_true rfl⟩ rfl (Nat.le_of_ble_eq_true rfl) (ix_tb_at tb_X1_bury 10 rfl) ⟨k_1.1, List.mem_singleton.mp k_1.2⟩ (c_X1_sort hKp h_8) rfl (pc1 := 16) rfl ?_
  exact ix_vret X hr hlk (ix_r1 (g := ix_w z) h) (ix_tb_at tb_X1_bury 11 rfl)
def tab_X1_recount : List (Nat × Instr × Nat) := [(0, .aload_n 0, 1), (1, .getfield 20, 3), (4, .iload_n 1, 1), (5, .sipush 300, 3), (8, .iadd, 1), (9, .iaload, 1), (10, .istore_n 3, 1), (11, .iconst 0, 1), (12, .istore 4, 2), (14, .iload_n 3, 1), (15, .ifCond .le 78, 3), (18, .iload 4, 2), (20, .aload_n 0, 1), (21, .getfield 27, 3), (24, .arraylength, 1), (25, .if_icmp .ge 68, 3), (28, .aload_n 0, 1), (29, .getfield 27, 3), (32, .iload_n 3, 1), (33, .iconst 1, 1), (34, .isub, 1), (35, .iaload, 1), (36, .istore 5, 2), (38, .aload_n 0, 1), (39, .getfield 30, 3), (42, .iload 5, 2), (44, .iaload, 1), (45, .istore 6, 2), (47, .aload_n 0, 1), (48, .getfield 30, 3), (51, .iload 5, 2), (53, .iload 6, 2), (55, .iload_n 2, 1), (56, .iadd, 1), (57, .iastore, 1), (58, .iload 6, 2), (60, .iconst 1, 1), (61, .if_icmp .le 11, 3), (64, .iload 6, 2), (66, .iload_n 2, 1), (67, .iadd, 1), (68, .iconst 1, 1), (69, .if_icmp .gt 9, 3), (72, .aload_n 0, 1), (73, .iload 5, 2), (75, .invokevirtual 102, 3), (78, .aload_n 0, 1), (79, .getfield 24, 3), (82, .iload_n 3, 1), (83, .iconst 1, 1), (84, .isub, 1), (85, .iaload, 1), (86, .istore_n 3, 1), (87, .iinc 4 1, 3), (90, .goto (-76), 3), (93, .return_, 1)]
theorem tb_X1_recount : ix_tab cX1_recount tab_X1_recount := by
  unfold ix_tab
  decide +kernel
noncomputable def f_X1_recount_78 (n : Nat) (z : ix_Z) (rec14 : Int32 → Int32 → ix_D2 → Option (ix_D2)) (a0 : Nat) (x2 : Int32) (x3 : Int32) (x4 : Int32) (d : ix_D2) : Option (ix_D2) :=
  ix_ck (ix_ok z [1] a0) (ix_bd1 (z.1 a0 2) (fun b_28 => ix_ck (ix_ix z 20 b_28 (x3 - 1)) (ix_lt (d.1 b_28 (ix_n (x3 - 1))) (fun x3_31 => ix_lt (x4 + 1) (fun x4_33 => rec14 x3_31 x4_33 d)))))
noncomputable def f_X1_recount_72 (n : Nat) (z : ix_Z) (rec14 : Int32 → Int32 → ix_D2 → Option (ix_D2)) (a0 : Nat) (x2 : Int32) (x3 : Int32) (x4 : Int32) (x5 : Int32) (d : ix_D2) : Option (ix_D2) :=
  ix_ck (ix_ok z [1] a0) (ix_bd1 (f_X1_sort n z a0 x5 d) (fun d_24 => f_X1_recount_78 n z rec14 a0 x2 x3 x4 d_24))
noncomputable def b_X1_recount_14 (n : Nat) (z : ix_Z)  (a0 : Nat) (x2 : Int32) (rec14 : Int32 → Int32 → ix_D2 → Option (ix_D2)) (x3 : Int32) (x4 : Int32) (d : ix_D2) : Option (ix_D2) :=
  ix_if (x3 ≤ 0) (some d) (ix_ck (ix_ok z [1] a0) (ix_bd1 (z.1 a0 3) (fun b_9 => ix_ck (b_9 < z.2.2 ∧ 20 ≤ (z.2.1 b_9).1 ∧ (z.2.1 b_9).1 < 26) (ix_if (nI (z.2.1 b_9).2 ≤ x4) (some d) (ix_ck (ix_ix z 20 b_9 (x3 - 1)) (ix_lt (d.1 b_9 (ix_n (x3 - 1))) (fun x5_14 => ix_bd1 (z.1 a0 4) (fun b_16 => ix_ck (ix_ix z 20 b_16 x5_14) (ix_lt (d.1 b_16 (ix_n x5_14)) (fun x6_19 => ix_lt (ix_di d b_16 (ix_n x5_14) (x6_19 + x2)) (fun d_21 => ix_if (x6_19 ≤ 1) (f_X1_recount_72 n z rec14 a0 x2 x3 x4 x5_14 d_21) (ix_if (1 < x6_19 + x2) (f_X1_recount_78 n z rec14 a0 x2 x3 x4 d_21) (f_X1_recount_72 n z rec14 a0 x2 x3 x4 x5_14 d_21)))))))))))))
noncomputable def f_X1_recount_14 (n : Nat) (z : ix_Z)  (a0 : Nat) (x2 : Int32) (x3 : Int32) (x4 : Int32) (d : ix_D2) : Option (ix_D2) := ix_fix (b_X1_recount_14 n z  a0 x2) (fun _ _ _ => none) n x3 x4 d
noncomputable def f_X1_recount (n : Nat) (z : ix_Z) (a0 : Nat) (x1 : Int32) (x2 : Int32) (d : ix_D2) : Option (ix_D2) :=
  ix_ck (ix_ok z [1] a0) (ix_bd1 (z.1 a0 1) (fun b_2 => ix_ck (ix_ix z 20 b_2 (x1 + 300)) (ix_lt (d.1 b_2 (ix_n (x1 + 300))) (fun x3_5 => f_X1_recount_14 n z  a0 x2 x3_5 0 d))))
set_option maxRecDepth 20000 in
theorem t_X1_recount_78 {l : Launch} {p : Program} {e : Env} {s : State} {m : MethodId} {args : Array Value} {below : List Frame} {meth : Method} {c : Code} {K : ix_Cx} (hKp : ix_Kp K) {n : Nat} {z : ix_Z} (X : ix_X p s m args c K cX1_recount RX1 7) (hr : meth.sig.returnType = (none : Option Jvm.ClassFile.FieldType)) (hlk : meth.locks = false) {rec14 : Int32 → Int32 → ix_D2 → Option (ix_D2)} {a0 : Nat} {x2 : Int32} {x3 : Int32} {x4 : Int32} {d1 : ix_D2} (hrec14 : ∀ (x3 : Int32) (x4 : Int32) (d : ix_D2), rec14 x3 x4 d = some d1 → ix_G p l e (ix_rm 1 24 0 0) s m args below meth c (MQ below (ix_Post K none (ix_w z d1)) args s 0 0 (ix_A K)) K 7 0 0 14 [(0, .ref (K.2.2.1 + a0)), (2, .int x2), (3, .int x3), (4, .int x4)] [] (ix_w z d)) {d : ix_D2} (h : f_X1_recount_78 n z rec14 a0 x2 x3 x4 d = some d1) : ix_G p l e (ix_rm 1 24 0 0) s m args below meth c (MQ below (ix_Post K none (ix_w z d1)) args s 0 0 (ix_A K)) K 7 0 0 78 [(0, .ref (K.2.2.1 + a0)), (2, .int x2), (3, .int x3), (4, .int x4)] [] (ix_w z d) := by
  unfold f_X1_recount_78 at h
  refine ix_aload_n (i := 0) (j := 0) X (ix_tb_at tb_X1_recount 46 rfl) rfl rfl (pc1 := 79) rfl ?_
  obtain ⟨k_27, h⟩ := ix_ck_some h
  obtain ⟨b_28, q_29, h⟩ := ix_bd1_ex h
  refine iz_getR X fl_RX1_24 k_27 q_29 (ix_tb_at tb_X1_recount 47 rfl) (pc1 := 82) rfl ?_
  refine ix_iload_n (i := 3) (j := 2) X (ix_tb_at tb_X1_recount 48 rfl) rfl rfl (pc1 := 83) rfl ?_
  refine ix_iconst (v := 1) X (ix_tb_at tb_X1_recount 49 rfl) (by decide) (pc1 := 84) rfl ?_
  refine ix_isub X (ix_tb_at tb_X1_recount 50 rfl) (pc1 := 85) rfl ?_
  obtain ⟨k_30, h⟩ := ix_ck_some h
  refine iz_iald X k_30 (ix_tb_at tb_X1_recount 51 rfl) (pc1 := 86) rfl ?_
  obtain ⟨x3_31, e_32, h⟩ := ix_lt_ex h
  refine ix_nmi e_32 ?_
  refine ix_istore_n (i := 3) (L1 := [(3, .int x3_31), (0, .ref (K.2.2.1 + a0)), (2, .int x2), (4, .int x4)]) X (ix_tb_at tb_X1_recount 52 rfl) rfl (Nat.le_of_ble_eq_true rfl) rfl (pc1 := 87) rfl ?_
  obtain ⟨x4_33, e_34, h⟩ := ix_lt_ex h
  refine ix_iinc (i := 4) (j := 3) (v := x4_33) (L1 := [(4, .int x4_33), (3, .int x3_31), (0, .ref (K.2.2.1 + a0)), (2, .int x2)]) X (ix_tb_at tb_X1_recount 53 rfl) rfl (by rw [oi_1]; exact e_34.symm) (Nat.le_of_ble_eq_true rfl) rfl (pc1 := 90) rfl ?_
  refine ix_goto (tgt := 14) X (ix_tb_at tb_X1_recount 54 rfl) (by decide) ?_
  refine ix_sub (L1 := [(0, .ref (K.2.2.1 + a0)), (2, .int x2), (3, .int x3_31), (4, .int x4_33)]) [2, 3, 1, 0] rfl ?_
  exact hrec14 x3_31 x4_33 d h
set_option maxRecDepth 20000 in
theorem t_X1_recount_72 {l : Launch} {p : Program} {e : Env} {s : State} {m : MethodId} {args : Array Value} {below : List Frame} {meth : Method} {c : Code} {K : ix_Cx} (hKp : ix_Kp K) {n : Nat} {z : ix_Z} (X : ix_X p s m args c K cX1_recount RX1 7) (hr : meth.sig.returnType = (none : Option Jvm.ClassFile.FieldType)) (hlk : meth.locks = false) {rec14 : Int32 → Int32 → ix_D2 → Option (ix_D2)} {a0 : Nat} {x2 : Int32} {x3 : Int32} {x4 : Int32} {x5 : Int32} {d1 : ix_D2} (hrec14 : ∀ (x3 : Int32) (x4 : Int32) (d : ix_D2), rec14 x3 x4 d = some d1 → ix_G p l e (ix_rm 1 24 0 0) s m args below meth c (MQ below (ix_Post K none (ix_w z d1)) args s 0 0 (ix_A K)) K 7 0 0 14 [(0, .ref (K.2.2.1 + a0)), (2, .int x2), (3, .int x3), (4, .int x4)] [] (ix_w z d)) {d : ix_D2} (h : f_X1_recount_72 n z rec14 a0 x2 x3 x4 x5 d = some d1) : ix_G p l e (ix_rm 1 24 0 0) s m args below meth c (MQ below (ix_Post K none (ix_w z d1)) args s 0 0 (ix_A K)) K 7 0 0 72 [(0, .ref (K.2.2.1 + a0)), (2, .int x2), (3, .int x3), (4, .int x4), (5, .int x5)] [] (ix_w z d) := by
  unfold f_X1_recount_72 at h
  refine ix_aload_n (i := 0) (j := 0) X (ix_tb_at tb_X1_recount 43 rfl) rfl rfl (pc1 := 73) rfl ?_
  refine ix_iload (i := 5) (j := 4) X (ix_tb_at tb_X1_recount 44 rfl) rfl (pc1 := 75) rfl ?_
  obtain ⟨k_26, h⟩ := ix_ck_some h
  obtain ⟨d_24, h_25, h⟩ := ix_bd1_ex h
  refine ix_callV (As := [.int x5]) (rest := []) (ci := 1) (T := TX1) (nf := 17) X mf_X1_sort mi_X1_sort ms_X1_sort rfl (Nat.le_of_ble_eq_true rfl) ml_RX1_102 ⟨Nat.le_of_ble_eq_true rfl, Nat.le_of_ble_eq_true rfl⟩ ⟨Nat.le_of_ble_eq_true rfl, Nat.le_of_ble_eq_true rfl⟩ rfl (Nat.le_of_ble_eq_true rfl) (ix_tb_at tb_X1_recount 45 rfl) ⟨k_26.1, List.mem_singleton.mp k_26.2⟩ (c_X1_sort hKp h_25) rfl (pc1 := 78) rfl ?_
  refine ix_sub (L1 := [(0, .ref (K.2.2.1 + a0)), (2, .int x2), (3, .int x3), (4, .int x4)]) [0, 1, 2, 3] rfl ?_
  exact t_X1_recount_78 hKp X hr hlk hrec14 h
set_option maxRecDepth 20000 in
theorem tb_X1_recount_14 {l : Launch} {p : Program} {e : Env} {s : State} {m : MethodId} {args : Array Value} {below : List Frame} {meth : Method} {c : Code} {K : ix_Cx} (hKp : ix_Kp K) {n : Nat} {z : ix_Z} (X : ix_X p s m args c K cX1_recount RX1 7) (hr : meth.sig.returnType = (none : Option Jvm.ClassFile.FieldType)) (hlk : meth.locks = false)  {a0 : Nat} {x2 : Int32} {rec14 : Int32 → Int32 → ix_D2 → Option (ix_D2)} {d1 : ix_D2} (hrec14 : ∀ (x3 : Int32) (x4 : Int32) (d : ix_D2), rec14 x3 x4 d = some d1 → ix_G p l e (ix_rm 1 24 0 0) s m args below meth c (MQ below (ix_Post K none (ix_w z d1)) args s 0 0 (ix_A K)) K 7 0 0 14 [(0, .ref (K.2.2.1 + a0)), (2, .int x2), (3, .int x3), (4, .int x4)] [] (ix_w z d)) {x3 : Int32} {x4 : Int32} {d : ix_D2} (h : b_X1_recount_14 n z  a0 x2 rec14 x3 x4 d = some d1) : ix_G p l e (ix_rm 1 24 0 0) s m args below meth c (MQ below (ix_Post K none (ix_w z d1)) args s 0 0 (ix_A K)) K 7 0 0 14 [(0, .ref (K.2.2.1 + a0)), (2, .int x2), (3, .int x3), (4, .int x4)] [] (ix_w z d) := by
  unfold b_X1_recount_14 at h
  refine ix_iload_n (i := 3) (j := 2) X (ix_tb_at tb_X1_recount 9 rfl) rfl rfl (pc1 := 15) rfl ?_
  refine ix_if_le (tgt := 93) X (ix_tb_at tb_X1_recount 10 rfl) (by decide) (pc1 := 18) rfl (fun q_7 => ?_) (fun q_7 => ?_)
  · have h := ix_ift q_7 h
    exact ix_vret X hr hlk (ix_r1 (g := ix_w z) h) (ix_tb_at tb_X1_recount 55 rfl)
  · have h := ix_iff q_7 h
    refine ix_iload (i := 4) (j := 3) X (ix_tb_at tb_X1_recount 11 rfl) rfl (pc1 := 20) rfl ?_
    refine ix_aload_n (i := 0) (j := 0) X (ix_tb_at tb_X1_recount 12 rfl) rfl rfl (pc1 := 21) rfl ?_
    obtain ⟨k_8, h⟩ := ix_ck_some h
    obtain ⟨b_9, q_10, h⟩ := ix_bd1_ex h
    refine iz_getR X fl_RX1_27 k_8 q_10 (ix_tb_at tb_X1_recount 13 rfl) (pc1 := 24) rfl ?_
    obtain ⟨k_11, h⟩ := ix_ck_some h
    refine iz_alen X k_11 (ix_tb_at tb_X1_recount 14 rfl) (pc1 := 25) rfl ?_
    refine ix_icmp_ge (tgt := 93) X (ix_tb_at tb_X1_recount 15 rfl) (by decide) (pc1 := 28) rfl (fun q_12 => ?_) (fun q_12 => ?_)
    · have h := ix_ift q_12 h
      exact ix_vret X hr hlk (ix_r1 (g := ix_w z) h) (ix_tb_at tb_X1_recount 55 rfl)
    · have h := ix_iff q_12 h
      refine ix_aload_n (i := 0) (j := 0) X (ix_tb_at tb_X1_recount 16 rfl) rfl rfl (pc1 := 29) rfl ?_
      refine iz_getR X fl_RX1_27 k_8 q_10 (ix_tb_at tb_X1_recount 17 rfl) (pc1 := 32) rfl ?_
      refine ix_iload_n (i := 3) (j := 2) X (ix_tb_at tb_X1_recount 18 rfl) rfl rfl (pc1 := 33) rfl ?_
      refine ix_iconst (v := 1) X (ix_tb_at tb_X1_recount 19 rfl) (by decide) (pc1 := 34) rfl ?_
      refine ix_isub X (ix_tb_at tb_X1_recount 20 rfl) (pc1 := 35) rfl ?_
      obtain ⟨k_13, h⟩ := ix_ck_some h
      refine iz_iald X k_13 (ix_tb_at tb_X1_recount 21 rfl) (pc1 := 36) rfl ?_
      obtain ⟨x5_14, e_15, h⟩ := ix_lt_ex h
      refine ix_nmi e_15 ?_
      refine ix_istore (i := 5) (L1 := [(5, .int x5_14), (0, .ref (K.2.2.1 + a0)), (2, .int x2), (3, .int x3), (4, .int x4)]) X (ix_tb_at tb_X1_recount 22 rfl) (Nat.le_of_ble_eq_true rfl) rfl (pc1 := 38) rfl ?_
      refine ix_aload_n (i := 0) (j := 1) X (ix_tb_at tb_X1_recount 23 rfl) rfl rfl (pc1 := 39) rfl ?_
      obtain ⟨b_16, q_17, h⟩ := ix_bd1_ex h
      refine iz_getR X fl_RX1_30 k_8 q_17 (ix_tb_at tb_X1_recount 24 rfl) (pc1 := 42) rfl ?_
      refine ix_iload (i := 5) (j := 0) X (ix_tb_at tb_X1_recount 25 rfl) rfl (pc1 := 44) rfl ?_
      obtain ⟨k_18, h⟩ := ix_ck_some h
      refine iz_iald X k_18 (ix_tb_at tb_X1_recount 26 rfl) (pc1 := 45) rfl ?_
      obtain ⟨x6_19, e_20, h⟩ := ix_lt_ex h
      refine ix_nmi e_20 ?_
      refine ix_istore (i := 6) (L1 := [(6, .int x6_19), (5, .int x5_14), (0, .ref (K.2.2.1 + a0)), (2, .int x2), (3, .int x3), (4, .int x4)]) X (ix_tb_at tb_X1_recount 27 rfl) (Nat.le_of_ble_eq_true rfl) rfl (pc1 := 47) rfl ?_
      refine ix_aload_n (i := 0) (j := 2) X (ix_tb_at tb_X1_recount 28 rfl) rfl rfl (pc1 := 48) rfl ?_
      refine iz_getR X fl_RX1_30 k_8 q_17 (ix_tb_at tb_X1_recount 29 rfl) (pc1 := 51) rfl ?_
      refine ix_iload (i := 5) (j := 1) X (ix_tb_at tb_X1_recount 30 rfl) rfl (pc1 := 53) rfl ?_
      refine ix_iload (i := 6) (j := 0) X (ix_tb_at tb_X1_recount 31 rfl) rfl (pc1 := 55) rfl ?_
      refine ix_iload_n (i := 2) (j := 3) X (ix_tb_at tb_X1_recount 32 rfl) rfl rfl (pc1 := 56) rfl ?_
      refine ix_iadd X (ix_tb_at tb_X1_recount 33 rfl) (pc1 := 57) rfl ?_
      obtain ⟨d_21, e_22, h⟩ := ix_lt_ex h
      refine iz_iast X k_18 (ix_tb_at tb_X1_recount 34 rfl) e_22 (pc1 := 58) rfl ?_
      refine ix_iload (i := 6) (j := 0) X (ix_tb_at tb_X1_recount 35 rfl) rfl (pc1 := 60) rfl ?_
      refine ix_iconst (v := 1) X (ix_tb_at tb_X1_recount 36 rfl) (by decide) (pc1 := 61) rfl ?_
      refine ix_icmp_le (tgt := 72) X (ix_tb_at tb_X1_recount 37 rfl) (by decide) (pc1 := 64) rfl (fun q_23 => ?_) (fun q_23 => ?_)
      · have h := ix_ift q_23 h
        refine ix_sub (L1 := [(0, .ref (K.2.2.1 + a0)), (2, .int x2), (3, .int x3), (4, .int x4), (5, .int x5_14)]) [2, 3, 4, 5, 1] rfl ?_
        exact t_X1_recount_72 hKp X hr hlk hrec14 h
      · have h := ix_iff q_23 h
        refine ix_iload (i := 6) (j := 0) X (ix_tb_at tb_X1_recount 38 rfl) rfl (pc1 := 66) rfl ?_
        refine ix_iload_n (i := 2) (j := 3) X (ix_tb_at tb_X1_recount 39 rfl) rfl rfl (pc1 := 67) rfl ?_
        refine ix_iadd X (ix_tb_at tb_X1_recount 40 rfl) (pc1 := 68) rfl ?_
        refine ix_iconst (v := 1) X (ix_tb_at tb_X1_recount 41 rfl) (by decide) (pc1 := 69) rfl ?_
        refine ix_icmp_gt (tgt := 78) X (ix_tb_at tb_X1_recount 42 rfl) (by decide) (pc1 := 72) rfl (fun q_35 => ?_) (fun q_35 => ?_)
        · have h := ix_ift q_35 h
          refine ix_sub (L1 := [(0, .ref (K.2.2.1 + a0)), (2, .int x2), (3, .int x3), (4, .int x4)]) [2, 3, 4, 5] rfl ?_
          exact t_X1_recount_78 hKp X hr hlk hrec14 h
        · have h := ix_iff q_35 h
          refine ix_sub (L1 := [(0, .ref (K.2.2.1 + a0)), (2, .int x2), (3, .int x3), (4, .int x4), (5, .int x5_14)]) [2, 3, 4, 5, 1] rfl ?_
          exact t_X1_recount_72 hKp X hr hlk hrec14 h
theorem t_X1_recount_14 {l : Launch} {p : Program} {e : Env} {s : State} {m : MethodId} {args : Array Value} {below : List Frame} {meth : Method} {c : Code} {K : ix_Cx} (hKp : ix_Kp K) {n : Nat} {z : ix_Z} (X : ix_X p s m args c K cX1_recount RX1 7) (hr : meth.sig.returnType = (none : Option Jvm.ClassFile.FieldType)) (hlk : meth.locks = false)  {a0 : Nat} {x2 : Int32} {d1 : ix_D2}  {x3 : Int32} {x4 : Int32} {d : ix_D2} (h : f_X1_recount_14 n z  a0 x2 x3 x4 d = some d1) : ix_G p l e (ix_rm 1 24 0 0) s m args below meth c (MQ below (ix_Post K none (ix_w z d1)) args s 0 0 (ix_A K)) K 7 0 0 14 [(0, .ref (K.2.2.1 + a0)), (2, .int x2), (3, .int x3), (4, .int x4)] [] (ix_w z d) := by
  have key : ∀ (f : Nat) (x3 : Int32) (x4 : Int32) (d : ix_D2), ix_fix (b_X1_recount_14 n z  a0 x2) (fun _ _ _ => none) f x3 x4 d = some d1 → ix_G p l e (ix_rm 1 24 0 0) s m args below meth c (MQ below (ix_Post K none (ix_w z d1)) args s 0 0 (ix_A K)) K 7 0 0 14 [(0, .ref (K.2.2.1 + a0)), (2, .int x2), (3, .int x3), (4, .int x4)] [] (ix_w z d) := by
    intro f
    induction f with
    | zero =>
      intro x3 x4 d h
      have h : (none : Option (ix_D2)) = some d1 := h
      cases h
    | succ f ih =>
      intro x3 x4 d h
      exact tb_X1_recount_14 hKp X hr hlk (rec14 := ix_fix (b_X1_recount_14 n z  a0 x2) (fun _ _ _ => none) f)  ih h
  exact key n x3 x4 d h
set_option maxRecDepth 20000 in
theorem c_X1_recount {l : Launch} {K : ix_Cx} (hKp : ix_Kp K) {n : Nat} {z : ix_Z} {a0 : Nat} {x1 : Int32} {x2 : Int32} {d : ix_D2} {d1 : ix_D2} (h : f_X1_recount n z a0 x1 x2 d = some d1) : ix_M l K yX1_recount cX1_recount 7 (none : Option Jvm.ClassFile.FieldType) 1 24 0 0 [.ref (K.2.2.1 + a0), .int x1, .int x2] (ix_w z d) none (ix_w z d1) := by
  refine ix_met mf_X1_recount hKp (Nat.le_of_ble_eq_true rfl) ?_
  intro p e s m args below meth c hr hlk hnm X
  have X : ix_X p s m args c K cX1_recount RX1 7 := X
  show ix_G p l e (ix_rm 1 24 0 0) s m args below meth c (MQ below (ix_Post K none (ix_w z d1)) args s 0 0 (ix_A K)) K 7 0 0 0 [(0, .ref (K.2.2.1 + a0)), (1, .int x1), (2, .int x2)] [] (ix_w z d)
  unfold f_X1_recount at h
  refine ix_aload_n (i := 0) (j := 0) X (ix_tb_at tb_X1_recount 0 rfl) rfl rfl (pc1 := 1) rfl ?_
  obtain ⟨k_1, h⟩ := ix_ck_some h
  obtain ⟨b_2, q_3, h⟩ := ix_bd1_ex h
  refine iz_getR X fl_RX1_20 k_1 q_3 (ix_tb_at tb_X1_recount 1 rfl) (pc1 := 4) rfl ?_
  refine ix_iload_n (i := 1) (j := 1) X (ix_tb_at tb_X1_recount 2 rfl) rfl rfl (pc1 := 5) rfl ?_
  refine ix_sipush (v := 300) X (ix_tb_at tb_X1_recount 3 rfl) (by decide) (pc1 := 8) rfl ?_
  refine ix_iadd X (ix_tb_at tb_X1_recount 4 rfl) (pc1 := 9) rfl ?_
  obtain ⟨k_4, h⟩ := ix_ck_some h
  refine iz_iald X k_4 (ix_tb_at tb_X1_recount 5 rfl) (pc1 := 10) rfl ?_
  obtain ⟨x3_5, e_6, h⟩ := ix_lt_ex h
  refine ix_nmi e_6 ?_
  refine ix_istore_n (i := 3) (L1 := [(3, .int x3_5), (0, .ref (K.2.2.1 + a0)), (1, .int x1), (2, .int x2)]) X (ix_tb_at tb_X1_recount 6 rfl) rfl (Nat.le_of_ble_eq_true rfl) rfl (pc1 := 11) rfl ?_
  refine ix_iconst (v := 0) X (ix_tb_at tb_X1_recount 7 rfl) (by decide) (pc1 := 12) rfl ?_
  refine ix_istore (i := 4) (L1 := [(4, .int 0), (3, .int x3_5), (0, .ref (K.2.2.1 + a0)), (1, .int x1), (2, .int x2)]) X (ix_tb_at tb_X1_recount 8 rfl) (Nat.le_of_ble_eq_true rfl) rfl (pc1 := 14) rfl ?_
  refine ix_sub (L1 := [(0, .ref (K.2.2.1 + a0)), (2, .int x2), (3, .int x3_5), (4, .int 0)]) [2, 4, 1, 0] rfl ?_
  exact t_X1_recount_14 hKp X hr hlk  h
def tab_X1_assign : List (Nat × Instr × Nat) := [(0, .iload_n 1, 1), (1, .invokestatic 108, 3), (4, .istore_n 3, 1), (5, .iload_n 3, 1), (6, .ifCond .eq 22, 3), (9, .iload_n 3, 1), (10, .sipush 300, 3), (13, .if_icmp .gt 15, 3), (16, .aload_n 0, 1), (17, .getfield 68, 3), (20, .aload_n 0, 1), (21, .getfield 52, 3), (24, .arraylength, 1), (25, .if_icmp .lt 4, 3), (28, .return_, 1), (29, .aload_n 0, 1), (30, .getfield 40, 3), (33, .iload_n 3, 1), (34, .iload_n 1, 1), (35, .ifCond .le 7, 3), (38, .iconst 1, 1), (39, .goto 4, 3), (42, .iconst (-1), 1), (43, .iastore, 1), (44, .aload_n 0, 1), (45, .getfield 46, 3), (48, .iload_n 3, 1), (49, .aload_n 0, 1), (50, .getfield 72, 3), (53, .iastore, 1), (54, .aload_n 0, 1), (55, .getfield 49, 3), (58, .iload_n 3, 1), (59, .iload_n 2, 1), (60, .iastore, 1), (61, .aload_n 0, 1), (62, .getfield 52, 3), (65, .aload_n 0, 1), (66, .getfield 68, 3), (69, .iload_n 1, 1), (70, .iastore, 1), (71, .aload_n 0, 1), (72, .dup, 1), (73, .getfield 68, 3), (76, .iconst 1, 1), (77, .iadd, 1), (78, .putfield 68, 3), (81, .aload_n 0, 1), (82, .iload_n 1, 1), (83, .sipush 999, 3), (86, .invokevirtual 113, 3), (89, .aload_n 0, 1), (90, .iload_n 1, 1), (91, .ineg, 1), (92, .iconst (-1), 1), (93, .invokevirtual 113, 3), (96, .return_, 1)]
theorem tb_X1_assign : ix_tab cX1_assign tab_X1_assign := by
  unfold ix_tab
  decide +kernel
noncomputable def f_X1_assign_43 (n : Nat) (z : ix_Z)  (a0 : Nat) (x1 : Int32) (x2 : Int32) (x3 : Int32) (s0 : Int32) (s1 : Int32) (s2 : Nat) (d : ix_D2) : Option (ix_D2) :=
  ix_ck (ix_ix z 20 s2 s1) (ix_lt (ix_di d s2 (ix_n s1) s0) (fun d_14 => ix_ck (ix_ok z [1] a0) (ix_bd1 (z.1 a0 9) (fun b_17 => ix_ck (ix_ix z 20 b_17 x3) (ix_lt (ix_di d_14 b_17 (ix_n x3) (d_14.1 a0 13)) (fun d_20 => ix_bd1 (z.1 a0 10) (fun b_22 => ix_ck (ix_ix z 20 b_22 x3) (ix_lt (ix_di d_20 b_22 (ix_n x3) x2) (fun d_25 => ix_bd1 (z.1 a0 11) (fun b_27 => ix_ck (ix_ix z 20 b_27 (d_25.1 a0 12)) (ix_lt (ix_di d_25 b_27 (ix_n (d_25.1 a0 12)) x1) (fun d_30 => ix_lt (ix_di d_30 a0 12 ((d_30.1 a0 12) + 1)) (fun d_32 => ix_bd1 (f_X1_recount n z a0 x1 999 d_32) (fun d_34 => ix_bd1 (f_X1_recount n z a0 (-x1) ((-1)) d_34) (fun d_36 => some d_36)))))))))))))))
noncomputable def f_X1_assign (n : Nat) (z : ix_Z) (a0 : Nat) (x1 : Int32) (x2 : Int32) (d : ix_D2) : Option (ix_D2) :=
  ix_lt (ix_abs x1) (fun x3_1 => ix_if (x3_1 = 0) (some d) (ix_if (300 < x3_1) (some d) (ix_ck (ix_ok z [1] a0) (ix_bd1 (z.1 a0 11) (fun b_6 => ix_ck (b_6 < z.2.2 ∧ 20 ≤ (z.2.1 b_6).1 ∧ (z.2.1 b_6).1 < 26) (ix_if (d.1 a0 12 < nI (z.2.1 b_6).2) (ix_bd1 (z.1 a0 7) (fun b_10 => ix_if (x1 ≤ 0) (f_X1_assign_43 n z  a0 x1 x2 x3_1 ((-1)) x3_1 b_10 d) (f_X1_assign_43 n z  a0 x1 x2 x3_1 1 x3_1 b_10 d))) (some d)))))))
set_option maxRecDepth 20000 in
theorem t_X1_assign_43 {l : Launch} {p : Program} {e : Env} {s : State} {m : MethodId} {args : Array Value} {below : List Frame} {meth : Method} {c : Code} {K : ix_Cx} (hKp : ix_Kp K) {n : Nat} {z : ix_Z} (X : ix_X p s m args c K cX1_assign RX1 4) (hr : meth.sig.returnType = (none : Option Jvm.ClassFile.FieldType)) (hlk : meth.locks = false)  {a0 : Nat} {x1 : Int32} {x2 : Int32} {x3 : Int32} {s0 : Int32} {s1 : Int32} {s2 : Nat} {d1 : ix_D2}  {d : ix_D2} (h : f_X1_assign_43 n z  a0 x1 x2 x3 s0 s1 s2 d = some d1) : ix_G p l e (ix_rm 2 50 0 0) s m args below meth c (MQ below (ix_Post K none (ix_w z d1)) args s 0 0 (ix_A K)) K 4 0 0 43 [(0, .ref (K.2.2.1 + a0)), (1, .int x1), (2, .int x2), (3, .int x3)] [.int s0, .int s1, .ref (K.2.2.1 + s2)] (ix_w z d) := by
  unfold f_X1_assign_43 at h
  obtain ⟨k_13, h⟩ := ix_ck_some h
  obtain ⟨d_14, e_15, h⟩ := ix_lt_ex h
  refine iz_iast X k_13 (ix_tb_at tb_X1_assign 23 rfl) e_15 (pc1 := 44) rfl ?_
  refine ix_aload_n (i := 0) (j := 0) X (ix_tb_at tb_X1_assign 24 rfl) rfl rfl (pc1 := 45) rfl ?_
  obtain ⟨k_16, h⟩ := ix_ck_some h
  obtain ⟨b_17, q_18, h⟩ := ix_bd1_ex h
  refine iz_getR X fl_RX1_46 k_16 q_18 (ix_tb_at tb_X1_assign 25 rfl) (pc1 := 48) rfl ?_
  refine ix_iload_n (i := 3) (j := 3) X (ix_tb_at tb_X1_assign 26 rfl) rfl rfl (pc1 := 49) rfl ?_
  refine ix_aload_n (i := 0) (j := 0) X (ix_tb_at tb_X1_assign 27 rfl) rfl rfl (pc1 := 50) rfl ?_
  refine iz_getI X fl_RX1_72 k_16 (ix_tb_at tb_X1_assign 28 rfl) (pc1 := 53) rfl ?_
  obtain ⟨k_19, h⟩ := ix_ck_some h
  obtain ⟨d_20, e_21, h⟩ := ix_lt_ex h
  refine iz_iast X k_19 (ix_tb_at tb_X1_assign 29 rfl) e_21 (pc1 := 54) rfl ?_
  refine ix_aload_n (i := 0) (j := 0) X (ix_tb_at tb_X1_assign 30 rfl) rfl rfl (pc1 := 55) rfl ?_
  obtain ⟨b_22, q_23, h⟩ := ix_bd1_ex h
  refine iz_getR X fl_RX1_49 k_16 q_23 (ix_tb_at tb_X1_assign 31 rfl) (pc1 := 58) rfl ?_
  refine ix_iload_n (i := 3) (j := 3) X (ix_tb_at tb_X1_assign 32 rfl) rfl rfl (pc1 := 59) rfl ?_
  refine ix_iload_n (i := 2) (j := 2) X (ix_tb_at tb_X1_assign 33 rfl) rfl rfl (pc1 := 60) rfl ?_
  obtain ⟨k_24, h⟩ := ix_ck_some h
  obtain ⟨d_25, e_26, h⟩ := ix_lt_ex h
  refine iz_iast X k_24 (ix_tb_at tb_X1_assign 34 rfl) e_26 (pc1 := 61) rfl ?_
  refine ix_aload_n (i := 0) (j := 0) X (ix_tb_at tb_X1_assign 35 rfl) rfl rfl (pc1 := 62) rfl ?_
  obtain ⟨b_27, q_28, h⟩ := ix_bd1_ex h
  refine iz_getR X fl_RX1_52 k_16 q_28 (ix_tb_at tb_X1_assign 36 rfl) (pc1 := 65) rfl ?_
  refine ix_aload_n (i := 0) (j := 0) X (ix_tb_at tb_X1_assign 37 rfl) rfl rfl (pc1 := 66) rfl ?_
  refine iz_getI X fl_RX1_68 k_16 (ix_tb_at tb_X1_assign 38 rfl) (pc1 := 69) rfl ?_
  refine ix_iload_n (i := 1) (j := 1) X (ix_tb_at tb_X1_assign 39 rfl) rfl rfl (pc1 := 70) rfl ?_
  obtain ⟨k_29, h⟩ := ix_ck_some h
  obtain ⟨d_30, e_31, h⟩ := ix_lt_ex h
  refine iz_iast X k_29 (ix_tb_at tb_X1_assign 40 rfl) e_31 (pc1 := 71) rfl ?_
  refine ix_aload_n (i := 0) (j := 0) X (ix_tb_at tb_X1_assign 41 rfl) rfl rfl (pc1 := 72) rfl ?_
  refine ix_dup X (ix_tb_at tb_X1_assign 42 rfl) rfl (pc1 := 73) rfl ?_
  refine iz_getI X fl_RX1_68 k_16 (ix_tb_at tb_X1_assign 43 rfl) (pc1 := 76) rfl ?_
  refine ix_iconst (v := 1) X (ix_tb_at tb_X1_assign 44 rfl) (by decide) (pc1 := 77) rfl ?_
  refine ix_iadd X (ix_tb_at tb_X1_assign 45 rfl) (pc1 := 78) rfl ?_
  obtain ⟨d_32, e_33, h⟩ := ix_lt_ex h
  refine iz_putI X fp_RX1_68 k_16 (ix_tb_at tb_X1_assign 46 rfl) e_33 (pc1 := 81) rfl ?_
  refine ix_aload_n (i := 0) (j := 0) X (ix_tb_at tb_X1_assign 47 rfl) rfl rfl (pc1 := 82) rfl ?_
  refine ix_iload_n (i := 1) (j := 1) X (ix_tb_at tb_X1_assign 48 rfl) rfl rfl (pc1 := 83) rfl ?_
  refine ix_sipush (v := 999) X (ix_tb_at tb_X1_assign 49 rfl) (by decide) (pc1 := 86) rfl ?_
  obtain ⟨d_34, h_35, h⟩ := ix_bd1_ex h
  refine ix_callV (As := [.int x1, .int 999]) (rest := []) (ci := 1) (T := TX1) (nf := 17) X mf_X1_recount mi_X1_recount ms_X1_recount rfl (Nat.le_of_ble_eq_true rfl) ml_RX1_113 ⟨Nat.le_of_ble_eq_true rfl, Nat.le_of_ble_eq_true rfl⟩ ⟨Nat.le_of_ble_eq_true rfl, Nat.le_of_ble_eq_true rfl⟩ rfl (Nat.le_of_ble_eq_true rfl) (ix_tb_at tb_X1_assign 50 rfl) ⟨k_16.1, List.mem_singleton.mp k_16.2⟩ (c_X1_recount hKp h_35) rfl (pc1 := 89) rfl ?_
  refine ix_aload_n (i := 0) (j := 0) X (ix_tb_at tb_X1_assign 51 rfl) rfl rfl (pc1 := 90) rfl ?_
  refine ix_iload_n (i := 1) (j := 1) X (ix_tb_at tb_X1_assign 52 rfl) rfl rfl (pc1 := 91) rfl ?_
  refine ix_ineg X (ix_tb_at tb_X1_assign 53 rfl) (pc1 := 92) rfl ?_
  refine ix_iconst (v := (-1)) X (ix_tb_at tb_X1_assign 54 rfl) (by decide) (pc1 := 93) rfl ?_
  obtain ⟨d_36, h_37, h⟩ := ix_bd1_ex h
  refine ix_callV (As := [.int (-x1), .int ((-1))]) (rest := []) (ci := 1) (T := TX1) (nf := 17) X mf_X1_recount mi_X1_recount ms_X1_recount rfl (Nat.le_of_ble_eq_true rfl) ml_RX1_113 ⟨Nat.le_of_ble_eq_true rfl, Nat.le_of_ble_eq_true rfl⟩ ⟨Nat.le_of_ble_eq_true rfl, Nat.le_of_ble_eq_true rfl⟩ rfl (Nat.le_of_ble_eq_true rfl) (ix_tb_at tb_X1_assign 55 rfl) ⟨k_16.1, List.mem_singleton.mp k_16.2⟩ (c_X1_recount hKp h_37) rfl (pc1 := 96) rfl ?_
  exact ix_vret X hr hlk (ix_r1 (g := ix_w z) h) (ix_tb_at tb_X1_assign 56 rfl)
set_option maxRecDepth 20000 in
theorem c_X1_assign {l : Launch} {K : ix_Cx} (hKp : ix_Kp K) {n : Nat} {z : ix_Z} {a0 : Nat} {x1 : Int32} {x2 : Int32} {d : ix_D2} {d1 : ix_D2} (h : f_X1_assign n z a0 x1 x2 d = some d1) : ix_M l K yX1_assign cX1_assign 4 (none : Option Jvm.ClassFile.FieldType) 2 50 0 0 [.ref (K.2.2.1 + a0), .int x1, .int x2] (ix_w z d) none (ix_w z d1) := by
  refine ix_met mf_X1_assign hKp (Nat.le_of_ble_eq_true rfl) ?_
  intro p e s m args below meth c hr hlk hnm X
  have X : ix_X p s m args c K cX1_assign RX1 4 := X
  show ix_G p l e (ix_rm 2 50 0 0) s m args below meth c (MQ below (ix_Post K none (ix_w z d1)) args s 0 0 (ix_A K)) K 4 0 0 0 [(0, .ref (K.2.2.1 + a0)), (1, .int x1), (2, .int x2)] [] (ix_w z d)
  unfold f_X1_assign at h
  refine ix_iload_n (i := 1) (j := 1) X (ix_tb_at tb_X1_assign 0 rfl) rfl rfl (pc1 := 1) rfl ?_
  refine ix_mabs X ml_RX1_108 (Nat.le_of_ble_eq_true rfl) (Nat.le_of_ble_eq_true rfl) ⟨Nat.le_of_ble_eq_true rfl, Nat.le_of_ble_eq_true rfl⟩ (ix_tb_at tb_X1_assign 1 rfl) (pc1 := 4) rfl ?_
  obtain ⟨x3_1, e_2, h⟩ := ix_lt_ex h
  refine ix_nmi e_2 ?_
  refine ix_istore_n (i := 3) (L1 := [(3, .int x3_1), (0, .ref (K.2.2.1 + a0)), (1, .int x1), (2, .int x2)]) X (ix_tb_at tb_X1_assign 2 rfl) rfl (Nat.le_of_ble_eq_true rfl) rfl (pc1 := 5) rfl ?_
  refine ix_iload_n (i := 3) (j := 0) X (ix_tb_at tb_X1_assign 3 rfl) rfl rfl (pc1 := 6) rfl ?_
  refine ix_if_eq (tgt := 28) X (ix_tb_at tb_X1_assign 4 rfl) (by decide) (pc1 := 9) rfl (fun q_3 => ?_) (fun q_3 => ?_)
  · have h := ix_ift q_3 h
    exact ix_vret X hr hlk (ix_r1 (g := ix_w z) h) (ix_tb_at tb_X1_assign 14 rfl)
  · have h := ix_iff q_3 h
    refine ix_iload_n (i := 3) (j := 0) X (ix_tb_at tb_X1_assign 5 rfl) rfl rfl (pc1 := 10) rfl ?_
    refine ix_sipush (v := 300) X (ix_tb_at tb_X1_assign 6 rfl) (by decide) (pc1 := 13) rfl ?_
    refine ix_icmp_gt (tgt := 28) X (ix_tb_at tb_X1_assign 7 rfl) (by decide) (pc1 := 16) rfl (fun q_4 => ?_) (fun q_4 => ?_)
    · have h := ix_ift q_4 h
      exact ix_vret X hr hlk (ix_r1 (g := ix_w z) h) (ix_tb_at tb_X1_assign 14 rfl)
    · have h := ix_iff q_4 h
      refine ix_aload_n (i := 0) (j := 1) X (ix_tb_at tb_X1_assign 8 rfl) rfl rfl (pc1 := 17) rfl ?_
      obtain ⟨k_5, h⟩ := ix_ck_some h
      refine iz_getI X fl_RX1_68 k_5 (ix_tb_at tb_X1_assign 9 rfl) (pc1 := 20) rfl ?_
      refine ix_aload_n (i := 0) (j := 1) X (ix_tb_at tb_X1_assign 10 rfl) rfl rfl (pc1 := 21) rfl ?_
      obtain ⟨b_6, q_7, h⟩ := ix_bd1_ex h
      refine iz_getR X fl_RX1_52 k_5 q_7 (ix_tb_at tb_X1_assign 11 rfl) (pc1 := 24) rfl ?_
      obtain ⟨k_8, h⟩ := ix_ck_some h
      refine iz_alen X k_8 (ix_tb_at tb_X1_assign 12 rfl) (pc1 := 25) rfl ?_
      refine ix_icmp_lt (tgt := 29) X (ix_tb_at tb_X1_assign 13 rfl) (by decide) (pc1 := 28) rfl (fun q_9 => ?_) (fun q_9 => ?_)
      · have h := ix_ift q_9 h
        refine ix_aload_n (i := 0) (j := 1) X (ix_tb_at tb_X1_assign 15 rfl) rfl rfl (pc1 := 30) rfl ?_
        obtain ⟨b_10, q_11, h⟩ := ix_bd1_ex h
        refine iz_getR X fl_RX1_40 k_5 q_11 (ix_tb_at tb_X1_assign 16 rfl) (pc1 := 33) rfl ?_
        refine ix_iload_n (i := 3) (j := 0) X (ix_tb_at tb_X1_assign 17 rfl) rfl rfl (pc1 := 34) rfl ?_
        refine ix_iload_n (i := 1) (j := 2) X (ix_tb_at tb_X1_assign 18 rfl) rfl rfl (pc1 := 35) rfl ?_
        refine ix_if_le (tgt := 42) X (ix_tb_at tb_X1_assign 19 rfl) (by decide) (pc1 := 38) rfl (fun q_12 => ?_) (fun q_12 => ?_)
        · have h := ix_ift q_12 h
          refine ix_iconst (v := (-1)) X (ix_tb_at tb_X1_assign 22 rfl) (by decide) (pc1 := 43) rfl ?_
          refine ix_sub (L1 := [(0, .ref (K.2.2.1 + a0)), (1, .int x1), (2, .int x2), (3, .int x3_1)]) [1, 2, 3, 0] rfl ?_
          exact t_X1_assign_43 hKp X hr hlk  h
        · have h := ix_iff q_12 h
          refine ix_iconst (v := 1) X (ix_tb_at tb_X1_assign 20 rfl) (by decide) (pc1 := 39) rfl ?_
          refine ix_goto (tgt := 43) X (ix_tb_at tb_X1_assign 21 rfl) (by decide) ?_
          refine ix_sub (L1 := [(0, .ref (K.2.2.1 + a0)), (1, .int x1), (2, .int x2), (3, .int x3_1)]) [1, 2, 3, 0] rfl ?_
          exact t_X1_assign_43 hKp X hr hlk  h
      · have h := ix_iff q_9 h
        exact ix_vret X hr hlk (ix_r1 (g := ix_w z) h) (ix_tb_at tb_X1_assign 14 rfl)
def tab_X1_backTo : List (Nat × Instr × Nat) := [(0, .aload_n 0, 1), (1, .getfield 68, 3), (4, .iconst 1, 1), (5, .isub, 1), (6, .istore_n 2, 1), (7, .iload_n 2, 1), (8, .ifCond .lt 84, 3), (11, .aload_n 0, 1), (12, .getfield 46, 3), (15, .aload_n 0, 1), (16, .getfield 52, 3), (19, .iload_n 2, 1), (20, .iaload, 1), (21, .invokestatic 108, 3), (24, .iaload, 1), (25, .iload_n 1, 1), (26, .if_icmp .le 66, 3), (29, .aload_n 0, 1), (30, .getfield 52, 3), (33, .iload_n 2, 1), (34, .iaload, 1), (35, .istore_n 3, 1), (36, .iload_n 3, 1), (37, .invokestatic 108, 3), (40, .istore 4, 2), (42, .aload_n 0, 1), (43, .getfield 43, 3), (46, .iload 4, 2), (48, .iload_n 3, 1), (49, .ifCond .le 7, 3), (52, .iconst 1, 1), (53, .goto 4, 3), (56, .iconst 0, 1), (57, .iastore, 1), (58, .aload_n 0, 1), (59, .getfield 40, 3), (62, .iload 4, 2), (64, .iconst 0, 1), (65, .iastore, 1), (66, .aload_n 0, 1), (67, .iload_n 2, 1), (68, .putfield 68, 3), (71, .aload_n 0, 1), (72, .iload_n 3, 1), (73, .sipush (-999), 3), (76, .invokevirtual 113, 3), (79, .aload_n 0, 1), (80, .iload_n 3, 1), (81, .ineg, 1), (82, .iconst 1, 1), (83, .invokevirtual 113, 3), (86, .iinc 2 (-1), 3), (89, .goto (-82), 3), (92, .aload_n 0, 1), (93, .iload_n 1, 1), (94, .putfield 72, 3), (97, .return_, 1)]
theorem tb_X1_backTo : ix_tab cX1_backTo tab_X1_backTo := by
  unfold ix_tab
  decide +kernel
noncomputable def f_X1_backTo_92 (n : Nat) (z : ix_Z)  (a0 : Nat) (x1 : Int32) (d : ix_D2) : Option (ix_D2) :=
  ix_ck (ix_ok z [1] a0) (ix_lt (ix_di d a0 13 x1) (fun d_6 => some d_6))
noncomputable def f_X1_backTo_57 (n : Nat) (z : ix_Z) (rec7 : Int32 → ix_D2 → Option (ix_D2)) (a0 : Nat) (x1 : Int32) (x2 : Int32) (x3 : Int32) (x4 : Int32) (s0 : Int32) (s1 : Int32) (s2 : Nat) (d : ix_D2) : Option (ix_D2) :=
  ix_ck (ix_ix z 20 s2 s1) (ix_lt (ix_di d s2 (ix_n s1) s0) (fun d_24 => ix_ck (ix_ok z [1] a0) (ix_bd1 (z.1 a0 7) (fun b_27 => ix_ck (ix_ix z 20 b_27 x4) (ix_lt (ix_di d_24 b_27 (ix_n x4) 0) (fun d_30 => ix_lt (ix_di d_30 a0 12 x2) (fun d_32 => ix_bd1 (f_X1_recount n z a0 x3 ((-999)) d_32) (fun d_34 => ix_bd1 (f_X1_recount n z a0 (-x3) 1 d_34) (fun d_36 => ix_lt (x2 + (-1)) (fun x2_38 => rec7 x2_38 d_36))))))))))
noncomputable def b_X1_backTo_7 (n : Nat) (z : ix_Z)  (a0 : Nat) (x1 : Int32) (rec7 : Int32 → ix_D2 → Option (ix_D2)) (x2 : Int32) (d : ix_D2) : Option (ix_D2) :=
  ix_if (x2 < 0) (f_X1_backTo_92 n z  a0 x1 d) (ix_ck (ix_ok z [1] a0) (ix_bd1 (z.1 a0 9) (fun b_9 => ix_bd1 (z.1 a0 11) (fun b_11 => ix_ck (ix_ix z 20 b_11 x2) (ix_ck (ix_ix z 20 b_9 (ix_abs (d.1 b_11 (ix_n x2)))) (ix_if (d.1 b_9 (ix_n (ix_abs (d.1 b_11 (ix_n x2)))) ≤ x1) (f_X1_backTo_92 n z  a0 x1 d) (ix_lt (d.1 b_11 (ix_n x2)) (fun x3_16 => ix_lt (ix_abs x3_16) (fun x4_18 => ix_bd1 (z.1 a0 8) (fun b_20 => ix_if (x3_16 ≤ 0) (f_X1_backTo_57 n z rec7 a0 x1 x2 x3_16 x4_18 0 x4_18 b_20 d) (f_X1_backTo_57 n z rec7 a0 x1 x2 x3_16 x4_18 1 x4_18 b_20 d)))))))))))
noncomputable def f_X1_backTo_7 (n : Nat) (z : ix_Z)  (a0 : Nat) (x1 : Int32) (x2 : Int32) (d : ix_D2) : Option (ix_D2) := ix_fix (b_X1_backTo_7 n z  a0 x1) (fun _ _ => none) n x2 d
noncomputable def f_X1_backTo (n : Nat) (z : ix_Z) (a0 : Nat) (x1 : Int32) (d : ix_D2) : Option (ix_D2) :=
  ix_ck (ix_ok z [1] a0) (ix_lt ((d.1 a0 12) - 1) (fun x2_2 => f_X1_backTo_7 n z  a0 x1 x2_2 d))
set_option maxRecDepth 20000 in
theorem t_X1_backTo_92 {l : Launch} {p : Program} {e : Env} {s : State} {m : MethodId} {args : Array Value} {below : List Frame} {meth : Method} {c : Code} {K : ix_Cx} (hKp : ix_Kp K) {n : Nat} {z : ix_Z} (X : ix_X p s m args c K cX1_backTo RX1 5) (hr : meth.sig.returnType = (none : Option Jvm.ClassFile.FieldType)) (hlk : meth.locks = false)  {a0 : Nat} {x1 : Int32} {d1 : ix_D2}  {d : ix_D2} (h : f_X1_backTo_92 n z  a0 x1 d = some d1) : ix_G p l e (ix_rm 2 50 0 0) s m args below meth c (MQ below (ix_Post K none (ix_w z d1)) args s 0 0 (ix_A K)) K 5 0 0 92 [(0, .ref (K.2.2.1 + a0)), (1, .int x1)] [] (ix_w z d) := by
  unfold f_X1_backTo_92 at h
  refine ix_aload_n (i := 0) (j := 0) X (ix_tb_at tb_X1_backTo 53 rfl) rfl rfl (pc1 := 93) rfl ?_
  refine ix_iload_n (i := 1) (j := 1) X (ix_tb_at tb_X1_backTo 54 rfl) rfl rfl (pc1 := 94) rfl ?_
  obtain ⟨k_5, h⟩ := ix_ck_some h
  obtain ⟨d_6, e_7, h⟩ := ix_lt_ex h
  refine iz_putI X fp_RX1_72 k_5 (ix_tb_at tb_X1_backTo 55 rfl) e_7 (pc1 := 97) rfl ?_
  exact ix_vret X hr hlk (ix_r1 (g := ix_w z) h) (ix_tb_at tb_X1_backTo 56 rfl)
set_option maxRecDepth 20000 in
theorem t_X1_backTo_57 {l : Launch} {p : Program} {e : Env} {s : State} {m : MethodId} {args : Array Value} {below : List Frame} {meth : Method} {c : Code} {K : ix_Cx} (hKp : ix_Kp K) {n : Nat} {z : ix_Z} (X : ix_X p s m args c K cX1_backTo RX1 5) (hr : meth.sig.returnType = (none : Option Jvm.ClassFile.FieldType)) (hlk : meth.locks = false) {rec7 : Int32 → ix_D2 → Option (ix_D2)} {a0 : Nat} {x1 : Int32} {x2 : Int32} {x3 : Int32} {x4 : Int32} {s0 : Int32} {s1 : Int32} {s2 : Nat} {d1 : ix_D2} (hrec7 : ∀ (x2 : Int32) (d : ix_D2), rec7 x2 d = some d1 → ix_G p l e (ix_rm 2 50 0 0) s m args below meth c (MQ below (ix_Post K none (ix_w z d1)) args s 0 0 (ix_A K)) K 5 0 0 7 [(0, .ref (K.2.2.1 + a0)), (1, .int x1), (2, .int x2)] [] (ix_w z d)) {d : ix_D2} (h : f_X1_backTo_57 n z rec7 a0 x1 x2 x3 x4 s0 s1 s2 d = some d1) : ix_G p l e (ix_rm 2 50 0 0) s m args below meth c (MQ below (ix_Post K none (ix_w z d1)) args s 0 0 (ix_A K)) K 5 0 0 57 [(0, .ref (K.2.2.1 + a0)), (1, .int x1), (2, .int x2), (3, .int x3), (4, .int x4)] [.int s0, .int s1, .ref (K.2.2.1 + s2)] (ix_w z d) := by
  unfold f_X1_backTo_57 at h
  obtain ⟨k_23, h⟩ := ix_ck_some h
  obtain ⟨d_24, e_25, h⟩ := ix_lt_ex h
  refine iz_iast X k_23 (ix_tb_at tb_X1_backTo 33 rfl) e_25 (pc1 := 58) rfl ?_
  refine ix_aload_n (i := 0) (j := 0) X (ix_tb_at tb_X1_backTo 34 rfl) rfl rfl (pc1 := 59) rfl ?_
  obtain ⟨k_26, h⟩ := ix_ck_some h
  obtain ⟨b_27, q_28, h⟩ := ix_bd1_ex h
  refine iz_getR X fl_RX1_40 k_26 q_28 (ix_tb_at tb_X1_backTo 35 rfl) (pc1 := 62) rfl ?_
  refine ix_iload (i := 4) (j := 4) X (ix_tb_at tb_X1_backTo 36 rfl) rfl (pc1 := 64) rfl ?_
  refine ix_iconst (v := 0) X (ix_tb_at tb_X1_backTo 37 rfl) (by decide) (pc1 := 65) rfl ?_
  obtain ⟨k_29, h⟩ := ix_ck_some h
  obtain ⟨d_30, e_31, h⟩ := ix_lt_ex h
  refine iz_iast X k_29 (ix_tb_at tb_X1_backTo 38 rfl) e_31 (pc1 := 66) rfl ?_
  refine ix_aload_n (i := 0) (j := 0) X (ix_tb_at tb_X1_backTo 39 rfl) rfl rfl (pc1 := 67) rfl ?_
  refine ix_iload_n (i := 2) (j := 2) X (ix_tb_at tb_X1_backTo 40 rfl) rfl rfl (pc1 := 68) rfl ?_
  obtain ⟨d_32, e_33, h⟩ := ix_lt_ex h
  refine iz_putI X fp_RX1_68 k_26 (ix_tb_at tb_X1_backTo 41 rfl) e_33 (pc1 := 71) rfl ?_
  refine ix_aload_n (i := 0) (j := 0) X (ix_tb_at tb_X1_backTo 42 rfl) rfl rfl (pc1 := 72) rfl ?_
  refine ix_iload_n (i := 3) (j := 3) X (ix_tb_at tb_X1_backTo 43 rfl) rfl rfl (pc1 := 73) rfl ?_
  refine ix_sipush (v := (-999)) X (ix_tb_at tb_X1_backTo 44 rfl) (by decide) (pc1 := 76) rfl ?_
  obtain ⟨d_34, h_35, h⟩ := ix_bd1_ex h
  refine ix_callV (As := [.int x3, .int ((-999))]) (rest := []) (ci := 1) (T := TX1) (nf := 17) X mf_X1_recount mi_X1_recount ms_X1_recount rfl (Nat.le_of_ble_eq_true rfl) ml_RX1_113 ⟨Nat.le_of_ble_eq_true rfl, Nat.le_of_ble_eq_true rfl⟩ ⟨Nat.le_of_ble_eq_true rfl, Nat.le_of_ble_eq_true rfl⟩ rfl (Nat.le_of_ble_eq_true rfl) (ix_tb_at tb_X1_backTo 45 rfl) ⟨k_26.1, List.mem_singleton.mp k_26.2⟩ (c_X1_recount hKp h_35) rfl (pc1 := 79) rfl ?_
  refine ix_aload_n (i := 0) (j := 0) X (ix_tb_at tb_X1_backTo 46 rfl) rfl rfl (pc1 := 80) rfl ?_
  refine ix_iload_n (i := 3) (j := 3) X (ix_tb_at tb_X1_backTo 47 rfl) rfl rfl (pc1 := 81) rfl ?_
  refine ix_ineg X (ix_tb_at tb_X1_backTo 48 rfl) (pc1 := 82) rfl ?_
  refine ix_iconst (v := 1) X (ix_tb_at tb_X1_backTo 49 rfl) (by decide) (pc1 := 83) rfl ?_
  obtain ⟨d_36, h_37, h⟩ := ix_bd1_ex h
  refine ix_callV (As := [.int (-x3), .int 1]) (rest := []) (ci := 1) (T := TX1) (nf := 17) X mf_X1_recount mi_X1_recount ms_X1_recount rfl (Nat.le_of_ble_eq_true rfl) ml_RX1_113 ⟨Nat.le_of_ble_eq_true rfl, Nat.le_of_ble_eq_true rfl⟩ ⟨Nat.le_of_ble_eq_true rfl, Nat.le_of_ble_eq_true rfl⟩ rfl (Nat.le_of_ble_eq_true rfl) (ix_tb_at tb_X1_backTo 50 rfl) ⟨k_26.1, List.mem_singleton.mp k_26.2⟩ (c_X1_recount hKp h_37) rfl (pc1 := 86) rfl ?_
  obtain ⟨x2_38, e_39, h⟩ := ix_lt_ex h
  refine ix_iinc (i := 2) (j := 2) (v := x2_38) (L1 := [(2, .int x2_38), (0, .ref (K.2.2.1 + a0)), (1, .int x1), (3, .int x3), (4, .int x4)]) X (ix_tb_at tb_X1_backTo 51 rfl) rfl (by rw [oi_m1]; exact e_39.symm) (Nat.le_of_ble_eq_true rfl) rfl (pc1 := 89) rfl ?_
  refine ix_goto (tgt := 7) X (ix_tb_at tb_X1_backTo 52 rfl) (by decide) ?_
  refine ix_sub (L1 := [(0, .ref (K.2.2.1 + a0)), (1, .int x1), (2, .int x2_38)]) [1, 2, 0] rfl ?_
  exact hrec7 x2_38 d_36 h
set_option maxRecDepth 20000 in
theorem tb_X1_backTo_7 {l : Launch} {p : Program} {e : Env} {s : State} {m : MethodId} {args : Array Value} {below : List Frame} {meth : Method} {c : Code} {K : ix_Cx} (hKp : ix_Kp K) {n : Nat} {z : ix_Z} (X : ix_X p s m args c K cX1_backTo RX1 5) (hr : meth.sig.returnType = (none : Option Jvm.ClassFile.FieldType)) (hlk : meth.locks = false)  {a0 : Nat} {x1 : Int32} {rec7 : Int32 → ix_D2 → Option (ix_D2)} {d1 : ix_D2} (hrec7 : ∀ (x2 : Int32) (d : ix_D2), rec7 x2 d = some d1 → ix_G p l e (ix_rm 2 50 0 0) s m args below meth c (MQ below (ix_Post K none (ix_w z d1)) args s 0 0 (ix_A K)) K 5 0 0 7 [(0, .ref (K.2.2.1 + a0)), (1, .int x1), (2, .int x2)] [] (ix_w z d)) {x2 : Int32} {d : ix_D2} (h : b_X1_backTo_7 n z  a0 x1 rec7 x2 d = some d1) : ix_G p l e (ix_rm 2 50 0 0) s m args below meth c (MQ below (ix_Post K none (ix_w z d1)) args s 0 0 (ix_A K)) K 5 0 0 7 [(0, .ref (K.2.2.1 + a0)), (1, .int x1), (2, .int x2)] [] (ix_w z d) := by
  unfold b_X1_backTo_7 at h
  refine ix_iload_n (i := 2) (j := 2) X (ix_tb_at tb_X1_backTo 5 rfl) rfl rfl (pc1 := 8) rfl ?_
  refine ix_if_lt (tgt := 92) X (ix_tb_at tb_X1_backTo 6 rfl) (by decide) (pc1 := 11) rfl (fun q_4 => ?_) (fun q_4 => ?_)
  · have h := ix_ift q_4 h
    refine ix_sub (L1 := [(0, .ref (K.2.2.1 + a0)), (1, .int x1)]) [0, 1] rfl ?_
    exact t_X1_backTo_92 hKp X hr hlk  h
  · have h := ix_iff q_4 h
    refine ix_aload_n (i := 0) (j := 0) X (ix_tb_at tb_X1_backTo 7 rfl) rfl rfl (pc1 := 12) rfl ?_
    obtain ⟨k_8, h⟩ := ix_ck_some h
    obtain ⟨b_9, q_10, h⟩ := ix_bd1_ex h
    refine iz_getR X fl_RX1_46 k_8 q_10 (ix_tb_at tb_X1_backTo 8 rfl) (pc1 := 15) rfl ?_
    refine ix_aload_n (i := 0) (j := 0) X (ix_tb_at tb_X1_backTo 9 rfl) rfl rfl (pc1 := 16) rfl ?_
    obtain ⟨b_11, q_12, h⟩ := ix_bd1_ex h
    refine iz_getR X fl_RX1_52 k_8 q_12 (ix_tb_at tb_X1_backTo 10 rfl) (pc1 := 19) rfl ?_
    refine ix_iload_n (i := 2) (j := 2) X (ix_tb_at tb_X1_backTo 11 rfl) rfl rfl (pc1 := 20) rfl ?_
    obtain ⟨k_13, h⟩ := ix_ck_some h
    refine iz_iald X k_13 (ix_tb_at tb_X1_backTo 12 rfl) (pc1 := 21) rfl ?_
    refine ix_mabs X ml_RX1_108 (Nat.le_of_ble_eq_true rfl) (Nat.le_of_ble_eq_true rfl) ⟨Nat.le_of_ble_eq_true rfl, Nat.le_of_ble_eq_true rfl⟩ (ix_tb_at tb_X1_backTo 13 rfl) (pc1 := 24) rfl ?_
    obtain ⟨k_14, h⟩ := ix_ck_some h
    refine iz_iald X k_14 (ix_tb_at tb_X1_backTo 14 rfl) (pc1 := 25) rfl ?_
    refine ix_iload_n (i := 1) (j := 1) X (ix_tb_at tb_X1_backTo 15 rfl) rfl rfl (pc1 := 26) rfl ?_
    refine ix_icmp_le (tgt := 92) X (ix_tb_at tb_X1_backTo 16 rfl) (by decide) (pc1 := 29) rfl (fun q_15 => ?_) (fun q_15 => ?_)
    · have h := ix_ift q_15 h
      refine ix_sub (L1 := [(0, .ref (K.2.2.1 + a0)), (1, .int x1)]) [0, 1] rfl ?_
      exact t_X1_backTo_92 hKp X hr hlk  h
    · have h := ix_iff q_15 h
      refine ix_aload_n (i := 0) (j := 0) X (ix_tb_at tb_X1_backTo 17 rfl) rfl rfl (pc1 := 30) rfl ?_
      refine iz_getR X fl_RX1_52 k_8 q_12 (ix_tb_at tb_X1_backTo 18 rfl) (pc1 := 33) rfl ?_
      refine ix_iload_n (i := 2) (j := 2) X (ix_tb_at tb_X1_backTo 19 rfl) rfl rfl (pc1 := 34) rfl ?_
      refine iz_iald X k_13 (ix_tb_at tb_X1_backTo 20 rfl) (pc1 := 35) rfl ?_
      obtain ⟨x3_16, e_17, h⟩ := ix_lt_ex h
      refine ix_nmi e_17 ?_
      refine ix_istore_n (i := 3) (L1 := [(3, .int x3_16), (0, .ref (K.2.2.1 + a0)), (1, .int x1), (2, .int x2)]) X (ix_tb_at tb_X1_backTo 21 rfl) rfl (Nat.le_of_ble_eq_true rfl) rfl (pc1 := 36) rfl ?_
      refine ix_iload_n (i := 3) (j := 0) X (ix_tb_at tb_X1_backTo 22 rfl) rfl rfl (pc1 := 37) rfl ?_
      refine ix_mabs X ml_RX1_108 (Nat.le_of_ble_eq_true rfl) (Nat.le_of_ble_eq_true rfl) ⟨Nat.le_of_ble_eq_true rfl, Nat.le_of_ble_eq_true rfl⟩ (ix_tb_at tb_X1_backTo 23 rfl) (pc1 := 40) rfl ?_
      obtain ⟨x4_18, e_19, h⟩ := ix_lt_ex h
      refine ix_nmi e_19 ?_
      refine ix_istore (i := 4) (L1 := [(4, .int x4_18), (3, .int x3_16), (0, .ref (K.2.2.1 + a0)), (1, .int x1), (2, .int x2)]) X (ix_tb_at tb_X1_backTo 24 rfl) (Nat.le_of_ble_eq_true rfl) rfl (pc1 := 42) rfl ?_
      refine ix_aload_n (i := 0) (j := 2) X (ix_tb_at tb_X1_backTo 25 rfl) rfl rfl (pc1 := 43) rfl ?_
      obtain ⟨b_20, q_21, h⟩ := ix_bd1_ex h
      refine iz_getR X fl_RX1_43 k_8 q_21 (ix_tb_at tb_X1_backTo 26 rfl) (pc1 := 46) rfl ?_
      refine ix_iload (i := 4) (j := 0) X (ix_tb_at tb_X1_backTo 27 rfl) rfl (pc1 := 48) rfl ?_
      refine ix_iload_n (i := 3) (j := 1) X (ix_tb_at tb_X1_backTo 28 rfl) rfl rfl (pc1 := 49) rfl ?_
      refine ix_if_le (tgt := 56) X (ix_tb_at tb_X1_backTo 29 rfl) (by decide) (pc1 := 52) rfl (fun q_22 => ?_) (fun q_22 => ?_)
      · have h := ix_ift q_22 h
        refine ix_iconst (v := 0) X (ix_tb_at tb_X1_backTo 32 rfl) (by decide) (pc1 := 57) rfl ?_
        refine ix_sub (L1 := [(0, .ref (K.2.2.1 + a0)), (1, .int x1), (2, .int x2), (3, .int x3_16), (4, .int x4_18)]) [2, 3, 4, 1, 0] rfl ?_
        exact t_X1_backTo_57 hKp X hr hlk hrec7 h
      · have h := ix_iff q_22 h
        refine ix_iconst (v := 1) X (ix_tb_at tb_X1_backTo 30 rfl) (by decide) (pc1 := 53) rfl ?_
        refine ix_goto (tgt := 57) X (ix_tb_at tb_X1_backTo 31 rfl) (by decide) ?_
        refine ix_sub (L1 := [(0, .ref (K.2.2.1 + a0)), (1, .int x1), (2, .int x2), (3, .int x3_16), (4, .int x4_18)]) [2, 3, 4, 1, 0] rfl ?_
        exact t_X1_backTo_57 hKp X hr hlk hrec7 h
theorem t_X1_backTo_7 {l : Launch} {p : Program} {e : Env} {s : State} {m : MethodId} {args : Array Value} {below : List Frame} {meth : Method} {c : Code} {K : ix_Cx} (hKp : ix_Kp K) {n : Nat} {z : ix_Z} (X : ix_X p s m args c K cX1_backTo RX1 5) (hr : meth.sig.returnType = (none : Option Jvm.ClassFile.FieldType)) (hlk : meth.locks = false)  {a0 : Nat} {x1 : Int32} {d1 : ix_D2}  {x2 : Int32} {d : ix_D2} (h : f_X1_backTo_7 n z  a0 x1 x2 d = some d1) : ix_G p l e (ix_rm 2 50 0 0) s m args below meth c (MQ below (ix_Post K none (ix_w z d1)) args s 0 0 (ix_A K)) K 5 0 0 7 [(0, .ref (K.2.2.1 + a0)), (1, .int x1), (2, .int x2)] [] (ix_w z d) := by
  have key : ∀ (f : Nat) (x2 : Int32) (d : ix_D2), ix_fix (b_X1_backTo_7 n z  a0 x1) (fun _ _ => none) f x2 d = some d1 → ix_G p l e (ix_rm 2 50 0 0) s m args below meth c (MQ below (ix_Post K none (ix_w z d1)) args s 0 0 (ix_A K)) K 5 0 0 7 [(0, .ref (K.2.2.1 + a0)), (1, .int x1), (2, .int x2)] [] (ix_w z d) := by
    intro f
    induction f with
    | zero =>
      intro x2 d h
      have h : (none : Option (ix_D2)) = some d1 := h
      cases h
    | succ f ih =>
      intro x2 d h
      exact tb_X1_backTo_7 hKp X hr hlk (rec7 := ix_fix (b_X1_backTo_7 n z  a0 x1) (fun _ _ => none) f)  ih h
  exact key n x2 d h
set_option maxRecDepth 20000 in
theorem c_X1_backTo {l : Launch} {K : ix_Cx} (hKp : ix_Kp K) {n : Nat} {z : ix_Z} {a0 : Nat} {x1 : Int32} {d : ix_D2} {d1 : ix_D2} (h : f_X1_backTo n z a0 x1 d = some d1) : ix_M l K yX1_backTo cX1_backTo 5 (none : Option Jvm.ClassFile.FieldType) 2 50 0 0 [.ref (K.2.2.1 + a0), .int x1] (ix_w z d) none (ix_w z d1) := by
  refine ix_met mf_X1_backTo hKp (Nat.le_of_ble_eq_true rfl) ?_
  intro p e s m args below meth c hr hlk hnm X
  have X : ix_X p s m args c K cX1_backTo RX1 5 := X
  show ix_G p l e (ix_rm 2 50 0 0) s m args below meth c (MQ below (ix_Post K none (ix_w z d1)) args s 0 0 (ix_A K)) K 5 0 0 0 [(0, .ref (K.2.2.1 + a0)), (1, .int x1)] [] (ix_w z d)
  unfold f_X1_backTo at h
  refine ix_aload_n (i := 0) (j := 0) X (ix_tb_at tb_X1_backTo 0 rfl) rfl rfl (pc1 := 1) rfl ?_
  obtain ⟨k_1, h⟩ := ix_ck_some h
  refine iz_getI X fl_RX1_68 k_1 (ix_tb_at tb_X1_backTo 1 rfl) (pc1 := 4) rfl ?_
  refine ix_iconst (v := 1) X (ix_tb_at tb_X1_backTo 2 rfl) (by decide) (pc1 := 5) rfl ?_
  refine ix_isub X (ix_tb_at tb_X1_backTo 3 rfl) (pc1 := 6) rfl ?_
  obtain ⟨x2_2, e_3, h⟩ := ix_lt_ex h
  refine ix_nmi e_3 ?_
  refine ix_istore_n (i := 2) (L1 := [(2, .int x2_2), (0, .ref (K.2.2.1 + a0)), (1, .int x1)]) X (ix_tb_at tb_X1_backTo 4 rfl) rfl (Nat.le_of_ble_eq_true rfl) rfl (pc1 := 7) rfl ?_
  refine ix_sub (L1 := [(0, .ref (K.2.2.1 + a0)), (1, .int x1), (2, .int x2_2)]) [1, 2, 0] rfl ?_
  exact t_X1_backTo_7 hKp X hr hlk  h
def tab_J13_bitCount_95d88 : List (Nat × Instr × Nat) := [(0, .lload_n 0, 1), (1, .lload_n 0, 1), (2, .iconst 1, 1), (3, .lushr, 1), (4, .ldc2_w 314, 3), (7, .land, 1), (8, .lsub, 1), (9, .lstore_n 0, 1), (10, .lload_n 0, 1), (11, .ldc2_w 316, 3), (14, .land, 1), (15, .lload_n 0, 1), (16, .iconst 2, 1), (17, .lushr, 1), (18, .ldc2_w 316, 3), (21, .land, 1), (22, .ladd, 1), (23, .lstore_n 0, 1), (24, .lload_n 0, 1), (25, .lload_n 0, 1), (26, .iconst 4, 1), (27, .lushr, 1), (28, .ladd, 1), (29, .ldc2_w 318, 3), (32, .land, 1), (33, .lstore_n 0, 1), (34, .lload_n 0, 1), (35, .lload_n 0, 1), (36, .bipush 8, 2), (38, .lushr, 1), (39, .ladd, 1), (40, .lstore_n 0, 1), (41, .lload_n 0, 1), (42, .lload_n 0, 1), (43, .bipush 16, 2), (45, .lushr, 1), (46, .ladd, 1), (47, .lstore_n 0, 1), (48, .lload_n 0, 1), (49, .lload_n 0, 1), (50, .bipush 32, 2), (52, .lushr, 1), (53, .ladd, 1), (54, .lstore_n 0, 1), (55, .lload_n 0, 1), (56, .l2i, 1), (57, .bipush 127, 2), (59, .iand, 1), (60, .ireturn, 1)]
theorem tb_J13_bitCount_95d88 : ix_tab cJ13_bitCount_95d88 tab_J13_bitCount_95d88 := by
  unfold ix_tab
  decide +kernel
noncomputable def f_J13_bitCount_95d88 (n : Nat) (z : ix_Z) (y0 : Int64) (d : ix_D2) : Option (Int32 × ix_D2) :=
  ix_lt (y0 - (((y0.toUInt64 >>> ((1 : Int32).toInt64.toUInt64 &&& Int64.toUInt64 63)).toInt64) &&& 6148914691236517205)) (fun x0_1 => ix_lt ((x0_1 &&& 3689348814741910323) + (((x0_1.toUInt64 >>> ((2 : Int32).toInt64.toUInt64 &&& Int64.toUInt64 63)).toInt64) &&& 3689348814741910323)) (fun x0_3 => ix_lt ((x0_3 + ((x0_3.toUInt64 >>> ((4 : Int32).toInt64.toUInt64 &&& Int64.toUInt64 63)).toInt64)) &&& 1085102592571150095) (fun x0_5 => ix_lt (x0_5 + ((x0_5.toUInt64 >>> ((8 : Int32).toInt64.toUInt64 &&& Int64.toUInt64 63)).toInt64)) (fun x0_7 => ix_lt (x0_7 + ((x0_7.toUInt64 >>> ((16 : Int32).toInt64.toUInt64 &&& Int64.toUInt64 63)).toInt64)) (fun x0_9 => ix_lt (x0_9 + ((x0_9.toUInt64 >>> ((32 : Int32).toInt64.toUInt64 &&& Int64.toUInt64 63)).toInt64)) (fun x0_11 => some (x0_11.toInt32 &&& 127, d)))))))
set_option maxRecDepth 20000 in
theorem c_J13_bitCount_95d88 {l : Launch} {K : ix_Cx} (hKp : ix_Kp K) {n : Nat} {z : ix_Z} {y0 : Int64} {d : ix_D2} {r : Int32} {d1 : ix_D2} (h : f_J13_bitCount_95d88 n z y0 d = some (r, d1)) : ix_M l K yJ13_bitCount_95d88 cJ13_bitCount_95d88 2 (some .int) 0 0 0 0 [.long y0] (ix_w z d) (some (.int r)) (ix_w z d1) := by
  refine ix_met mf_J13_bitCount_95d88 hKp (Nat.le_of_ble_eq_true rfl) ?_
  intro p e s m args below meth c hr hlk hnm X
  have X : ix_X p s m args c K cJ13_bitCount_95d88 RJ13 2 := X
  show ix_G p l e (ix_rm 0 0 0 0) s m args below meth c (MQ below (ix_Post K (some (.int r)) (ix_w z d1)) args s 0 0 (ix_A K)) K 2 0 0 0 [(0, .long y0)] [] (ix_w z d)
  unfold f_J13_bitCount_95d88 at h
  refine ix_lload_n (i := 0) (j := 0) X (ix_tb_at tb_J13_bitCount_95d88 0 rfl) rfl rfl (pc1 := 1) rfl ?_
  refine ix_lload_n (i := 0) (j := 0) X (ix_tb_at tb_J13_bitCount_95d88 1 rfl) rfl rfl (pc1 := 2) rfl ?_
  refine ix_iconst (v := 1) X (ix_tb_at tb_J13_bitCount_95d88 2 rfl) (by decide) (pc1 := 3) rfl ?_
  refine ix_lushr X (ix_tb_at tb_J13_bitCount_95d88 3 rfl) (pc1 := 4) rfl ?_
  refine ix_ldc2 (pl := 1193) (v := 6148914691236517205) X (ix_tb_at tb_J13_bitCount_95d88 4 rfl) (by decide +kernel) (pc1 := 7) rfl ?_
  refine ix_land X (ix_tb_at tb_J13_bitCount_95d88 5 rfl) (pc1 := 8) rfl ?_
  refine ix_lsub X (ix_tb_at tb_J13_bitCount_95d88 6 rfl) (pc1 := 9) rfl ?_
  obtain ⟨x0_1, e_2, h⟩ := ix_lt_ex h
  refine ix_nml e_2 ?_
  refine ix_lstore_n (i := 0) (L1 := [(0, .long x0_1)]) X (ix_tb_at tb_J13_bitCount_95d88 7 rfl) rfl (Nat.le_of_ble_eq_true rfl) rfl (pc1 := 10) rfl ?_
  refine ix_lload_n (i := 0) (j := 0) X (ix_tb_at tb_J13_bitCount_95d88 8 rfl) rfl rfl (pc1 := 11) rfl ?_
  refine ix_ldc2 (pl := 1194) (v := 3689348814741910323) X (ix_tb_at tb_J13_bitCount_95d88 9 rfl) (by decide +kernel) (pc1 := 14) rfl ?_
  refine ix_land X (ix_tb_at tb_J13_bitCount_95d88 10 rfl) (pc1 := 15) rfl ?_
  refine ix_lload_n (i := 0) (j := 0) X (ix_tb_at tb_J13_bitCount_95d88 11 rfl) rfl rfl (pc1 := 16) rfl ?_
  refine ix_iconst (v := 2) X (ix_tb_at tb_J13_bitCount_95d88 12 rfl) (by decide) (pc1 := 17) rfl ?_
  refine ix_lushr X (ix_tb_at tb_J13_bitCount_95d88 13 rfl) (pc1 := 18) rfl ?_
  refine ix_ldc2 (pl := 1194) (v := 3689348814741910323) X (ix_tb_at tb_J13_bitCount_95d88 14 rfl) (by decide +kernel) (pc1 := 21) rfl ?_
  refine ix_land X (ix_tb_at tb_J13_bitCount_95d88 15 rfl) (pc1 := 22) rfl ?_
  refine ix_ladd X (ix_tb_at tb_J13_bitCount_95d88 16 rfl) (pc1 := 23) rfl ?_
  obtain ⟨x0_3, e_4, h⟩ := ix_lt_ex h
  refine ix_nml e_4 ?_
  refine ix_lstore_n (i := 0) (L1 := [(0, .long x0_3)]) X (ix_tb_at tb_J13_bitCount_95d88 17 rfl) rfl (Nat.le_of_ble_eq_true rfl) rfl (pc1 := 24) rfl ?_
  refine ix_lload_n (i := 0) (j := 0) X (ix_tb_at tb_J13_bitCount_95d88 18 rfl) rfl rfl (pc1 := 25) rfl ?_
  refine ix_lload_n (i := 0) (j := 0) X (ix_tb_at tb_J13_bitCount_95d88 19 rfl) rfl rfl (pc1 := 26) rfl ?_
  refine ix_iconst (v := 4) X (ix_tb_at tb_J13_bitCount_95d88 20 rfl) (by decide) (pc1 := 27) rfl ?_
  refine ix_lushr X (ix_tb_at tb_J13_bitCount_95d88 21 rfl) (pc1 := 28) rfl ?_
  refine ix_ladd X (ix_tb_at tb_J13_bitCount_95d88 22 rfl) (pc1 := 29) rfl ?_
  refine ix_ldc2 (pl := 1195) (v := 1085102592571150095) X (ix_tb_at tb_J13_bitCount_95d88 23 rfl) (by decide +kernel) (pc1 := 32) rfl ?_
  refine ix_land X (ix_tb_at tb_J13_bitCount_95d88 24 rfl) (pc1 := 33) rfl ?_
  obtain ⟨x0_5, e_6, h⟩ := ix_lt_ex h
  refine ix_nml e_6 ?_
  refine ix_lstore_n (i := 0) (L1 := [(0, .long x0_5)]) X (ix_tb_at tb_J13_bitCount_95d88 25 rfl) rfl (Nat.le_of_ble_eq_true rfl) rfl (pc1 := 34) rfl ?_
  refine ix_lload_n (i := 0) (j := 0) X (ix_tb_at tb_J13_bitCount_95d88 26 rfl) rfl rfl (pc1 := 35) rfl ?_
  refine ix_lload_n (i := 0) (j := 0) X (ix_tb_at tb_J13_bitCount_95d88 27 rfl) rfl rfl (pc1 := 36) rfl ?_
  refine ix_bipush (v := 8) X (ix_tb_at tb_J13_bitCount_95d88 28 rfl) (by decide) (pc1 := 38) rfl ?_
  refine ix_lushr X (ix_tb_at tb_J13_bitCount_95d88 29 rfl) (pc1 := 39) rfl ?_
  refine ix_ladd X (ix_tb_at tb_J13_bitCount_95d88 30 rfl) (pc1 := 40) rfl ?_
  obtain ⟨x0_7, e_8, h⟩ := ix_lt_ex h
  refine ix_nml e_8 ?_
  refine ix_lstore_n (i := 0) (L1 := [(0, .long x0_7)]) X (ix_tb_at tb_J13_bitCount_95d88 31 rfl) rfl (Nat.le_of_ble_eq_true rfl) rfl (pc1 := 41) rfl ?_
  refine ix_lload_n (i := 0) (j := 0) X (ix_tb_at tb_J13_bitCount_95d88 32 rfl) rfl rfl (pc1 := 42) rfl ?_
  refine ix_lload_n (i := 0) (j := 0) X (ix_tb_at tb_J13_bitCount_95d88 33 rfl) rfl rfl (pc1 := 43) rfl ?_
  refine ix_bipush (v := 16) X (ix_tb_at tb_J13_bitCount_95d88 34 rfl) (by decide) (pc1 := 45) rfl ?_
  refine ix_lushr X (ix_tb_at tb_J13_bitCount_95d88 35 rfl) (pc1 := 46) rfl ?_
  refine ix_ladd X (ix_tb_at tb_J13_bitCount_95d88 36 rfl) (pc1 := 47) rfl ?_
  obtain ⟨x0_9, e_10, h⟩ := ix_lt_ex h
  refine ix_nml e_10 ?_
  refine ix_lstore_n (i := 0) (L1 := [(0, .long x0_9)]) X (ix_tb_at tb_J13_bitCount_95d88 37 rfl) rfl (Nat.le_of_ble_eq_true rfl) rfl (pc1 := 48) rfl ?_
  refine ix_lload_n (i := 0) (j := 0) X (ix_tb_at tb_J13_bitCount_95d88 38 rfl) rfl rfl (pc1 := 49) rfl ?_
  refine ix_lload_n (i := 0) (j := 0) X (ix_tb_at tb_J13_bitCount_95d88 39 rfl) rfl rfl (pc1 := 50) rfl ?_
  refine ix_bipush (v := 32) X (ix_tb_at tb_J13_bitCount_95d88 40 rfl) (by decide) (pc1 := 52) rfl ?_
  refine ix_lushr X (ix_tb_at tb_J13_bitCount_95d88 41 rfl) (pc1 := 53) rfl ?_
  refine ix_ladd X (ix_tb_at tb_J13_bitCount_95d88 42 rfl) (pc1 := 54) rfl ?_
  obtain ⟨x0_11, e_12, h⟩ := ix_lt_ex h
  refine ix_nml e_12 ?_
  refine ix_lstore_n (i := 0) (L1 := [(0, .long x0_11)]) X (ix_tb_at tb_J13_bitCount_95d88 43 rfl) rfl (Nat.le_of_ble_eq_true rfl) rfl (pc1 := 55) rfl ?_
  refine ix_lload_n (i := 0) (j := 0) X (ix_tb_at tb_J13_bitCount_95d88 44 rfl) rfl rfl (pc1 := 56) rfl ?_
  refine ix_l2i X (ix_tb_at tb_J13_bitCount_95d88 45 rfl) (pc1 := 57) rfl ?_
  refine ix_bipush (v := 127) X (ix_tb_at tb_J13_bitCount_95d88 46 rfl) (by decide) (pc1 := 59) rfl ?_
  refine ix_iand X (ix_tb_at tb_J13_bitCount_95d88 47 rfl) (pc1 := 60) rfl ?_
  exact ix_iret X hr hlk (ix_r2 (f := fun r => some (.int r)) (g := ix_w z) h) (ix_tb_at tb_J13_bitCount_95d88 48 rfl)

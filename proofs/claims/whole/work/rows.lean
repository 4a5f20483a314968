section
-- ===== PART A: goes FIRST, ahead of the names: the tables' words, and 'selects' of the private methods out of them =====
/-- a private method of a class that the tables say can be made, by its rows of tables_1 -/
def lw_okq (q : MethodName × Nat) : Prop := (q.1.cls ≠ "java/lang/invoke/MethodHandle" ∧ q.1.cls ≠ "java/lang/invoke/VarHandle") ∧ Cond.instantiable q.1.cls q.2 ∈ tables_1 ∧ Cond.privateMethod q.1 ∈ tables_1 ∧ Cond.instanceMethod q.1 ∈ tables_1
theorem lw_p0 : lw_okq (⟨"ClauseCourt", "refuse", "(I)I"⟩, 18) := ⟨⟨by decide +kernel, by decide +kernel⟩, List.mem_of_getElem? (i := 25) (by decide +kernel), List.mem_of_getElem? (i := 405) (by decide +kernel), List.mem_of_getElem? (i := 406) (by decide +kernel)⟩
theorem lw_p1 : lw_okq (⟨"ClauseCourt", "lookForPlace", "(II)I"⟩, 18) := ⟨⟨by decide +kernel, by decide +kernel⟩, List.mem_of_getElem? (i := 25) (by decide +kernel), List.mem_of_getElem? (i := 424) (by decide +kernel), List.mem_of_getElem? (i := 425) (by decide +kernel)⟩
theorem lw_p2 : lw_okq (⟨"ClauseCourt", "lookForRow", "(I)I"⟩, 18) := ⟨⟨by decide +kernel, by decide +kernel⟩, List.mem_of_getElem? (i := 25) (by decide +kernel), List.mem_of_getElem? (i := 428) (by decide +kernel), List.mem_of_getElem? (i := 429) (by decide +kernel)⟩
theorem lw_p3 : lw_okq (⟨"ClauseCourt", "lookForItems", "(I)I"⟩, 18) := ⟨⟨by decide +kernel, by decide +kernel⟩, List.mem_of_getElem? (i := 25) (by decide +kernel), List.mem_of_getElem? (i := 472) (by decide +kernel), List.mem_of_getElem? (i := 473) (by decide +kernel)⟩
theorem lw_p4 : lw_okq (⟨"ClauseCourt", "itemsOf", "(I)[I"⟩, 18) := ⟨⟨by decide +kernel, by decide +kernel⟩, List.mem_of_getElem? (i := 25) (by decide +kernel), List.mem_of_getElem? (i := 485) (by decide +kernel), List.mem_of_getElem? (i := 486) (by decide +kernel)⟩
theorem lw_p5 : lw_okq (⟨"ClauseCourt", "admit", "(LClauseCourt$Rule;)I"⟩, 18) := ⟨⟨by decide +kernel, by decide +kernel⟩, List.mem_of_getElem? (i := 25) (by decide +kernel), List.mem_of_getElem? (i := 530) (by decide +kernel), List.mem_of_getElem? (i := 531) (by decide +kernel)⟩
theorem lw_p6 : lw_okq (⟨"ClauseCourt$Told", "layAll", "(LClauseCourt$Case;III)V"⟩, 6) := ⟨⟨by decide +kernel, by decide +kernel⟩, List.mem_of_getElem? (i := 604) (by decide +kernel), List.mem_of_getElem? (i := 602) (by decide +kernel), List.mem_of_getElem? (i := 603) (by decide +kernel)⟩
theorem lw_p7 : lw_okq (⟨"ClauseCourt$Told", "laySome", "(LClauseCourt$Case;III)V"⟩, 6) := ⟨⟨by decide +kernel, by decide +kernel⟩, List.mem_of_getElem? (i := 604) (by decide +kernel), List.mem_of_getElem? (i := 610) (by decide +kernel), List.mem_of_getElem? (i := 611) (by decide +kernel)⟩
theorem lw_p8 : lw_okq (⟨"ClauseCourt$Told", "addParts", "(LClauseCourt$Case;II)V"⟩, 6) := ⟨⟨by decide +kernel, by decide +kernel⟩, List.mem_of_getElem? (i := 604) (by decide +kernel), List.mem_of_getElem? (i := 614) (by decide +kernel), List.mem_of_getElem? (i := 615) (by decide +kernel)⟩
theorem lw_p9 : lw_okq (⟨"ClauseCourt$Told", "layJustOne", "(LClauseCourt$Case;III)V"⟩, 6) := ⟨⟨by decide +kernel, by decide +kernel⟩, List.mem_of_getElem? (i := 604) (by decide +kernel), List.mem_of_getElem? (i := 621) (by decide +kernel), List.mem_of_getElem? (i := 622) (by decide +kernel)⟩
theorem lw_p10 : lw_okq (⟨"ClauseCourt$Desk", "accepts", "(I)Z"⟩, 17) := ⟨⟨by decide +kernel, by decide +kernel⟩, List.mem_of_getElem? (i := 35) (by decide +kernel), List.mem_of_getElem? (i := 688) (by decide +kernel), List.mem_of_getElem? (i := 689) (by decide +kernel)⟩
theorem lw_p11 : lw_okq (⟨"ClauseCourt$Desk", "acceptsDigit", "(I)Z"⟩, 17) := ⟨⟨by decide +kernel, by decide +kernel⟩, List.mem_of_getElem? (i := 35) (by decide +kernel), List.mem_of_getElem? (i := 695) (by decide +kernel), List.mem_of_getElem? (i := 696) (by decide +kernel)⟩
theorem lw_p12 : lw_okq (⟨"ClauseCourt$Desk", "endNumber", "()V"⟩, 17) := ⟨⟨by decide +kernel, by decide +kernel⟩, List.mem_of_getElem? (i := 35) (by decide +kernel), List.mem_of_getElem? (i := 699) (by decide +kernel), List.mem_of_getElem? (i := 700) (by decide +kernel)⟩
theorem lw_p13 : lw_okq (⟨"ClauseCourt$Desk", "endPart", "(I)V"⟩, 17) := ⟨⟨by decide +kernel, by decide +kernel⟩, List.mem_of_getElem? (i := 35) (by decide +kernel), List.mem_of_getElem? (i := 703) (by decide +kernel), List.mem_of_getElem? (i := 704) (by decide +kernel)⟩
theorem lw_p14 : lw_okq (⟨"ClauseCourt$Desk", "acceptsPart", "(I)Z"⟩, 17) := ⟨⟨by decide +kernel, by decide +kernel⟩, List.mem_of_getElem? (i := 35) (by decide +kernel), List.mem_of_getElem? (i := 707) (by decide +kernel), List.mem_of_getElem? (i := 708) (by decide +kernel)⟩
theorem lw_p15 : lw_okq (⟨"ClauseCourt$Desk", "acceptsParen", "(I)Z"⟩, 17) := ⟨⟨by decide +kernel, by decide +kernel⟩, List.mem_of_getElem? (i := 35) (by decide +kernel), List.mem_of_getElem? (i := 794) (by decide +kernel), List.mem_of_getElem? (i := 795) (by decide +kernel)⟩
def lw_privs_1 : List (MethodName × Nat) := [(⟨"ClauseCourt", "refuse", "(I)I"⟩, 18), (⟨"ClauseCourt", "lookForPlace", "(II)I"⟩, 18), (⟨"ClauseCourt", "lookForRow", "(I)I"⟩, 18), (⟨"ClauseCourt", "lookForItems", "(I)I"⟩, 18), (⟨"ClauseCourt", "itemsOf", "(I)[I"⟩, 18), (⟨"ClauseCourt", "admit", "(LClauseCourt$Rule;)I"⟩, 18), (⟨"ClauseCourt$Told", "layAll", "(LClauseCourt$Case;III)V"⟩, 6), (⟨"ClauseCourt$Told", "laySome", "(LClauseCourt$Case;III)V"⟩, 6), (⟨"ClauseCourt$Told", "addParts", "(LClauseCourt$Case;II)V"⟩, 6), (⟨"ClauseCourt$Told", "layJustOne", "(LClauseCourt$Case;III)V"⟩, 6), (⟨"ClauseCourt$Desk", "accepts", "(I)Z"⟩, 17), (⟨"ClauseCourt$Desk", "acceptsDigit", "(I)Z"⟩, 17), (⟨"ClauseCourt$Desk", "endNumber", "()V"⟩, 17), (⟨"ClauseCourt$Desk", "endPart", "(I)V"⟩, 17), (⟨"ClauseCourt$Desk", "acceptsPart", "(I)Z"⟩, 17), (⟨"ClauseCourt$Desk", "acceptsParen", "(I)Z"⟩, 17)]
theorem lw_r1 : ∀ q ∈ lw_privs_1, lw_okq q := List.forall_mem_cons.mpr ⟨lw_p0, List.forall_mem_cons.mpr ⟨lw_p1, List.forall_mem_cons.mpr ⟨lw_p2, List.forall_mem_cons.mpr ⟨lw_p3, List.forall_mem_cons.mpr ⟨lw_p4, List.forall_mem_cons.mpr ⟨lw_p5, List.forall_mem_cons.mpr ⟨lw_p6, List.forall_mem_cons.mpr ⟨lw_p7, List.forall_mem_cons.mpr ⟨lw_p8, List.forall_mem_cons.mpr ⟨lw_p9, List.forall_mem_cons.mpr ⟨lw_p10, List.forall_mem_cons.mpr ⟨lw_p11, List.forall_mem_cons.mpr ⟨lw_p12, List.forall_mem_cons.mpr ⟨lw_p13, List.forall_mem_cons.mpr ⟨lw_p14, List.forall_mem_cons.mpr ⟨lw_p15, fun _ h => absurd h List.not_mem_nil⟩⟩⟩⟩⟩⟩⟩⟩⟩⟩⟩⟩⟩⟩⟩⟩
theorem lw_p16 : lw_okq (⟨"ClauseCourt$Desk", "acceptsBehind", "(I)Z"⟩, 17) := ⟨⟨by decide +kernel, by decide +kernel⟩, List.mem_of_getElem? (i := 35) (by decide +kernel), List.mem_of_getElem? (i := 798) (by decide +kernel), List.mem_of_getElem? (i := 799) (by decide +kernel)⟩
theorem lw_p17 : lw_okq (⟨"ClauseCourt", "ruleAt", "(I)LClauseCourt$Rule;"⟩, 18) := ⟨⟨by decide +kernel, by decide +kernel⟩, List.mem_of_getElem? (i := 25) (by decide +kernel), List.mem_of_getElem? (i := 843) (by decide +kernel), List.mem_of_getElem? (i := 844) (by decide +kernel)⟩
theorem lw_p18 : lw_okq (⟨"ClauseCourt", "saidYes", "()Z"⟩, 18) := ⟨⟨by decide +kernel, by decide +kernel⟩, List.mem_of_getElem? (i := 25) (by decide +kernel), List.mem_of_getElem? (i := 900) (by decide +kernel), List.mem_of_getElem? (i := 901) (by decide +kernel)⟩
theorem lw_p19 : lw_okq (⟨"ClauseCourt$Told", "isSo", "(III)Z"⟩, 6) := ⟨⟨by decide +kernel, by decide +kernel⟩, List.mem_of_getElem? (i := 604) (by decide +kernel), List.mem_of_getElem? (i := 958) (by decide +kernel), List.mem_of_getElem? (i := 959) (by decide +kernel)⟩
theorem lw_p20 : lw_okq (⟨"ClauseCourt", "isName", "(I)Z"⟩, 18) := ⟨⟨by decide +kernel, by decide +kernel⟩, List.mem_of_getElem? (i := 25) (by decide +kernel), List.mem_of_getElem? (i := 1116) (by decide +kernel), List.mem_of_getElem? (i := 1117) (by decide +kernel)⟩
theorem lw_p21 : lw_okq (⟨"ClauseCourt$Board", "sort", "(I)V"⟩, 17) := ⟨⟨by decide +kernel, by decide +kernel⟩, List.mem_of_getElem? (i := 193) (by decide +kernel), List.mem_of_getElem? (i := 1167) (by decide +kernel), List.mem_of_getElem? (i := 1168) (by decide +kernel)⟩
theorem lw_p22 : lw_okq (⟨"ClauseCourt$Solver", "refute", "(I)I"⟩, 20) := ⟨⟨by decide +kernel, by decide +kernel⟩, List.mem_of_getElem? (i := 187) (by decide +kernel), List.mem_of_getElem? (i := 1201) (by decide +kernel), List.mem_of_getElem? (i := 1202) (by decide +kernel)⟩
theorem lw_p23 : lw_okq (⟨"ClauseCourt$Solver", "gatherWhole", "(I)V"⟩, 20) := ⟨⟨by decide +kernel, by decide +kernel⟩, List.mem_of_getElem? (i := 187) (by decide +kernel), List.mem_of_getElem? (i := 1206) (by decide +kernel), List.mem_of_getElem? (i := 1207) (by decide +kernel)⟩
theorem lw_p24 : lw_okq (⟨"ClauseCourt$Solver", "gatherRow", "(I)V"⟩, 20) := ⟨⟨by decide +kernel, by decide +kernel⟩, List.mem_of_getElem? (i := 187) (by decide +kernel), List.mem_of_getElem? (i := 1210) (by decide +kernel), List.mem_of_getElem? (i := 1211) (by decide +kernel)⟩
theorem lw_p25 : lw_okq (⟨"ClauseCourt$Solver", "gatherFrom", "([JI)V"⟩, 20) := ⟨⟨by decide +kernel, by decide +kernel⟩, List.mem_of_getElem? (i := 187) (by decide +kernel), List.mem_of_getElem? (i := 1214) (by decide +kernel), List.mem_of_getElem? (i := 1215) (by decide +kernel)⟩
theorem lw_p26 : lw_okq (⟨"ClauseCourt$Solver", "gatherName", "(I)V"⟩, 20) := ⟨⟨by decide +kernel, by decide +kernel⟩, List.mem_of_getElem? (i := 187) (by decide +kernel), List.mem_of_getElem? (i := 1219) (by decide +kernel), List.mem_of_getElem? (i := 1220) (by decide +kernel)⟩
theorem lw_p27 : lw_okq (⟨"ClauseCourt$Solver", "keepLast", "()Z"⟩, 20) := ⟨⟨by decide +kernel, by decide +kernel⟩, List.mem_of_getElem? (i := 187) (by decide +kernel), List.mem_of_getElem? (i := 1223) (by decide +kernel), List.mem_of_getElem? (i := 1224) (by decide +kernel)⟩
theorem lw_p28 : lw_okq (⟨"ClauseCourt$Solver", "keepSources", "(I)V"⟩, 20) := ⟨⟨by decide +kernel, by decide +kernel⟩, List.mem_of_getElem? (i := 187) (by decide +kernel), List.mem_of_getElem? (i := 1236) (by decide +kernel), List.mem_of_getElem? (i := 1237) (by decide +kernel)⟩
theorem lw_p29 : lw_okq (⟨"ClauseCourt$Solver", "learn", "(I)I"⟩, 20) := ⟨⟨by decide +kernel, by decide +kernel⟩, List.mem_of_getElem? (i := 187) (by decide +kernel), List.mem_of_getElem? (i := 1245) (by decide +kernel), List.mem_of_getElem? (i := 1246) (by decide +kernel)⟩
theorem lw_p30 : lw_okq (⟨"ClauseCourt$Solver", "walkBack", "(II)I"⟩, 20) := ⟨⟨by decide +kernel, by decide +kernel⟩, List.mem_of_getElem? (i := 187) (by decide +kernel), List.mem_of_getElem? (i := 1249) (by decide +kernel), List.mem_of_getElem? (i := 1250) (by decide +kernel)⟩
theorem lw_p31 : lw_okq (⟨"ClauseCourt$Solver", "takeIn", "(II)I"⟩, 20) := ⟨⟨by decide +kernel, by decide +kernel⟩, List.mem_of_getElem? (i := 187) (by decide +kernel), List.mem_of_getElem? (i := 1253) (by decide +kernel), List.mem_of_getElem? (i := 1254) (by decide +kernel)⟩
def lw_privs_2 : List (MethodName × Nat) := [(⟨"ClauseCourt$Desk", "acceptsBehind", "(I)Z"⟩, 17), (⟨"ClauseCourt", "ruleAt", "(I)LClauseCourt$Rule;"⟩, 18), (⟨"ClauseCourt", "saidYes", "()Z"⟩, 18), (⟨"ClauseCourt$Told", "isSo", "(III)Z"⟩, 6), (⟨"ClauseCourt", "isName", "(I)Z"⟩, 18), (⟨"ClauseCourt$Board", "sort", "(I)V"⟩, 17), (⟨"ClauseCourt$Solver", "refute", "(I)I"⟩, 20), (⟨"ClauseCourt$Solver", "gatherWhole", "(I)V"⟩, 20), (⟨"ClauseCourt$Solver", "gatherRow", "(I)V"⟩, 20), (⟨"ClauseCourt$Solver", "gatherFrom", "([JI)V"⟩, 20), (⟨"ClauseCourt$Solver", "gatherName", "(I)V"⟩, 20), (⟨"ClauseCourt$Solver", "keepLast", "()Z"⟩, 20), (⟨"ClauseCourt$Solver", "keepSources", "(I)V"⟩, 20), (⟨"ClauseCourt$Solver", "learn", "(I)I"⟩, 20), (⟨"ClauseCourt$Solver", "walkBack", "(II)I"⟩, 20), (⟨"ClauseCourt$Solver", "takeIn", "(II)I"⟩, 20)]
theorem lw_r2 : ∀ q ∈ lw_privs_2, lw_okq q := List.forall_mem_cons.mpr ⟨lw_p16, List.forall_mem_cons.mpr ⟨lw_p17, List.forall_mem_cons.mpr ⟨lw_p18, List.forall_mem_cons.mpr ⟨lw_p19, List.forall_mem_cons.mpr ⟨lw_p20, List.forall_mem_cons.mpr ⟨lw_p21, List.forall_mem_cons.mpr ⟨lw_p22, List.forall_mem_cons.mpr ⟨lw_p23, List.forall_mem_cons.mpr ⟨lw_p24, List.forall_mem_cons.mpr ⟨lw_p25, List.forall_mem_cons.mpr ⟨lw_p26, List.forall_mem_cons.mpr ⟨lw_p27, List.forall_mem_cons.mpr ⟨lw_p28, List.forall_mem_cons.mpr ⟨lw_p29, List.forall_mem_cons.mpr ⟨lw_p30, List.forall_mem_cons.mpr ⟨lw_p31, fun _ h => absurd h List.not_mem_nil⟩⟩⟩⟩⟩⟩⟩⟩⟩⟩⟩⟩⟩⟩⟩⟩
theorem lw_p32 : lw_okq (⟨"ClauseCourt$Solver", "makeFresh", "(I)V"⟩, 20) := ⟨⟨by decide +kernel, by decide +kernel⟩, List.mem_of_getElem? (i := 187) (by decide +kernel), List.mem_of_getElem? (i := 1257) (by decide +kernel), List.mem_of_getElem? (i := 1258) (by decide +kernel)⟩
theorem lw_p33 : lw_okq (⟨"ClauseCourt$Solver", "pushFresh", "(I)V"⟩, 20) := ⟨⟨by decide +kernel, by decide +kernel⟩, List.mem_of_getElem? (i := 187) (by decide +kernel), List.mem_of_getElem? (i := 1261) (by decide +kernel), List.mem_of_getElem? (i := 1262) (by decide +kernel)⟩
theorem lw_p34 : lw_okq (⟨"ClauseCourt$Solver", "raiseWeights", "()I"⟩, 20) := ⟨⟨by decide +kernel, by decide +kernel⟩, List.mem_of_getElem? (i := 187) (by decide +kernel), List.mem_of_getElem? (i := 1265) (by decide +kernel), List.mem_of_getElem? (i := 1266) (by decide +kernel)⟩
theorem lw_p35 : lw_okq (⟨"ClauseCourt$Solver", "goBack", "()V"⟩, 20) := ⟨⟨by decide +kernel, by decide +kernel⟩, List.mem_of_getElem? (i := 187) (by decide +kernel), List.mem_of_getElem? (i := 1275) (by decide +kernel), List.mem_of_getElem? (i := 1276) (by decide +kernel)⟩
theorem lw_p36 : lw_okq (⟨"ClauseCourt$Board", "recount", "(II)V"⟩, 17) := ⟨⟨by decide +kernel, by decide +kernel⟩, List.mem_of_getElem? (i := 193) (by decide +kernel), List.mem_of_getElem? (i := 1285) (by decide +kernel), List.mem_of_getElem? (i := 1286) (by decide +kernel)⟩
theorem lw_p37 : lw_okq (⟨"ClauseCourt$Solver", "forgetSome", "()V"⟩, 20) := ⟨⟨by decide +kernel, by decide +kernel⟩, List.mem_of_getElem? (i := 187) (by decide +kernel), List.mem_of_getElem? (i := 1292) (by decide +kernel), List.mem_of_getElem? (i := 1293) (by decide +kernel)⟩
theorem lw_p38 : lw_okq (⟨"ClauseCourt$Solver", "isThere", "(I)Z"⟩, 20) := ⟨⟨by decide +kernel, by decide +kernel⟩, List.mem_of_getElem? (i := 187) (by decide +kernel), List.mem_of_getElem? (i := 1296) (by decide +kernel), List.mem_of_getElem? (i := 1297) (by decide +kernel)⟩
theorem lw_p39 : lw_okq (⟨"ClauseCourt$Solver", "queueByUse", "(I)V"⟩, 20) := ⟨⟨by decide +kernel, by decide +kernel⟩, List.mem_of_getElem? (i := 187) (by decide +kernel), List.mem_of_getElem? (i := 1307) (by decide +kernel), List.mem_of_getElem? (i := 1308) (by decide +kernel)⟩
theorem lw_p40 : lw_okq (⟨"ClauseCourt$Solver", "force", "(I)I"⟩, 20) := ⟨⟨by decide +kernel, by decide +kernel⟩, List.mem_of_getElem? (i := 187) (by decide +kernel), List.mem_of_getElem? (i := 1317) (by decide +kernel), List.mem_of_getElem? (i := 1318) (by decide +kernel)⟩
theorem lw_p41 : lw_okq (⟨"ClauseCourt$Solver", "keepNameSources", "(II)V"⟩, 20) := ⟨⟨by decide +kernel, by decide +kernel⟩, List.mem_of_getElem? (i := 187) (by decide +kernel), List.mem_of_getElem? (i := 1329) (by decide +kernel), List.mem_of_getElem? (i := 1330) (by decide +kernel)⟩
theorem lw_p42 : lw_okq (⟨"ClauseCourt$Solver", "choose", "(Z)I"⟩, 20) := ⟨⟨by decide +kernel, by decide +kernel⟩, List.mem_of_getElem? (i := 187) (by decide +kernel), List.mem_of_getElem? (i := 1333) (by decide +kernel), List.mem_of_getElem? (i := 1334) (by decide +kernel)⟩
theorem lw_p43 : lw_okq (⟨"ClauseCourt$Solver", "refuteAssumed", "(I)I"⟩, 20) := ⟨⟨by decide +kernel, by decide +kernel⟩, List.mem_of_getElem? (i := 187) (by decide +kernel), List.mem_of_getElem? (i := 1338) (by decide +kernel), List.mem_of_getElem? (i := 1339) (by decide +kernel)⟩
theorem lw_p44 : lw_okq (⟨"ClauseCourt$Solver", "markReason", "(I)V"⟩, 20) := ⟨⟨by decide +kernel, by decide +kernel⟩, List.mem_of_getElem? (i := 187) (by decide +kernel), List.mem_of_getElem? (i := 1342) (by decide +kernel), List.mem_of_getElem? (i := 1343) (by decide +kernel)⟩
theorem lw_p45 : lw_okq (⟨"ClauseCourt$Solver", "decide", "(I)I"⟩, 20) := ⟨⟨by decide +kernel, by decide +kernel⟩, List.mem_of_getElem? (i := 187) (by decide +kernel), List.mem_of_getElem? (i := 1347) (by decide +kernel), List.mem_of_getElem? (i := 1348) (by decide +kernel)⟩
theorem lw_p46 : lw_okq (⟨"ClauseCourt$Solver", "heaviestOpen", "()I"⟩, 20) := ⟨⟨by decide +kernel, by decide +kernel⟩, List.mem_of_getElem? (i := 187) (by decide +kernel), List.mem_of_getElem? (i := 1351) (by decide +kernel), List.mem_of_getElem? (i := 1352) (by decide +kernel)⟩
theorem lw_p47 : lw_okq (⟨"ClauseCourt", "heed", "(I)I"⟩, 18) := ⟨⟨by decide +kernel, by decide +kernel⟩, List.mem_of_getElem? (i := 25) (by decide +kernel), List.mem_of_getElem? (i := 1355) (by decide +kernel), List.mem_of_getElem? (i := 1356) (by decide +kernel)⟩
def lw_privs_3 : List (MethodName × Nat) := [(⟨"ClauseCourt$Solver", "makeFresh", "(I)V"⟩, 20), (⟨"ClauseCourt$Solver", "pushFresh", "(I)V"⟩, 20), (⟨"ClauseCourt$Solver", "raiseWeights", "()I"⟩, 20), (⟨"ClauseCourt$Solver", "goBack", "()V"⟩, 20), (⟨"ClauseCourt$Board", "recount", "(II)V"⟩, 17), (⟨"ClauseCourt$Solver", "forgetSome", "()V"⟩, 20), (⟨"ClauseCourt$Solver", "isThere", "(I)Z"⟩, 20), (⟨"ClauseCourt$Solver", "queueByUse", "(I)V"⟩, 20), (⟨"ClauseCourt$Solver", "force", "(I)I"⟩, 20), (⟨"ClauseCourt$Solver", "keepNameSources", "(II)V"⟩, 20), (⟨"ClauseCourt$Solver", "choose", "(Z)I"⟩, 20), (⟨"ClauseCourt$Solver", "refuteAssumed", "(I)I"⟩, 20), (⟨"ClauseCourt$Solver", "markReason", "(I)V"⟩, 20), (⟨"ClauseCourt$Solver", "decide", "(I)I"⟩, 20), (⟨"ClauseCourt$Solver", "heaviestOpen", "()I"⟩, 20), (⟨"ClauseCourt", "heed", "(I)I"⟩, 18)]
theorem lw_r3 : ∀ q ∈ lw_privs_3, lw_okq q := List.forall_mem_cons.mpr ⟨lw_p32, List.forall_mem_cons.mpr ⟨lw_p33, List.forall_mem_cons.mpr ⟨lw_p34, List.forall_mem_cons.mpr ⟨lw_p35, List.forall_mem_cons.mpr ⟨lw_p36, List.forall_mem_cons.mpr ⟨lw_p37, List.forall_mem_cons.mpr ⟨lw_p38, List.forall_mem_cons.mpr ⟨lw_p39, List.forall_mem_cons.mpr ⟨lw_p40, List.forall_mem_cons.mpr ⟨lw_p41, List.forall_mem_cons.mpr ⟨lw_p42, List.forall_mem_cons.mpr ⟨lw_p43, List.forall_mem_cons.mpr ⟨lw_p44, List.forall_mem_cons.mpr ⟨lw_p45, List.forall_mem_cons.mpr ⟨lw_p46, List.forall_mem_cons.mpr ⟨lw_p47, fun _ h => absurd h List.not_mem_nil⟩⟩⟩⟩⟩⟩⟩⟩⟩⟩⟩⟩⟩⟩⟩⟩
theorem lw_p48 : lw_okq (⟨"ClauseCourt", "keepCore", "()V"⟩, 18) := ⟨⟨by decide +kernel, by decide +kernel⟩, List.mem_of_getElem? (i := 25) (by decide +kernel), List.mem_of_getElem? (i := 1359) (by decide +kernel), List.mem_of_getElem? (i := 1360) (by decide +kernel)⟩
theorem lw_p49 : lw_okq (⟨"ClauseCourt", "saidNo", "()Z"⟩, 18) := ⟨⟨by decide +kernel, by decide +kernel⟩, List.mem_of_getElem? (i := 25) (by decide +kernel), List.mem_of_getElem? (i := 1390) (by decide +kernel), List.mem_of_getElem? (i := 1391) (by decide +kernel)⟩
theorem lw_p50 : lw_okq (⟨"ClauseCourt", "layWithout", "(I)V"⟩, 18) := ⟨⟨by decide +kernel, by decide +kernel⟩, List.mem_of_getElem? (i := 25) (by decide +kernel), List.mem_of_getElem? (i := 1403) (by decide +kernel), List.mem_of_getElem? (i := 1404) (by decide +kernel)⟩
theorem lw_p51 : lw_okq (⟨"ClauseCourt", "supposeItems", "(I)V"⟩, 18) := ⟨⟨by decide +kernel, by decide +kernel⟩, List.mem_of_getElem? (i := 25) (by decide +kernel), List.mem_of_getElem? (i := 1408) (by decide +kernel), List.mem_of_getElem? (i := 1409) (by decide +kernel)⟩
theorem lw_p52 : lw_okq (⟨"ClauseCourt", "dismiss", "(I)V"⟩, 18) := ⟨⟨by decide +kernel, by decide +kernel⟩, List.mem_of_getElem? (i := 25) (by decide +kernel), List.mem_of_getElem? (i := 1412) (by decide +kernel), List.mem_of_getElem? (i := 1413) (by decide +kernel)⟩
theorem lw_p53 : lw_okq (⟨"ClauseCourt", "laySet", "(I)V"⟩, 18) := ⟨⟨by decide +kernel, by decide +kernel⟩, List.mem_of_getElem? (i := 25) (by decide +kernel), List.mem_of_getElem? (i := 1426) (by decide +kernel), List.mem_of_getElem? (i := 1427) (by decide +kernel)⟩
theorem lw_p54 : lw_okq (⟨"ClauseCourt", "keepSet", "(I)V"⟩, 18) := ⟨⟨by decide +kernel, by decide +kernel⟩, List.mem_of_getElem? (i := 25) (by decide +kernel), List.mem_of_getElem? (i := 1430) (by decide +kernel), List.mem_of_getElem? (i := 1431) (by decide +kernel)⟩
theorem lw_p55 : lw_okq (⟨"ClauseCourt", "firstRefused", "()I"⟩, 18) := ⟨⟨by decide +kernel, by decide +kernel⟩, List.mem_of_getElem? (i := 25) (by decide +kernel), List.mem_of_getElem? (i := 1461) (by decide +kernel), List.mem_of_getElem? (i := 1462) (by decide +kernel)⟩
theorem lw_p56 : lw_okq (⟨"ClauseCourt", "endsRightly", "()Z"⟩, 18) := ⟨⟨by decide +kernel, by decide +kernel⟩, List.mem_of_getElem? (i := 25) (by decide +kernel), List.mem_of_getElem? (i := 1480) (by decide +kernel), List.mem_of_getElem? (i := 1481) (by decide +kernel)⟩
theorem lw_p57 : lw_okq (⟨"ClauseCourt", "forceCase", "()I"⟩, 18) := ⟨⟨by decide +kernel, by decide +kernel⟩, List.mem_of_getElem? (i := 25) (by decide +kernel), List.mem_of_getElem? (i := 1519) (by decide +kernel), List.mem_of_getElem? (i := 1520) (by decide +kernel)⟩
theorem lw_p58 : lw_okq (⟨"ClauseCourtModel", "fail", "(I)I"⟩, 116) := ⟨⟨by decide +kernel, by decide +kernel⟩, List.mem_of_getElem? (i := 1559) (by decide +kernel), List.mem_of_getElem? (i := 1921) (by decide +kernel), List.mem_of_getElem? (i := 1922) (by decide +kernel)⟩
theorem lw_p59 : lw_okq (⟨"ClauseCourtModel", "takeItems", "(I)I"⟩, 116) := ⟨⟨by decide +kernel, by decide +kernel⟩, List.mem_of_getElem? (i := 1559) (by decide +kernel), List.mem_of_getElem? (i := 1966) (by decide +kernel), List.mem_of_getElem? (i := 1967) (by decide +kernel)⟩
theorem lw_p60 : lw_okq (⟨"ClauseCourtModel", "wrongItem", "(I)I"⟩, 116) := ⟨⟨by decide +kernel, by decide +kernel⟩, List.mem_of_getElem? (i := 1559) (by decide +kernel), List.mem_of_getElem? (i := 1970) (by decide +kernel), List.mem_of_getElem? (i := 1971) (by decide +kernel)⟩
theorem lw_p61 : lw_okq (⟨"ClauseCourtModel", "beginLaying", "()V"⟩, 116) := ⟨⟨by decide +kernel, by decide +kernel⟩, List.mem_of_getElem? (i := 1559) (by decide +kernel), List.mem_of_getElem? (i := 1977) (by decide +kernel), List.mem_of_getElem? (i := 1978) (by decide +kernel)⟩
theorem lw_p62 : lw_okq (⟨"ClauseCourtModel", "lay", "(I)V"⟩, 116) := ⟨⟨by decide +kernel, by decide +kernel⟩, List.mem_of_getElem? (i := 1559) (by decide +kernel), List.mem_of_getElem? (i := 1981) (by decide +kernel), List.mem_of_getElem? (i := 1982) (by decide +kernel)⟩
theorem lw_p63 : lw_okq (⟨"ClauseCourtModel", "endRow", "()V"⟩, 116) := ⟨⟨by decide +kernel, by decide +kernel⟩, List.mem_of_getElem? (i := 1559) (by decide +kernel), List.mem_of_getElem? (i := 1985) (by decide +kernel), List.mem_of_getElem? (i := 1986) (by decide +kernel)⟩
def lw_privs_4 : List (MethodName × Nat) := [(⟨"ClauseCourt", "keepCore", "()V"⟩, 18), (⟨"ClauseCourt", "saidNo", "()Z"⟩, 18), (⟨"ClauseCourt", "layWithout", "(I)V"⟩, 18), (⟨"ClauseCourt", "supposeItems", "(I)V"⟩, 18), (⟨"ClauseCourt", "dismiss", "(I)V"⟩, 18), (⟨"ClauseCourt", "laySet", "(I)V"⟩, 18), (⟨"ClauseCourt", "keepSet", "(I)V"⟩, 18), (⟨"ClauseCourt", "firstRefused", "()I"⟩, 18), (⟨"ClauseCourt", "endsRightly", "()Z"⟩, 18), (⟨"ClauseCourt", "forceCase", "()I"⟩, 18), (⟨"ClauseCourtModel", "fail", "(I)I"⟩, 116), (⟨"ClauseCourtModel", "takeItems", "(I)I"⟩, 116), (⟨"ClauseCourtModel", "wrongItem", "(I)I"⟩, 116), (⟨"ClauseCourtModel", "beginLaying", "()V"⟩, 116), (⟨"ClauseCourtModel", "lay", "(I)V"⟩, 116), (⟨"ClauseCourtModel", "endRow", "()V"⟩, 116)]
theorem lw_r4 : ∀ q ∈ lw_privs_4, lw_okq q := List.forall_mem_cons.mpr ⟨lw_p48, List.forall_mem_cons.mpr ⟨lw_p49, List.forall_mem_cons.mpr ⟨lw_p50, List.forall_mem_cons.mpr ⟨lw_p51, List.forall_mem_cons.mpr ⟨lw_p52, List.forall_mem_cons.mpr ⟨lw_p53, List.forall_mem_cons.mpr ⟨lw_p54, List.forall_mem_cons.mpr ⟨lw_p55, List.forall_mem_cons.mpr ⟨lw_p56, List.forall_mem_cons.mpr ⟨lw_p57, List.forall_mem_cons.mpr ⟨lw_p58, List.forall_mem_cons.mpr ⟨lw_p59, List.forall_mem_cons.mpr ⟨lw_p60, List.forall_mem_cons.mpr ⟨lw_p61, List.forall_mem_cons.mpr ⟨lw_p62, List.forall_mem_cons.mpr ⟨lw_p63, fun _ h => absurd h List.not_mem_nil⟩⟩⟩⟩⟩⟩⟩⟩⟩⟩⟩⟩⟩⟩⟩⟩
theorem lw_p64 : lw_okq (⟨"ClauseCourtModel", "keepRule", "(IIZ)I"⟩, 116) := ⟨⟨by decide +kernel, by decide +kernel⟩, List.mem_of_getElem? (i := 1559) (by decide +kernel), List.mem_of_getElem? (i := 1989) (by decide +kernel), List.mem_of_getElem? (i := 1990) (by decide +kernel)⟩
theorem lw_p65 : lw_okq (⟨"ClauseCourtModel", "summed", "(IIZ)I"⟩, 116) := ⟨⟨by decide +kernel, by decide +kernel⟩, List.mem_of_getElem? (i := 1559) (by decide +kernel), List.mem_of_getElem? (i := 1997) (by decide +kernel), List.mem_of_getElem? (i := 1998) (by decide +kernel)⟩
theorem lw_p66 : lw_okq (⟨"ClauseCourtModel", "layAtMost", "(IZ)V"⟩, 116) := ⟨⟨by decide +kernel, by decide +kernel⟩, List.mem_of_getElem? (i := 1559) (by decide +kernel), List.mem_of_getElem? (i := 2001) (by decide +kernel), List.mem_of_getElem? (i := 2002) (by decide +kernel)⟩
theorem lw_p67 : lw_okq (⟨"ClauseCourtModel", "newName", "()I"⟩, 116) := ⟨⟨by decide +kernel, by decide +kernel⟩, List.mem_of_getElem? (i := 1559) (by decide +kernel), List.mem_of_getElem? (i := 2005) (by decide +kernel), List.mem_of_getElem? (i := 2006) (by decide +kernel)⟩
theorem lw_p68 : lw_okq (⟨"ClauseCourtModel", "layTwo", "(II)V"⟩, 116) := ⟨⟨by decide +kernel, by decide +kernel⟩, List.mem_of_getElem? (i := 1559) (by decide +kernel), List.mem_of_getElem? (i := 2009) (by decide +kernel), List.mem_of_getElem? (i := 2010) (by decide +kernel)⟩
theorem lw_p69 : lw_okq (⟨"ClauseCourtModel", "layThree", "(III)V"⟩, 116) := ⟨⟨by decide +kernel, by decide +kernel⟩, List.mem_of_getElem? (i := 1559) (by decide +kernel), List.mem_of_getElem? (i := 2013) (by decide +kernel), List.mem_of_getElem? (i := 2014) (by decide +kernel)⟩
theorem lw_p70 : lw_okq (⟨"ClauseCourtModel", "layParity", "(Z)V"⟩, 116) := ⟨⟨by decide +kernel, by decide +kernel⟩, List.mem_of_getElem? (i := 1559) (by decide +kernel), List.mem_of_getElem? (i := 2025) (by decide +kernel), List.mem_of_getElem? (i := 2026) (by decide +kernel)⟩
theorem lw_p71 : lw_okq (⟨"ClauseCourtModel", "faultOfTape", "()I"⟩, 116) := ⟨⟨by decide +kernel, by decide +kernel⟩, List.mem_of_getElem? (i := 1559) (by decide +kernel), List.mem_of_getElem? (i := 2033) (by decide +kernel), List.mem_of_getElem? (i := 2034) (by decide +kernel)⟩
theorem lw_p72 : lw_okq (⟨"ClauseCourtModel", "beginPart", "()Z"⟩, 116) := ⟨⟨by decide +kernel, by decide +kernel⟩, List.mem_of_getElem? (i := 1559) (by decide +kernel), List.mem_of_getElem? (i := 2037) (by decide +kernel), List.mem_of_getElem? (i := 2038) (by decide +kernel)⟩
theorem lw_p73 : lw_okq (⟨"ClauseCourtModel", "byteAt", "(I)I"⟩, 116) := ⟨⟨by decide +kernel, by decide +kernel⟩, List.mem_of_getElem? (i := 1559) (by decide +kernel), List.mem_of_getElem? (i := 2041) (by decide +kernel), List.mem_of_getElem? (i := 2042) (by decide +kernel)⟩
theorem lw_p74 : lw_okq (⟨"ClauseCourtModel", "endPart", "()Z"⟩, 116) := ⟨⟨by decide +kernel, by decide +kernel⟩, List.mem_of_getElem? (i := 1559) (by decide +kernel), List.mem_of_getElem? (i := 2048) (by decide +kernel), List.mem_of_getElem? (i := 2049) (by decide +kernel)⟩
theorem lw_p75 : lw_okq (⟨"ClauseCourtModel", "layPart", "(I)V"⟩, 116) := ⟨⟨by decide +kernel, by decide +kernel⟩, List.mem_of_getElem? (i := 1559) (by decide +kernel), List.mem_of_getElem? (i := 2052) (by decide +kernel), List.mem_of_getElem? (i := 2053) (by decide +kernel)⟩
theorem lw_p76 : lw_okq (⟨"ClauseCourtModel", "layJust", "(III)V"⟩, 116) := ⟨⟨by decide +kernel, by decide +kernel⟩, List.mem_of_getElem? (i := 1559) (by decide +kernel), List.mem_of_getElem? (i := 2056) (by decide +kernel), List.mem_of_getElem? (i := 2057) (by decide +kernel)⟩
theorem lw_p77 : lw_okq (⟨"ClauseCourtModel", "isRule", "(I)Z"⟩, 116) := ⟨⟨by decide +kernel, by decide +kernel⟩, List.mem_of_getElem? (i := 1559) (by decide +kernel), List.mem_of_getElem? (i := 2064) (by decide +kernel), List.mem_of_getElem? (i := 2065) (by decide +kernel)⟩
theorem lw_p78 : lw_okq (⟨"ClauseCourtModel", "sizeOf", "(II)I"⟩, 116) := ⟨⟨by decide +kernel, by decide +kernel⟩, List.mem_of_getElem? (i := 1559) (by decide +kernel), List.mem_of_getElem? (i := 2084) (by decide +kernel), List.mem_of_getElem? (i := 2085) (by decide +kernel)⟩
theorem lw_p79 : lw_okq (⟨"ClauseCourtModel", "itemOf", "(III)I"⟩, 116) := ⟨⟨by decide +kernel, by decide +kernel⟩, List.mem_of_getElem? (i := 1559) (by decide +kernel), List.mem_of_getElem? (i := 2088) (by decide +kernel), List.mem_of_getElem? (i := 2089) (by decide +kernel)⟩
def lw_privs_5 : List (MethodName × Nat) := [(⟨"ClauseCourtModel", "keepRule", "(IIZ)I"⟩, 116), (⟨"ClauseCourtModel", "summed", "(IIZ)I"⟩, 116), (⟨"ClauseCourtModel", "layAtMost", "(IZ)V"⟩, 116), (⟨"ClauseCourtModel", "newName", "()I"⟩, 116), (⟨"ClauseCourtModel", "layTwo", "(II)V"⟩, 116), (⟨"ClauseCourtModel", "layThree", "(III)V"⟩, 116), (⟨"ClauseCourtModel", "layParity", "(Z)V"⟩, 116), (⟨"ClauseCourtModel", "faultOfTape", "()I"⟩, 116), (⟨"ClauseCourtModel", "beginPart", "()Z"⟩, 116), (⟨"ClauseCourtModel", "byteAt", "(I)I"⟩, 116), (⟨"ClauseCourtModel", "endPart", "()Z"⟩, 116), (⟨"ClauseCourtModel", "layPart", "(I)V"⟩, 116), (⟨"ClauseCourtModel", "layJust", "(III)V"⟩, 116), (⟨"ClauseCourtModel", "isRule", "(I)Z"⟩, 116), (⟨"ClauseCourtModel", "sizeOf", "(II)I"⟩, 116), (⟨"ClauseCourtModel", "itemOf", "(III)I"⟩, 116)]
theorem lw_r5 : ∀ q ∈ lw_privs_5, lw_okq q := List.forall_mem_cons.mpr ⟨lw_p64, List.forall_mem_cons.mpr ⟨lw_p65, List.forall_mem_cons.mpr ⟨lw_p66, List.forall_mem_cons.mpr ⟨lw_p67, List.forall_mem_cons.mpr ⟨lw_p68, List.forall_mem_cons.mpr ⟨lw_p69, List.forall_mem_cons.mpr ⟨lw_p70, List.forall_mem_cons.mpr ⟨lw_p71, List.forall_mem_cons.mpr ⟨lw_p72, List.forall_mem_cons.mpr ⟨lw_p73, List.forall_mem_cons.mpr ⟨lw_p74, List.forall_mem_cons.mpr ⟨lw_p75, List.forall_mem_cons.mpr ⟨lw_p76, List.forall_mem_cons.mpr ⟨lw_p77, List.forall_mem_cons.mpr ⟨lw_p78, List.forall_mem_cons.mpr ⟨lw_p79, fun _ h => absurd h List.not_mem_nil⟩⟩⟩⟩⟩⟩⟩⟩⟩⟩⟩⟩⟩⟩⟩⟩
theorem lw_p80 : lw_okq (⟨"ClauseCourtModel", "holds", "(I)Z"⟩, 116) := ⟨⟨by decide +kernel, by decide +kernel⟩, List.mem_of_getElem? (i := 1559) (by decide +kernel), List.mem_of_getElem? (i := 2096) (by decide +kernel), List.mem_of_getElem? (i := 2097) (by decide +kernel)⟩
theorem lw_p81 : lw_okq (⟨"ClauseCourtModel", "mark", "(I)V"⟩, 116) := ⟨⟨by decide +kernel, by decide +kernel⟩, List.mem_of_getElem? (i := 1559) (by decide +kernel), List.mem_of_getElem? (i := 2100) (by decide +kernel), List.mem_of_getElem? (i := 2101) (by decide +kernel)⟩
theorem lw_p82 : lw_okq (⟨"ClauseCourtModel", "isTextSo", "(I)Z"⟩, 116) := ⟨⟨by decide +kernel, by decide +kernel⟩, List.mem_of_getElem? (i := 1559) (by decide +kernel), List.mem_of_getElem? (i := 2104) (by decide +kernel), List.mem_of_getElem? (i := 2105) (by decide +kernel)⟩
theorem lw_p83 : lw_okq (⟨"ClauseCourtModel", "isTrue", "(I)Z"⟩, 116) := ⟨⟨by decide +kernel, by decide +kernel⟩, List.mem_of_getElem? (i := 1559) (by decide +kernel), List.mem_of_getElem? (i := 2108) (by decide +kernel), List.mem_of_getElem? (i := 2109) (by decide +kernel)⟩
theorem lw_p84 : lw_okq (⟨"ClauseCourtModel", "truesOf", "(I)I"⟩, 116) := ⟨⟨by decide +kernel, by decide +kernel⟩, List.mem_of_getElem? (i := 1559) (by decide +kernel), List.mem_of_getElem? (i := 2112) (by decide +kernel), List.mem_of_getElem? (i := 2113) (by decide +kernel)⟩
theorem lw_p85 : lw_okq (⟨"ClauseCourtModel", "leastTrue", "(II)I"⟩, 116) := ⟨⟨by decide +kernel, by decide +kernel⟩, List.mem_of_getElem? (i := 1559) (by decide +kernel), List.mem_of_getElem? (i := 2116) (by decide +kernel), List.mem_of_getElem? (i := 2117) (by decide +kernel)⟩
theorem lw_p86 : lw_okq (⟨"ClauseCourtModel", "mostTrue", "(II)I"⟩, 116) := ⟨⟨by decide +kernel, by decide +kernel⟩, List.mem_of_getElem? (i := 1559) (by decide +kernel), List.mem_of_getElem? (i := 2120) (by decide +kernel), List.mem_of_getElem? (i := 2121) (by decide +kernel)⟩
theorem lw_p87 : lw_okq (⟨"ClauseCourtModel", "write", "(I)V"⟩, 116) := ⟨⟨by decide +kernel, by decide +kernel⟩, List.mem_of_getElem? (i := 1559) (by decide +kernel), List.mem_of_getElem? (i := 2128) (by decide +kernel), List.mem_of_getElem? (i := 2129) (by decide +kernel)⟩
theorem lw_p88 : lw_okq (⟨"ClauseCourtModel", "writeWord", "(I)V"⟩, 116) := ⟨⟨by decide +kernel, by decide +kernel⟩, List.mem_of_getElem? (i := 1559) (by decide +kernel), List.mem_of_getElem? (i := 2132) (by decide +kernel), List.mem_of_getElem? (i := 2133) (by decide +kernel)⟩
theorem lw_p89 : lw_okq (⟨"ClauseCourtModel", "writeNumber", "(I)V"⟩, 116) := ⟨⟨by decide +kernel, by decide +kernel⟩, List.mem_of_getElem? (i := 1559) (by decide +kernel), List.mem_of_getElem? (i := 2136) (by decide +kernel), List.mem_of_getElem? (i := 2137) (by decide +kernel)⟩
theorem lw_p90 : lw_okq (⟨"ClauseCourtModel", "writeList", "(I)V"⟩, 116) := ⟨⟨by decide +kernel, by decide +kernel⟩, List.mem_of_getElem? (i := 1559) (by decide +kernel), List.mem_of_getElem? (i := 2140) (by decide +kernel), List.mem_of_getElem? (i := 2141) (by decide +kernel)⟩
theorem lw_p91 : lw_okq (⟨"ClauseCourtModel", "wrongToAssume", "(I)I"⟩, 116) := ⟨⟨by decide +kernel, by decide +kernel⟩, List.mem_of_getElem? (i := 1559) (by decide +kernel), List.mem_of_getElem? (i := 2160) (by decide +kernel), List.mem_of_getElem? (i := 2161) (by decide +kernel)⟩
theorem lw_p92 : lw_okq (⟨"ClauseCourtModel", "isName", "(I)Z"⟩, 116) := ⟨⟨by decide +kernel, by decide +kernel⟩, List.mem_of_getElem? (i := 1559) (by decide +kernel), List.mem_of_getElem? (i := 2172) (by decide +kernel), List.mem_of_getElem? (i := 2173) (by decide +kernel)⟩
theorem lw_p93 : lw_okq (⟨"ClauseCourtModel", "prepare", "(I)V"⟩, 116) := ⟨⟨by decide +kernel, by decide +kernel⟩, List.mem_of_getElem? (i := 1559) (by decide +kernel), List.mem_of_getElem? (i := 2195) (by decide +kernel), List.mem_of_getElem? (i := 2196) (by decide +kernel)⟩
theorem lw_p94 : lw_okq (⟨"ClauseCourtModel", "askAll", "(I)V"⟩, 116) := ⟨⟨by decide +kernel, by decide +kernel⟩, List.mem_of_getElem? (i := 1559) (by decide +kernel), List.mem_of_getElem? (i := 2200) (by decide +kernel), List.mem_of_getElem? (i := 2201) (by decide +kernel)⟩
theorem lw_p95 : lw_okq (⟨"ClauseCourtModel", "solving", "(I)I"⟩, 116) := ⟨⟨by decide +kernel, by decide +kernel⟩, List.mem_of_getElem? (i := 1559) (by decide +kernel), List.mem_of_getElem? (i := 2204) (by decide +kernel), List.mem_of_getElem? (i := 2205) (by decide +kernel)⟩
def lw_privs_6 : List (MethodName × Nat) := [(⟨"ClauseCourtModel", "holds", "(I)Z"⟩, 116), (⟨"ClauseCourtModel", "mark", "(I)V"⟩, 116), (⟨"ClauseCourtModel", "isTextSo", "(I)Z"⟩, 116), (⟨"ClauseCourtModel", "isTrue", "(I)Z"⟩, 116), (⟨"ClauseCourtModel", "truesOf", "(I)I"⟩, 116), (⟨"ClauseCourtModel", "leastTrue", "(II)I"⟩, 116), (⟨"ClauseCourtModel", "mostTrue", "(II)I"⟩, 116), (⟨"ClauseCourtModel", "write", "(I)V"⟩, 116), (⟨"ClauseCourtModel", "writeWord", "(I)V"⟩, 116), (⟨"ClauseCourtModel", "writeNumber", "(I)V"⟩, 116), (⟨"ClauseCourtModel", "writeList", "(I)V"⟩, 116), (⟨"ClauseCourtModel", "wrongToAssume", "(I)I"⟩, 116), (⟨"ClauseCourtModel", "isName", "(I)Z"⟩, 116), (⟨"ClauseCourtModel", "prepare", "(I)V"⟩, 116), (⟨"ClauseCourtModel", "askAll", "(I)V"⟩, 116), (⟨"ClauseCourtModel", "solving", "(I)I"⟩, 116)]
theorem lw_r6 : ∀ q ∈ lw_privs_6, lw_okq q := List.forall_mem_cons.mpr ⟨lw_p80, List.forall_mem_cons.mpr ⟨lw_p81, List.forall_mem_cons.mpr ⟨lw_p82, List.forall_mem_cons.mpr ⟨lw_p83, List.forall_mem_cons.mpr ⟨lw_p84, List.forall_mem_cons.mpr ⟨lw_p85, List.forall_mem_cons.mpr ⟨lw_p86, List.forall_mem_cons.mpr ⟨lw_p87, List.forall_mem_cons.mpr ⟨lw_p88, List.forall_mem_cons.mpr ⟨lw_p89, List.forall_mem_cons.mpr ⟨lw_p90, List.forall_mem_cons.mpr ⟨lw_p91, List.forall_mem_cons.mpr ⟨lw_p92, List.forall_mem_cons.mpr ⟨lw_p93, List.forall_mem_cons.mpr ⟨lw_p94, List.forall_mem_cons.mpr ⟨lw_p95, fun _ h => absurd h List.not_mem_nil⟩⟩⟩⟩⟩⟩⟩⟩⟩⟩⟩⟩⟩⟩⟩⟩
theorem lw_p96 : lw_okq (⟨"ClauseCourtModel", "oneTurn", "(I)I"⟩, 116) := ⟨⟨by decide +kernel, by decide +kernel⟩, List.mem_of_getElem? (i := 1559) (by decide +kernel), List.mem_of_getElem? (i := 2208) (by decide +kernel), List.mem_of_getElem? (i := 2209) (by decide +kernel)⟩
theorem lw_p97 : lw_okq (⟨"ClauseCourtModel", "find", "(I)V"⟩, 116) := ⟨⟨by decide +kernel, by decide +kernel⟩, List.mem_of_getElem? (i := 1559) (by decide +kernel), List.mem_of_getElem? (i := 2212) (by decide +kernel), List.mem_of_getElem? (i := 2213) (by decide +kernel)⟩
theorem lw_p98 : lw_okq (⟨"ClauseCourtModel", "goOver", "(II)Z"⟩, 116) := ⟨⟨by decide +kernel, by decide +kernel⟩, List.mem_of_getElem? (i := 1559) (by decide +kernel), List.mem_of_getElem? (i := 2216) (by decide +kernel), List.mem_of_getElem? (i := 2217) (by decide +kernel)⟩
theorem lw_p99 : lw_okq (⟨"ClauseCourtModel", "look", "(II)I"⟩, 116) := ⟨⟨by decide +kernel, by decide +kernel⟩, List.mem_of_getElem? (i := 1559) (by decide +kernel), List.mem_of_getElem? (i := 2220) (by decide +kernel), List.mem_of_getElem? (i := 2221) (by decide +kernel)⟩
theorem lw_p100 : lw_okq (⟨"ClauseCourtModel", "stateOf", "(II)I"⟩, 116) := ⟨⟨by decide +kernel, by decide +kernel⟩, List.mem_of_getElem? (i := 1559) (by decide +kernel), List.mem_of_getElem? (i := 2224) (by decide +kernel), List.mem_of_getElem? (i := 2225) (by decide +kernel)⟩
theorem lw_p101 : lw_okq (⟨"ClauseCourtModel", "takesStep", "(I)Z"⟩, 116) := ⟨⟨by decide +kernel, by decide +kernel⟩, List.mem_of_getElem? (i := 1559) (by decide +kernel), List.mem_of_getElem? (i := 2228) (by decide +kernel), List.mem_of_getElem? (i := 2229) (by decide +kernel)⟩
theorem lw_p102 : lw_okq (⟨"ClauseCourtModel", "become", "(III)V"⟩, 116) := ⟨⟨by decide +kernel, by decide +kernel⟩, List.mem_of_getElem? (i := 1559) (by decide +kernel), List.mem_of_getElem? (i := 2232) (by decide +kernel), List.mem_of_getElem? (i := 2233) (by decide +kernel)⟩
theorem lw_p103 : lw_okq (⟨"ClauseCourtModel", "clearSources", "()V"⟩, 116) := ⟨⟨by decide +kernel, by decide +kernel⟩, List.mem_of_getElem? (i := 1559) (by decide +kernel), List.mem_of_getElem? (i := 2236) (by decide +kernel), List.mem_of_getElem? (i := 2237) (by decide +kernel)⟩
theorem lw_p104 : lw_okq (⟨"ClauseCourtModel", "addSources", "(II)V"⟩, 116) := ⟨⟨by decide +kernel, by decide +kernel⟩, List.mem_of_getElem? (i := 1559) (by decide +kernel), List.mem_of_getElem? (i := 2240) (by decide +kernel), List.mem_of_getElem? (i := 2241) (by decide +kernel)⟩
theorem lw_p105 : lw_okq (⟨"ClauseCourtModel", "addLowest", "(III)V"⟩, 116) := ⟨⟨by decide +kernel, by decide +kernel⟩, List.mem_of_getElem? (i := 1559) (by decide +kernel), List.mem_of_getElem? (i := 2244) (by decide +kernel), List.mem_of_getElem? (i := 2245) (by decide +kernel)⟩
theorem lw_p106 : lw_okq (⟨"ClauseCourtModel", "addNameSources", "(II)V"⟩, 116) := ⟨⟨by decide +kernel, by decide +kernel⟩, List.mem_of_getElem? (i := 1559) (by decide +kernel), List.mem_of_getElem? (i := 2248) (by decide +kernel), List.mem_of_getElem? (i := 2249) (by decide +kernel)⟩
theorem lw_p107 : lw_okq (⟨"ClauseCourtModel", "endLow", "(I)I"⟩, 116) := ⟨⟨by decide +kernel, by decide +kernel⟩, List.mem_of_getElem? (i := 1559) (by decide +kernel), List.mem_of_getElem? (i := 2252) (by decide +kernel), List.mem_of_getElem? (i := 2253) (by decide +kernel)⟩
theorem lw_p108 : lw_okq (⟨"ClauseCourtModel", "hasRoom", "(II)Z"⟩, 116) := ⟨⟨by decide +kernel, by decide +kernel⟩, List.mem_of_getElem? (i := 1559) (by decide +kernel), List.mem_of_getElem? (i := 2256) (by decide +kernel), List.mem_of_getElem? (i := 2257) (by decide +kernel)⟩
theorem lw_p109 : lw_okq (⟨"ClauseCourtModel", "record", "(II)V"⟩, 116) := ⟨⟨by decide +kernel, by decide +kernel⟩, List.mem_of_getElem? (i := 1559) (by decide +kernel), List.mem_of_getElem? (i := 2260) (by decide +kernel), List.mem_of_getElem? (i := 2261) (by decide +kernel)⟩
theorem lw_p110 : lw_okq (⟨"ClauseCourtModel", "keepCore", "(I)V"⟩, 116) := ⟨⟨by decide +kernel, by decide +kernel⟩, List.mem_of_getElem? (i := 1559) (by decide +kernel), List.mem_of_getElem? (i := 2264) (by decide +kernel), List.mem_of_getElem? (i := 2265) (by decide +kernel)⟩
theorem lw_p111 : lw_okq (⟨"ClauseCourtModel", "tellQuarrel", "(IIIII)V"⟩, 116) := ⟨⟨by decide +kernel, by decide +kernel⟩, List.mem_of_getElem? (i := 1559) (by decide +kernel), List.mem_of_getElem? (i := 2268) (by decide +kernel), List.mem_of_getElem? (i := 2269) (by decide +kernel)⟩
def lw_privs_7 : List (MethodName × Nat) := [(⟨"ClauseCourtModel", "oneTurn", "(I)I"⟩, 116), (⟨"ClauseCourtModel", "find", "(I)V"⟩, 116), (⟨"ClauseCourtModel", "goOver", "(II)Z"⟩, 116), (⟨"ClauseCourtModel", "look", "(II)I"⟩, 116), (⟨"ClauseCourtModel", "stateOf", "(II)I"⟩, 116), (⟨"ClauseCourtModel", "takesStep", "(I)Z"⟩, 116), (⟨"ClauseCourtModel", "become", "(III)V"⟩, 116), (⟨"ClauseCourtModel", "clearSources", "()V"⟩, 116), (⟨"ClauseCourtModel", "addSources", "(II)V"⟩, 116), (⟨"ClauseCourtModel", "addLowest", "(III)V"⟩, 116), (⟨"ClauseCourtModel", "addNameSources", "(II)V"⟩, 116), (⟨"ClauseCourtModel", "endLow", "(I)I"⟩, 116), (⟨"ClauseCourtModel", "hasRoom", "(II)Z"⟩, 116), (⟨"ClauseCourtModel", "record", "(II)V"⟩, 116), (⟨"ClauseCourtModel", "keepCore", "(I)V"⟩, 116), (⟨"ClauseCourtModel", "tellQuarrel", "(IIIII)V"⟩, 116)]
theorem lw_r7 : ∀ q ∈ lw_privs_7, lw_okq q := List.forall_mem_cons.mpr ⟨lw_p96, List.forall_mem_cons.mpr ⟨lw_p97, List.forall_mem_cons.mpr ⟨lw_p98, List.forall_mem_cons.mpr ⟨lw_p99, List.forall_mem_cons.mpr ⟨lw_p100, List.forall_mem_cons.mpr ⟨lw_p101, List.forall_mem_cons.mpr ⟨lw_p102, List.forall_mem_cons.mpr ⟨lw_p103, List.forall_mem_cons.mpr ⟨lw_p104, List.forall_mem_cons.mpr ⟨lw_p105, List.forall_mem_cons.mpr ⟨lw_p106, List.forall_mem_cons.mpr ⟨lw_p107, List.forall_mem_cons.mpr ⟨lw_p108, List.forall_mem_cons.mpr ⟨lw_p109, List.forall_mem_cons.mpr ⟨lw_p110, List.forall_mem_cons.mpr ⟨lw_p111, fun _ h => absurd h List.not_mem_nil⟩⟩⟩⟩⟩⟩⟩⟩⟩⟩⟩⟩⟩⟩⟩⟩
theorem lw_p112 : lw_okq (⟨"ClauseCourtModel", "learn", "(I)I"⟩, 116) := ⟨⟨by decide +kernel, by decide +kernel⟩, List.mem_of_getElem? (i := 1559) (by decide +kernel), List.mem_of_getElem? (i := 2272) (by decide +kernel), List.mem_of_getElem? (i := 2273) (by decide +kernel)⟩
theorem lw_p113 : lw_okq (⟨"ClauseCourtModel", "clearMarks", "()V"⟩, 116) := ⟨⟨by decide +kernel, by decide +kernel⟩, List.mem_of_getElem? (i := 1559) (by decide +kernel), List.mem_of_getElem? (i := 2276) (by decide +kernel), List.mem_of_getElem? (i := 2277) (by decide +kernel)⟩
theorem lw_p114 : lw_okq (⟨"ClauseCourtModel", "useRow", "(III)V"⟩, 116) := ⟨⟨by decide +kernel, by decide +kernel⟩, List.mem_of_getElem? (i := 1559) (by decide +kernel), List.mem_of_getElem? (i := 2280) (by decide +kernel), List.mem_of_getElem? (i := 2281) (by decide +kernel)⟩
theorem lw_p115 : lw_okq (⟨"ClauseCourtModel", "lastOne", "(I)I"⟩, 116) := ⟨⟨by decide +kernel, by decide +kernel⟩, List.mem_of_getElem? (i := 1559) (by decide +kernel), List.mem_of_getElem? (i := 2284) (by decide +kernel), List.mem_of_getElem? (i := 2285) (by decide +kernel)⟩
theorem lw_p116 : lw_okq (⟨"ClauseCourtModel", "raise", "(I)I"⟩, 116) := ⟨⟨by decide +kernel, by decide +kernel⟩, List.mem_of_getElem? (i := 1559) (by decide +kernel), List.mem_of_getElem? (i := 2288) (by decide +kernel), List.mem_of_getElem? (i := 2289) (by decide +kernel)⟩
theorem lw_p117 : lw_okq (⟨"ClauseCourtModel", "goBack", "(II)V"⟩, 116) := ⟨⟨by decide +kernel, by decide +kernel⟩, List.mem_of_getElem? (i := 1559) (by decide +kernel), List.mem_of_getElem? (i := 2295) (by decide +kernel), List.mem_of_getElem? (i := 2296) (by decide +kernel)⟩
theorem lw_p118 : lw_okq (⟨"ClauseCourtModel", "forgetSome", "(I)V"⟩, 116) := ⟨⟨by decide +kernel, by decide +kernel⟩, List.mem_of_getElem? (i := 1559) (by decide +kernel), List.mem_of_getElem? (i := 2302) (by decide +kernel), List.mem_of_getElem? (i := 2303) (by decide +kernel)⟩
theorem lw_p119 : lw_okq (⟨"ClauseCourtModel", "thereOf", "(I)I"⟩, 116) := ⟨⟨by decide +kernel, by decide +kernel⟩, List.mem_of_getElem? (i := 1559) (by decide +kernel), List.mem_of_getElem? (i := 2306) (by decide +kernel), List.mem_of_getElem? (i := 2307) (by decide +kernel)⟩
theorem lw_p120 : lw_okq (⟨"ClauseCourtModel", "mayGo", "(II)Z"⟩, 116) := ⟨⟨by decide +kernel, by decide +kernel⟩, List.mem_of_getElem? (i := 1559) (by decide +kernel), List.mem_of_getElem? (i := 2310) (by decide +kernel), List.mem_of_getElem? (i := 2311) (by decide +kernel)⟩
theorem lw_p121 : lw_okq (⟨"ClauseCourtModel", "endAsked", "(II)I"⟩, 116) := ⟨⟨by decide +kernel, by decide +kernel⟩, List.mem_of_getElem? (i := 1559) (by decide +kernel), List.mem_of_getElem? (i := 2314) (by decide +kernel), List.mem_of_getElem? (i := 2315) (by decide +kernel)⟩
theorem lw_p122 : lw_okq (⟨"ClauseCourtModel", "markRow", "(II)V"⟩, 116) := ⟨⟨by decide +kernel, by decide +kernel⟩, List.mem_of_getElem? (i := 1559) (by decide +kernel), List.mem_of_getElem? (i := 2318) (by decide +kernel), List.mem_of_getElem? (i := 2319) (by decide +kernel)⟩
theorem lw_p123 : lw_okq (⟨"ClauseCourtModel", "heaviest", "(I)I"⟩, 116) := ⟨⟨by decide +kernel, by decide +kernel⟩, List.mem_of_getElem? (i := 1559) (by decide +kernel), List.mem_of_getElem? (i := 2322) (by decide +kernel), List.mem_of_getElem? (i := 2323) (by decide +kernel)⟩
theorem lw_p124 : lw_okq (⟨"ClauseCourtModel", "ended", "(I)I"⟩, 116) := ⟨⟨by decide +kernel, by decide +kernel⟩, List.mem_of_getElem? (i := 1559) (by decide +kernel), List.mem_of_getElem? (i := 2326) (by decide +kernel), List.mem_of_getElem? (i := 2327) (by decide +kernel)⟩
theorem lw_p125 : lw_okq (⟨"ClauseCourtModel", "hasCore", "()Z"⟩, 116) := ⟨⟨by decide +kernel, by decide +kernel⟩, List.mem_of_getElem? (i := 1559) (by decide +kernel), List.mem_of_getElem? (i := 2350) (by decide +kernel), List.mem_of_getElem? (i := 2351) (by decide +kernel)⟩
theorem lw_p126 : lw_okq (⟨"ClauseCourtModel", "tried", "(III)I"⟩, 116) := ⟨⟨by decide +kernel, by decide +kernel⟩, List.mem_of_getElem? (i := 1559) (by decide +kernel), List.mem_of_getElem? (i := 2363) (by decide +kernel), List.mem_of_getElem? (i := 2364) (by decide +kernel)⟩
theorem lw_p127 : lw_okq (⟨"ClauseCourtModel", "follows", "(I)Z"⟩, 116) := ⟨⟨by decide +kernel, by decide +kernel⟩, List.mem_of_getElem? (i := 1559) (by decide +kernel), List.mem_of_getElem? (i := 2394) (by decide +kernel), List.mem_of_getElem? (i := 2395) (by decide +kernel)⟩
def lw_privs_8 : List (MethodName × Nat) := [(⟨"ClauseCourtModel", "learn", "(I)I"⟩, 116), (⟨"ClauseCourtModel", "clearMarks", "()V"⟩, 116), (⟨"ClauseCourtModel", "useRow", "(III)V"⟩, 116), (⟨"ClauseCourtModel", "lastOne", "(I)I"⟩, 116), (⟨"ClauseCourtModel", "raise", "(I)I"⟩, 116), (⟨"ClauseCourtModel", "goBack", "(II)V"⟩, 116), (⟨"ClauseCourtModel", "forgetSome", "(I)V"⟩, 116), (⟨"ClauseCourtModel", "thereOf", "(I)I"⟩, 116), (⟨"ClauseCourtModel", "mayGo", "(II)Z"⟩, 116), (⟨"ClauseCourtModel", "endAsked", "(II)I"⟩, 116), (⟨"ClauseCourtModel", "markRow", "(II)V"⟩, 116), (⟨"ClauseCourtModel", "heaviest", "(I)I"⟩, 116), (⟨"ClauseCourtModel", "ended", "(I)I"⟩, 116), (⟨"ClauseCourtModel", "hasCore", "()Z"⟩, 116), (⟨"ClauseCourtModel", "tried", "(III)I"⟩, 116), (⟨"ClauseCourtModel", "follows", "(I)Z"⟩, 116)]
theorem lw_r8 : ∀ q ∈ lw_privs_8, lw_okq q := List.forall_mem_cons.mpr ⟨lw_p112, List.forall_mem_cons.mpr ⟨lw_p113, List.forall_mem_cons.mpr ⟨lw_p114, List.forall_mem_cons.mpr ⟨lw_p115, List.forall_mem_cons.mpr ⟨lw_p116, List.forall_mem_cons.mpr ⟨lw_p117, List.forall_mem_cons.mpr ⟨lw_p118, List.forall_mem_cons.mpr ⟨lw_p119, List.forall_mem_cons.mpr ⟨lw_p120, List.forall_mem_cons.mpr ⟨lw_p121, List.forall_mem_cons.mpr ⟨lw_p122, List.forall_mem_cons.mpr ⟨lw_p123, List.forall_mem_cons.mpr ⟨lw_p124, List.forall_mem_cons.mpr ⟨lw_p125, List.forall_mem_cons.mpr ⟨lw_p126, List.forall_mem_cons.mpr ⟨lw_p127, fun _ h => absurd h List.not_mem_nil⟩⟩⟩⟩⟩⟩⟩⟩⟩⟩⟩⟩⟩⟩⟩⟩
theorem lw_p128 : lw_okq (⟨"ClauseCourtModel", "supposedOf", "(I)I"⟩, 116) := ⟨⟨by decide +kernel, by decide +kernel⟩, List.mem_of_getElem? (i := 1559) (by decide +kernel), List.mem_of_getElem? (i := 2398) (by decide +kernel), List.mem_of_getElem? (i := 2399) (by decide +kernel)⟩
theorem lw_p129 : lw_okq (⟨"ClauseCourtModel", "suppose", "(I)V"⟩, 116) := ⟨⟨by decide +kernel, by decide +kernel⟩, List.mem_of_getElem? (i := 1559) (by decide +kernel), List.mem_of_getElem? (i := 2402) (by decide +kernel), List.mem_of_getElem? (i := 2403) (by decide +kernel)⟩
theorem lw_p130 : lw_okq (⟨"ClauseCourtModel", "press", "(ZII)V"⟩, 116) := ⟨⟨by decide +kernel, by decide +kernel⟩, List.mem_of_getElem? (i := 1559) (by decide +kernel), List.mem_of_getElem? (i := 2406) (by decide +kernel), List.mem_of_getElem? (i := 2407) (by decide +kernel)⟩
theorem lw_p131 : lw_okq (⟨"ClauseCourtModel", "isAssumed", "(I)Z"⟩, 116) := ⟨⟨by decide +kernel, by decide +kernel⟩, List.mem_of_getElem? (i := 1559) (by decide +kernel), List.mem_of_getElem? (i := 2410) (by decide +kernel), List.mem_of_getElem? (i := 2411) (by decide +kernel)⟩
theorem lw_p132 : lw_okq (⟨"ClauseCourtModel", "bar", "(II)V"⟩, 116) := ⟨⟨by decide +kernel, by decide +kernel⟩, List.mem_of_getElem? (i := 1559) (by decide +kernel), List.mem_of_getElem? (i := 2426) (by decide +kernel), List.mem_of_getElem? (i := 2427) (by decide +kernel)⟩
theorem lw_p133 : lw_okq (⟨"ClauseCourtModel", "force", "()Z"⟩, 116) := ⟨⟨by decide +kernel, by decide +kernel⟩, List.mem_of_getElem? (i := 1559) (by decide +kernel), List.mem_of_getElem? (i := 2442) (by decide +kernel), List.mem_of_getElem? (i := 2443) (by decide +kernel)⟩
theorem lw_p134 : lw_okq (⟨"ClauseCourtModel", "add", "(I)V"⟩, 116) := ⟨⟨by decide +kernel, by decide +kernel⟩, List.mem_of_getElem? (i := 1559) (by decide +kernel), List.mem_of_getElem? (i := 2459) (by decide +kernel), List.mem_of_getElem? (i := 2460) (by decide +kernel)⟩
def lw_privs_9 : List (MethodName × Nat) := [(⟨"ClauseCourtModel", "supposedOf", "(I)I"⟩, 116), (⟨"ClauseCourtModel", "suppose", "(I)V"⟩, 116), (⟨"ClauseCourtModel", "press", "(ZII)V"⟩, 116), (⟨"ClauseCourtModel", "isAssumed", "(I)Z"⟩, 116), (⟨"ClauseCourtModel", "bar", "(II)V"⟩, 116), (⟨"ClauseCourtModel", "force", "()Z"⟩, 116), (⟨"ClauseCourtModel", "add", "(I)V"⟩, 116)]
theorem lw_r9 : ∀ q ∈ lw_privs_9, lw_okq q := List.forall_mem_cons.mpr ⟨lw_p128, List.forall_mem_cons.mpr ⟨lw_p129, List.forall_mem_cons.mpr ⟨lw_p130, List.forall_mem_cons.mpr ⟨lw_p131, List.forall_mem_cons.mpr ⟨lw_p132, List.forall_mem_cons.mpr ⟨lw_p133, List.forall_mem_cons.mpr ⟨lw_p134, fun _ h => absurd h List.not_mem_nil⟩⟩⟩⟩⟩⟩⟩
def lw_privs : List (MethodName × Nat) := lw_privs_1 ++ (lw_privs_2 ++ (lw_privs_3 ++ (lw_privs_4 ++ (lw_privs_5 ++ (lw_privs_6 ++ (lw_privs_7 ++ (lw_privs_8 ++ (lw_privs_9))))))))
def lw_tbl : List Cond := k2_sels lw_privs ++ tables_1
theorem lw_privs_ok : ∀ q ∈ lw_privs, lw_okq q := by
  show ∀ q ∈ lw_privs_1 ++ (lw_privs_2 ++ (lw_privs_3 ++ (lw_privs_4 ++ (lw_privs_5 ++ (lw_privs_6 ++ (lw_privs_7 ++ (lw_privs_8 ++ (lw_privs_9)))))))), lw_okq q
  exact List.forall_mem_append.mpr ⟨lw_r1, List.forall_mem_append.mpr ⟨lw_r2, List.forall_mem_append.mpr ⟨lw_r3, List.forall_mem_append.mpr ⟨lw_r4, List.forall_mem_append.mpr ⟨lw_r5, List.forall_mem_append.mpr ⟨lw_r6, List.forall_mem_append.mpr ⟨lw_r7, List.forall_mem_append.mpr ⟨lw_r8, lw_r9⟩⟩⟩⟩⟩⟩⟩⟩
-- ===== end of PART A; then your names; then what follows =====
end
section

/-! ===== BEGIN printed: names, fields, word lists, decode rows ===== -/
def RX0 : String := "ClauseCourt$AtMost"
def TX0 : u_T := fun k => match k with
  | 0 => ("ClauseCourt$Rule", "items", "[I", true)
  | 1 => ("ClauseCourt$Rule", "laidFrom", "I", false)
  | 2 => ("ClauseCourt$Rule", "laidTotal", "I", false)
  | _ => ("ClauseCourt$AtMost", "bound", "I", true)
def tyX0 : Nat → FieldType := fun k => match k with
  | 0 => .array .int
  | 1 => .int
  | 2 => .int
  | _ => .int
abbrev wsX00 : List Cond := u_ws RX0 TX0 4
theorem nmX0 : ∀ a, a < 4 → ∀ b, b < 4 → a ≠ b → (TX0 a).2.1 ≠ (TX0 b).2.1 := by decide +kernel
theorem tyX0_ok : ∀ k, k < 4 → parseFieldDescriptor (TX0 k).2.2.1 = some (tyX0 k) := by decide +kernel
abbrev cX0_init : ByteArray := prog_2_method_1_code
def yX0_init : MethodName := ⟨RX0, "<init>", "([II)V"⟩
abbrev cX0_kindNumber : ByteArray := prog_2_method_2_code
def yX0_kindNumber : MethodName := ⟨RX0, "kindNumber", "()I"⟩
abbrev cX0_layInto : ByteArray := prog_2_method_3_code
def yX0_layInto : MethodName := ⟨RX0, "layInto", "(LClauseCourt$Case;)V"⟩
abbrev cX0_laySums : ByteArray := prog_2_method_4_code
def yX0_laySums : MethodName := ⟨RX0, "laySums", "(LClauseCourt$Case;)[I"⟩
abbrev cX0_holds : ByteArray := prog_2_method_5_code
def yX0_holds : MethodName := ⟨RX0, "holds", "(LClauseCourt$Board;LClauseCourt$Desk;)Z"⟩
abbrev cX0_fewest : ByteArray := prog_2_method_6_code
def yX0_fewest : MethodName := ⟨RX0, "fewest", "(LClauseCourt$Desk;)I"⟩
abbrev cX0_greatest : ByteArray := prog_2_method_7_code
def yX0_greatest : MethodName := ⟨RX0, "greatest", "(LClauseCourt$Desk;)I"⟩
abbrev cX0_write : ByteArray := prog_2_method_8_code
def yX0_write : MethodName := ⟨RX0, "write", "(LClauseCourt$Desk;)V"⟩
def RX1 : String := "ClauseCourt$Board"
def TX1 : u_T := fun k => match k with
  | 0 => ("ClauseCourt$Board", "rows", "LClauseCourt$Rows;", true)
  | 1 => ("ClauseCourt$Board", "heads", "[I", true)
  | 2 => ("ClauseCourt$Board", "links", "[I", true)
  | 3 => ("ClauseCourt$Board", "owners", "[I", true)
  | 4 => ("ClauseCourt$Board", "left", "[I", true)
  | 5 => ("ClauseCourt$Board", "quarrels", "[J", true)
  | 6 => ("ClauseCourt$Board", "units", "[J", true)
  | 7 => ("ClauseCourt$Board", "values", "[I", true)
  | 8 => ("ClauseCourt$Board", "latest", "[I", true)
  | 9 => ("ClauseCourt$Board", "levels", "[I", true)
  | 10 => ("ClauseCourt$Board", "reasons", "[I", true)
  | 11 => ("ClauseCourt$Board", "trail", "[I", true)
  | 12 => ("ClauseCourt$Board", "trailTotal", "I", false)
  | 13 => ("ClauseCourt$Board", "level", "I", false)
  | 14 => ("ClauseCourt$Board", "names", "I", false)
  | 15 => ("ClauseCourt$Board", "barsFrom", "I", false)
  | _ => ("ClauseCourt$Board", "learntFrom", "I", false)
def tyX1 : Nat → FieldType := fun k => match k with
  | 0 => .object "ClauseCourt$Rows"
  | 1 => .array .int
  | 2 => .array .int
  | 3 => .array .int
  | 4 => .array .int
  | 5 => .array .long
  | 6 => .array .long
  | 7 => .array .int
  | 8 => .array .int
  | 9 => .array .int
  | 10 => .array .int
  | 11 => .array .int
  | 12 => .int
  | 13 => .int
  | 14 => .int
  | 15 => .int
  | _ => .int
abbrev wsX10 : List Cond := u_ws RX1 TX1 17
theorem nmX1 : ∀ a, a < 17 → ∀ b, b < 17 → a ≠ b → (TX1 a).2.1 ≠ (TX1 b).2.1 := by decide +kernel
theorem tyX1_ok : ∀ k, k < 17 → parseFieldDescriptor (TX1 k).2.2.1 = some (tyX1 k) := by decide +kernel
abbrev cX1_init : ByteArray := prog_3_method_1_code
def yX1_init : MethodName := ⟨RX1, "<init>", "()V"⟩
abbrev cX1_clear : ByteArray := prog_3_method_2_code
def yX1_clear : MethodName := ⟨RX1, "clear", "(I)V"⟩
abbrev cX1_valueOf : ByteArray := prog_3_method_3_code
def yX1_valueOf : MethodName := ⟨RX1, "valueOf", "(I)I"⟩
abbrev cX1_isTrue : ByteArray := prog_3_method_4_code
def yX1_isTrue : MethodName := ⟨RX1, "isTrue", "(I)Z"⟩
abbrev cX1_layRow : ByteArray := prog_3_method_5_code
def yX1_layRow : MethodName := ⟨RX1, "layRow", "(LClauseCourt$Rows;I)V"⟩
abbrev cX1_lay : ByteArray := prog_3_method_6_code
def yX1_lay : MethodName := ⟨RX1, "lay", "([III)V"⟩
abbrev cX1_bury : ByteArray := prog_3_method_7_code
def yX1_bury : MethodName := ⟨RX1, "bury", "(I)V"⟩
abbrev cX1_sort : ByteArray := prog_3_method_8_code
def yX1_sort : MethodName := ⟨RX1, "sort", "(I)V"⟩
abbrev cX1_recount : ByteArray := prog_3_method_9_code
def yX1_recount : MethodName := ⟨RX1, "recount", "(II)V"⟩
abbrev cX1_assign : ByteArray := prog_3_method_10_code
def yX1_assign : MethodName := ⟨RX1, "assign", "(II)V"⟩
abbrev cX1_backTo : ByteArray := prog_3_method_11_code
def yX1_backTo : MethodName := ⟨RX1, "backTo", "(I)V"⟩
abbrev cX1_firstQuarrel : ByteArray := prog_3_method_12_code
def yX1_firstQuarrel : MethodName := ⟨RX1, "firstQuarrel", "()I"⟩
abbrev cX1_firstUnit : ByteArray := prog_3_method_13_code
def yX1_firstUnit : MethodName := ⟨RX1, "firstUnit", "()I"⟩
abbrev cX1_firstOf : ByteArray := prog_3_method_14_code
def yX1_firstOf : MethodName := ⟨RX1, "firstOf", "([J)I"⟩
abbrev cX1_openItem : ByteArray := prog_3_method_15_code
def yX1_openItem : MethodName := ⟨RX1, "openItem", "(I)I"⟩
abbrev cX1_settle : ByteArray := prog_3_method_16_code
def yX1_settle : MethodName := ⟨RX1, "settle", "()I"⟩
abbrev cX1_follows : ByteArray := prog_3_method_17_code
def yX1_follows : MethodName := ⟨RX1, "follows", "(LClauseCourt$Rows;I)Z"⟩
abbrev cX1_isReason : ByteArray := prog_3_method_18_code
def yX1_isReason : MethodName := ⟨RX1, "isReason", "(I)Z"⟩
abbrev cX1_numberOf : ByteArray := prog_3_method_19_code
def yX1_numberOf : MethodName := ⟨RX1, "numberOf", "(I)I"⟩
abbrev cX1_recordTakes : ByteArray := prog_3_method_20_code
def yX1_recordTakes : MethodName := ⟨RX1, "recordTakes", "(I)Z"⟩
def RX2 : String := "ClauseCourt$Case"
def TX2 : u_T := fun k => match k with
  | 0 => ("ClauseCourt$Case", "rows", "LClauseCourt$Rows;", true)
  | 1 => ("ClauseCourt$Case", "weights", "[I", true)
  | 2 => ("ClauseCourt$Case", "counted", "[Z", true)
  | 3 => ("ClauseCourt$Case", "assumed", "[I", true)
  | 4 => ("ClauseCourt$Case", "draft", "[I", true)
  | 5 => ("ClauseCourt$Case", "names", "I", false)
  | 6 => ("ClauseCourt$Case", "countedTotal", "I", false)
  | 7 => ("ClauseCourt$Case", "assumedTotal", "I", false)
  | 8 => ("ClauseCourt$Case", "anew", "I", false)
  | 9 => ("ClauseCourt$Case", "keep", "I", false)
  | 10 => ("ClauseCourt$Case", "drafted", "I", false)
  | _ => ("ClauseCourt$Case", "over", "Z", false)
def tyX2 : Nat → FieldType := fun k => match k with
  | 0 => .object "ClauseCourt$Rows"
  | 1 => .array .int
  | 2 => .array .boolean
  | 3 => .array .int
  | 4 => .array .int
  | 5 => .int
  | 6 => .int
  | 7 => .int
  | 8 => .int
  | 9 => .int
  | 10 => .int
  | _ => .boolean
abbrev wsX20 : List Cond := u_ws RX2 TX2 12
theorem nmX2 : ∀ a, a < 12 → ∀ b, b < 12 → a ≠ b → (TX2 a).2.1 ≠ (TX2 b).2.1 := by decide +kernel
theorem tyX2_ok : ∀ k, k < 12 → parseFieldDescriptor (TX2 k).2.2.1 = some (tyX2 k) := by decide +kernel
abbrev cX2_init : ByteArray := prog_4_method_1_code
def yX2_init : MethodName := ⟨RX2, "<init>", "()V"⟩
abbrev cX2_look : ByteArray := prog_4_method_2_code
def yX2_look : MethodName := ⟨RX2, "look", "(I)I"⟩
abbrev cX2_isAssumed : ByteArray := prog_4_method_3_code
def yX2_isAssumed : MethodName := ⟨RX2, "isAssumed", "(I)Z"⟩
abbrev cX2_makeName : ByteArray := prog_4_method_4_code
def yX2_makeName : MethodName := ⟨RX2, "makeName", "()I"⟩
abbrev cX2_add : ByteArray := prog_4_method_5_code
def yX2_add : MethodName := ⟨RX2, "add", "(I)V"⟩
abbrev cX2_layDraft : ByteArray := prog_4_method_6_code
def yX2_layDraft : MethodName := ⟨RX2, "layDraft", "()V"⟩
abbrev cX2_lay : ByteArray := prog_4_method_7_code
def yX2_lay : MethodName := ⟨RX2, "lay", "(III)V"⟩
def RX3 : String := "ClauseCourt$Clause"
def TX3 : u_T := fun k => match k with
  | 0 => ("ClauseCourt$Rule", "items", "[I", true)
  | 1 => ("ClauseCourt$Rule", "laidFrom", "I", false)
  | _ => ("ClauseCourt$Rule", "laidTotal", "I", false)
def tyX3 : Nat → FieldType := fun k => match k with
  | 0 => .array .int
  | 1 => .int
  | _ => .int
abbrev wsX30 : List Cond := u_ws RX3 TX3 3
theorem nmX3 : ∀ a, a < 3 → ∀ b, b < 3 → a ≠ b → (TX3 a).2.1 ≠ (TX3 b).2.1 := by decide +kernel
theorem tyX3_ok : ∀ k, k < 3 → parseFieldDescriptor (TX3 k).2.2.1 = some (tyX3 k) := by decide +kernel
abbrev cX3_init : ByteArray := prog_5_method_1_code
def yX3_init : MethodName := ⟨RX3, "<init>", "([I)V"⟩
abbrev cX3_kindNumber : ByteArray := prog_5_method_2_code
def yX3_kindNumber : MethodName := ⟨RX3, "kindNumber", "()I"⟩
abbrev cX3_layInto : ByteArray := prog_5_method_3_code
def yX3_layInto : MethodName := ⟨RX3, "layInto", "(LClauseCourt$Case;)V"⟩
abbrev cX3_holds : ByteArray := prog_5_method_4_code
def yX3_holds : MethodName := ⟨RX3, "holds", "(LClauseCourt$Board;LClauseCourt$Desk;)Z"⟩
abbrev cX3_fewest : ByteArray := prog_5_method_5_code
def yX3_fewest : MethodName := ⟨RX3, "fewest", "(LClauseCourt$Desk;)I"⟩
abbrev cX3_write : ByteArray := prog_5_method_6_code
def yX3_write : MethodName := ⟨RX3, "write", "(LClauseCourt$Desk;)V"⟩
def RX4 : String := "ClauseCourt$Desk"
def TX4 : u_T := fun k => match k with
  | 0 => ("ClauseCourt$Desk", "tape", "[B", true)
  | 1 => ("ClauseCourt$Desk", "taped", "I", false)
  | 2 => ("ClauseCourt$Desk", "sheet", "[B", true)
  | 3 => ("ClauseCourt$Desk", "written", "I", false)
  | 4 => ("ClauseCourt$Desk", "ring", "[I", true)
  | 5 => ("ClauseCourt$Desk", "notes", "I", false)
  | 6 => ("ClauseCourt$Desk", "codes", "[I", true)
  | 7 => ("ClauseCourt$Desk", "coded", "I", false)
  | 8 => ("ClauseCourt$Desk", "signs", "[I", true)
  | 9 => ("ClauseCourt$Desk", "parts", "[I", true)
  | 10 => ("ClauseCourt$Desk", "denials", "[I", true)
  | 11 => ("ClauseCourt$Desk", "depth", "I", false)
  | 12 => ("ClauseCourt$Desk", "awaited", "I", false)
  | 13 => ("ClauseCourt$Desk", "sign", "I", false)
  | 14 => ("ClauseCourt$Desk", "denied", "I", false)
  | 15 => ("ClauseCourt$Desk", "number", "I", false)
  | _ => ("ClauseCourt$Desk", "digits", "I", false)
def tyX4 : Nat → FieldType := fun k => match k with
  | 0 => .array .byte
  | 1 => .int
  | 2 => .array .byte
  | 3 => .int
  | 4 => .array .int
  | 5 => .int
  | 6 => .array .int
  | 7 => .int
  | 8 => .array .int
  | 9 => .array .int
  | 10 => .array .int
  | 11 => .int
  | 12 => .int
  | 13 => .int
  | 14 => .int
  | 15 => .int
  | _ => .int
abbrev wsX40 : List Cond := u_ws RX4 TX4 17
theorem nmX4 : ∀ a, a < 17 → ∀ b, b < 17 → a ≠ b → (TX4 a).2.1 ≠ (TX4 b).2.1 := by decide +kernel
theorem tyX4_ok : ∀ k, k < 17 → parseFieldDescriptor (TX4 k).2.2.1 = some (tyX4 k) := by decide +kernel
abbrev cX4_init : ByteArray := prog_6_method_1_code
def yX4_init : MethodName := ⟨RX4, "<init>", "()V"⟩
abbrev cX4_takesBytes : ByteArray := prog_6_method_2_code
def yX4_takesBytes : MethodName := ⟨RX4, "takesBytes", "(I)Z"⟩
abbrev cX4_takeBytes : ByteArray := prog_6_method_3_code
def yX4_takeBytes : MethodName := ⟨RX4, "takeBytes", "(JI)I"⟩
abbrev cX4_emptyTape : ByteArray := prog_6_method_4_code
def yX4_emptyTape : MethodName := ⟨RX4, "emptyTape", "()I"⟩
abbrev cX4_readTape : ByteArray := prog_6_method_5_code
def yX4_readTape : MethodName := ⟨RX4, "readTape", "()I"⟩
abbrev cX4_accepts : ByteArray := prog_6_method_6_code
def yX4_accepts : MethodName := ⟨RX4, "accepts", "(I)Z"⟩
abbrev cX4_isDigit : ByteArray := prog_6_method_7_code
def yX4_isDigit : MethodName := ⟨RX4, "isDigit", "(I)Z"⟩
abbrev cX4_acceptsDigit : ByteArray := prog_6_method_8_code
def yX4_acceptsDigit : MethodName := ⟨RX4, "acceptsDigit", "(I)Z"⟩
abbrev cX4_acceptsPart : ByteArray := prog_6_method_9_code
def yX4_acceptsPart : MethodName := ⟨RX4, "acceptsPart", "(I)Z"⟩
abbrev cX4_acceptsParen : ByteArray := prog_6_method_10_code
def yX4_acceptsParen : MethodName := ⟨RX4, "acceptsParen", "(I)Z"⟩
abbrev cX4_acceptsBehind : ByteArray := prog_6_method_11_code
def yX4_acceptsBehind : MethodName := ⟨RX4, "acceptsBehind", "(I)Z"⟩
abbrev cX4_endNumber : ByteArray := prog_6_method_12_code
def yX4_endNumber : MethodName := ⟨RX4, "endNumber", "()V"⟩
abbrev cX4_endPart : ByteArray := prog_6_method_13_code
def yX4_endPart : MethodName := ⟨RX4, "endPart", "(I)V"⟩
abbrev cX4_lookForNames : ByteArray := prog_6_method_14_code
def yX4_lookForNames : MethodName := ⟨RX4, "lookForNames", "(LClauseCourt$Case;)I"⟩
abbrev cX4_namesRead : ByteArray := prog_6_method_15_code
def yX4_namesRead : MethodName := ⟨RX4, "namesRead", "()[I"⟩
abbrev cX4_writeByte : ByteArray := prog_6_method_16_code
def yX4_writeByte : MethodName := ⟨RX4, "writeByte", "(I)V"⟩
abbrev cX4_writeText : ByteArray := prog_6_method_17_code
def yX4_writeText : MethodName := ⟨RX4, "writeText", "(Ljava/lang/String;)V"⟩
abbrev cX4_writeNumber : ByteArray := prog_6_method_18_code
def yX4_writeNumber : MethodName := ⟨RX4, "writeNumber", "(I)V"⟩
abbrev cX4_writeList : ByteArray := prog_6_method_19_code
def yX4_writeList : MethodName := ⟨RX4, "writeList", "([I)V"⟩
abbrev cX4_writeRow : ByteArray := prog_6_method_20_code
def yX4_writeRow : MethodName := ⟨RX4, "writeRow", "(LClauseCourt$Rows;I)V"⟩
abbrev cX4_note : ByteArray := prog_6_method_21_code
def yX4_note : MethodName := ⟨RX4, "note", "(I)V"⟩
abbrev cX4_noted : ByteArray := prog_6_method_22_code
def yX4_noted : MethodName := ⟨RX4, "noted", "(I)I"⟩
def RX5 : String := "ClauseCourt$Group"
def TX5 : u_T := fun k => match k with
  | 0 => ("ClauseCourt$Rule", "items", "[I", true)
  | 1 => ("ClauseCourt$Rule", "laidFrom", "I", false)
  | 2 => ("ClauseCourt$Rule", "laidTotal", "I", false)
  | _ => ("ClauseCourt$AtMost", "bound", "I", true)
def tyX5 : Nat → FieldType := fun k => match k with
  | 0 => .array .int
  | 1 => .int
  | 2 => .int
  | _ => .int
abbrev wsX50 : List Cond := u_ws RX5 TX5 4
theorem nmX5 : ∀ a, a < 4 → ∀ b, b < 4 → a ≠ b → (TX5 a).2.1 ≠ (TX5 b).2.1 := by decide +kernel
theorem tyX5_ok : ∀ k, k < 4 → parseFieldDescriptor (TX5 k).2.2.1 = some (tyX5 k) := by decide +kernel
abbrev cX5_init : ByteArray := prog_7_method_1_code
def yX5_init : MethodName := ⟨RX5, "<init>", "([II)V"⟩
abbrev cX5_kindNumber : ByteArray := prog_7_method_2_code
def yX5_kindNumber : MethodName := ⟨RX5, "kindNumber", "()I"⟩
abbrev cX5_layInto : ByteArray := prog_7_method_3_code
def yX5_layInto : MethodName := ⟨RX5, "layInto", "(LClauseCourt$Case;)V"⟩
abbrev cX5_holds : ByteArray := prog_7_method_4_code
def yX5_holds : MethodName := ⟨RX5, "holds", "(LClauseCourt$Board;LClauseCourt$Desk;)Z"⟩
abbrev cX5_fewest : ByteArray := prog_7_method_5_code
def yX5_fewest : MethodName := ⟨RX5, "fewest", "(LClauseCourt$Desk;)I"⟩
abbrev cX5_write : ByteArray := prog_7_method_6_code
def yX5_write : MethodName := ⟨RX5, "write", "(LClauseCourt$Desk;)V"⟩
def RX6 : String := "ClauseCourt$Parity"
def TX6 : u_T := fun k => match k with
  | 0 => ("ClauseCourt$Rule", "items", "[I", true)
  | 1 => ("ClauseCourt$Rule", "laidFrom", "I", false)
  | 2 => ("ClauseCourt$Rule", "laidTotal", "I", false)
  | _ => ("ClauseCourt$Parity", "odd", "Z", true)
def tyX6 : Nat → FieldType := fun k => match k with
  | 0 => .array .int
  | 1 => .int
  | 2 => .int
  | _ => .boolean
abbrev wsX60 : List Cond := u_ws RX6 TX6 4
theorem nmX6 : ∀ a, a < 4 → ∀ b, b < 4 → a ≠ b → (TX6 a).2.1 ≠ (TX6 b).2.1 := by decide +kernel
theorem tyX6_ok : ∀ k, k < 4 → parseFieldDescriptor (TX6 k).2.2.1 = some (tyX6 k) := by decide +kernel
abbrev cX6_init : ByteArray := prog_8_method_1_code
def yX6_init : MethodName := ⟨RX6, "<init>", "([IZ)V"⟩
abbrev cX6_kindNumber : ByteArray := prog_8_method_2_code
def yX6_kindNumber : MethodName := ⟨RX6, "kindNumber", "()I"⟩
abbrev cX6_layInto : ByteArray := prog_8_method_3_code
def yX6_layInto : MethodName := ⟨RX6, "layInto", "(LClauseCourt$Case;)V"⟩
abbrev cX6_layPair : ByteArray := prog_8_method_4_code
def yX6_layPair : MethodName := ⟨RX6, "layPair", "(LClauseCourt$Case;II)I"⟩
abbrev cX6_holds : ByteArray := prog_8_method_5_code
def yX6_holds : MethodName := ⟨RX6, "holds", "(LClauseCourt$Board;LClauseCourt$Desk;)Z"⟩
abbrev cX6_fewest : ByteArray := prog_8_method_6_code
def yX6_fewest : MethodName := ⟨RX6, "fewest", "(LClauseCourt$Desk;)I"⟩
abbrev cX6_greatest : ByteArray := prog_8_method_7_code
def yX6_greatest : MethodName := ⟨RX6, "greatest", "(LClauseCourt$Desk;)I"⟩
abbrev cX6_write : ByteArray := prog_8_method_8_code
def yX6_write : MethodName := ⟨RX6, "write", "(LClauseCourt$Desk;)V"⟩
def RX7 : String := "ClauseCourt$Rows"
def TX7 : u_T := fun k => match k with
  | 0 => ("ClauseCourt$Rows", "items", "[I", true)
  | 1 => ("ClauseCourt$Rows", "starts", "[I", true)
  | _ => ("ClauseCourt$Rows", "total", "I", false)
def tyX7 : Nat → FieldType := fun k => match k with
  | 0 => .array .int
  | 1 => .array .int
  | _ => .int
abbrev wsX70 : List Cond := u_ws RX7 TX7 3
theorem nmX7 : ∀ a, a < 3 → ∀ b, b < 3 → a ≠ b → (TX7 a).2.1 ≠ (TX7 b).2.1 := by decide +kernel
theorem tyX7_ok : ∀ k, k < 3 → parseFieldDescriptor (TX7 k).2.2.1 = some (tyX7 k) := by decide +kernel
abbrev cX7_init : ByteArray := prog_9_method_1_code
def yX7_init : MethodName := ⟨RX7, "<init>", "(II)V"⟩
abbrev cX7_has : ByteArray := prog_9_method_2_code
def yX7_has : MethodName := ⟨RX7, "has", "(I)Z"⟩
abbrev cX7_push : ByteArray := prog_9_method_3_code
def yX7_push : MethodName := ⟨RX7, "push", "([III)Z"⟩
abbrev cX7_size : ByteArray := prog_9_method_4_code
def yX7_size : MethodName := ⟨RX7, "size", "(I)I"⟩
abbrev cX7_itemTotal : ByteArray := prog_9_method_5_code
def yX7_itemTotal : MethodName := ⟨RX7, "itemTotal", "()I"⟩
abbrev cX7_tell : ByteArray := prog_9_method_6_code
def yX7_tell : MethodName := ⟨RX7, "tell", "(II)I"⟩
abbrev cX7_shortenTo : ByteArray := prog_9_method_7_code
def yX7_shortenTo : MethodName := ⟨RX7, "shortenTo", "(I)V"⟩
abbrev cX7_remove : ByteArray := prog_9_method_8_code
def yX7_remove : MethodName := ⟨RX7, "remove", "(I)V"⟩
def RX8 : String := "ClauseCourt$Rule"
def TX8 : u_T := fun k => match k with
  | _ => ("", "", "", false)
def tyX8 : Nat → FieldType := fun k => match k with
  | _ => .int
abbrev wsX80 : List Cond := u_ws RX8 TX8 0
theorem nmX8 : ∀ a, a < 0 → ∀ b, b < 0 → a ≠ b → (TX8 a).2.1 ≠ (TX8 b).2.1 := by decide +kernel
theorem tyX8_ok : ∀ k, k < 0 → parseFieldDescriptor (TX8 k).2.2.1 = some (tyX8 k) := by decide +kernel
abbrev cX8_init : ByteArray := prog_10_method_1_code
def yX8_init : MethodName := ⟨RX8, "<init>", "([I)V"⟩
abbrev cX8_fewest : ByteArray := prog_10_method_6_code
def yX8_fewest : MethodName := ⟨RX8, "fewest", "(LClauseCourt$Desk;)I"⟩
abbrev cX8_greatest : ByteArray := prog_10_method_7_code
def yX8_greatest : MethodName := ⟨RX8, "greatest", "(LClauseCourt$Desk;)I"⟩
abbrev cX8_laid : ByteArray := prog_10_method_8_code
def yX8_laid : MethodName := ⟨RX8, "laid", "(LClauseCourt$Desk;)I"⟩
abbrev cX8_trueOnes : ByteArray := prog_10_method_9_code
def yX8_trueOnes : MethodName := ⟨RX8, "trueOnes", "(LClauseCourt$Board;)I"⟩
def RX9 : String := "ClauseCourt$Solver"
def TX9 : u_T := fun k => match k with
  | 0 => ("ClauseCourt$Solver", "board", "LClauseCourt$Board;", true)
  | 1 => ("ClauseCourt$Solver", "bars", "LClauseCourt$Rows;", true)
  | 2 => ("ClauseCourt$Solver", "weights", "[J", true)
  | 3 => ("ClauseCourt$Solver", "rise", "J", false)
  | 4 => ("ClauseCourt$Solver", "assumed", "[I", true)
  | 5 => ("ClauseCourt$Solver", "assumedTotal", "I", false)
  | 6 => ("ClauseCourt$Solver", "uses", "[I", true)
  | 7 => ("ClauseCourt$Solver", "sources", "[J", true)
  | 8 => ("ClauseCourt$Solver", "nameSources", "[J", true)
  | 9 => ("ClauseCourt$Solver", "gathered", "[J", true)
  | 10 => ("ClauseCourt$Solver", "tally", "[I", true)
  | 11 => ("ClauseCourt$Solver", "clash", "[I", true)
  | 12 => ("ClauseCourt$Solver", "marks", "[I", true)
  | 13 => ("ClauseCourt$Solver", "fresh", "[I", true)
  | 14 => ("ClauseCourt$Solver", "freshTotal", "I", false)
  | 15 => ("ClauseCourt$Solver", "queue", "[I", true)
  | 16 => ("ClauseCourt$Solver", "queued", "I", false)
  | 17 => ("ClauseCourt$Solver", "anew", "I", false)
  | 18 => ("ClauseCourt$Solver", "keep", "I", false)
  | _ => ("ClauseCourt$Solver", "since", "I", false)
def tyX9 : Nat → FieldType := fun k => match k with
  | 0 => .object "ClauseCourt$Board"
  | 1 => .object "ClauseCourt$Rows"
  | 2 => .array .long
  | 3 => .long
  | 4 => .array .int
  | 5 => .int
  | 6 => .array .int
  | 7 => .array .long
  | 8 => .array .long
  | 9 => .array .long
  | 10 => .array .int
  | 11 => .array .int
  | 12 => .array .int
  | 13 => .array .int
  | 14 => .int
  | 15 => .array .int
  | 16 => .int
  | 17 => .int
  | 18 => .int
  | _ => .int
abbrev wsX90 : List Cond := u_ws RX9 TX9 20
theorem nmX9 : ∀ a, a < 20 → ∀ b, b < 20 → a ≠ b → (TX9 a).2.1 ≠ (TX9 b).2.1 := by decide +kernel
theorem tyX9_ok : ∀ k, k < 20 → parseFieldDescriptor (TX9 k).2.2.1 = some (tyX9 k) := by decide +kernel
abbrev cX9_init : ByteArray := prog_11_method_1_code
def yX9_init : MethodName := ⟨RX9, "<init>", "()V"⟩
abbrev cX9_openBoard : ByteArray := prog_11_method_2_code
def yX9_openBoard : MethodName := ⟨RX9, "openBoard", "(LClauseCourt$Case;)V"⟩
abbrev cX9_layAll : ByteArray := prog_11_method_3_code
def yX9_layAll : MethodName := ⟨RX9, "layAll", "(LClauseCourt$Rows;)V"⟩
abbrev cX9_suppose : ByteArray := prog_11_method_4_code
def yX9_suppose : MethodName := ⟨RX9, "suppose", "(I)V"⟩
abbrev cX9_closeBoard : ByteArray := prog_11_method_5_code
def yX9_closeBoard : MethodName := ⟨RX9, "closeBoard", "()V"⟩
abbrev cX9_openNext : ByteArray := prog_11_method_6_code
def yX9_openNext : MethodName := ⟨RX9, "openNext", "(LClauseCourt$Case;)V"⟩
abbrev cX9_barTruth : ByteArray := prog_11_method_7_code
def yX9_barTruth : MethodName := ⟨RX9, "barTruth", "(LClauseCourt$Case;)V"⟩
abbrev cX9_go : ByteArray := prog_11_method_8_code
def yX9_go : MethodName := ⟨RX9, "go", "(I)I"⟩
abbrev cX9_choose : ByteArray := prog_11_method_9_code
def yX9_choose : MethodName := ⟨RX9, "choose", "(Z)I"⟩
abbrev cX9_heaviestOpen : ByteArray := prog_11_method_10_code
def yX9_heaviestOpen : MethodName := ⟨RX9, "heaviestOpen", "()I"⟩
abbrev cX9_decide : ByteArray := prog_11_method_11_code
def yX9_decide : MethodName := ⟨RX9, "decide", "(I)I"⟩
abbrev cX9_force : ByteArray := prog_11_method_12_code
def yX9_force : MethodName := ⟨RX9, "force", "(I)I"⟩
abbrev cX9_learn : ByteArray := prog_11_method_13_code
def yX9_learn : MethodName := ⟨RX9, "learn", "(I)I"⟩
abbrev cX9_walkBack : ByteArray := prog_11_method_14_code
def yX9_walkBack : MethodName := ⟨RX9, "walkBack", "(II)I"⟩
abbrev cX9_takeIn : ByteArray := prog_11_method_15_code
def yX9_takeIn : MethodName := ⟨RX9, "takeIn", "(II)I"⟩
abbrev cX9_pushFresh : ByteArray := prog_11_method_16_code
def yX9_pushFresh : MethodName := ⟨RX9, "pushFresh", "(I)V"⟩
abbrev cX9_makeFresh : ByteArray := prog_11_method_17_code
def yX9_makeFresh : MethodName := ⟨RX9, "makeFresh", "(I)V"⟩
abbrev cX9_raiseWeights : ByteArray := prog_11_method_18_code
def yX9_raiseWeights : MethodName := ⟨RX9, "raiseWeights", "()I"⟩
abbrev cX9_goBack : ByteArray := prog_11_method_19_code
def yX9_goBack : MethodName := ⟨RX9, "goBack", "()V"⟩
abbrev cX9_pace : ByteArray := prog_11_method_20_code
def yX9_pace : MethodName := ⟨RX9, "pace", "(I)I"⟩
abbrev cX9_forgetSome : ByteArray := prog_11_method_21_code
def yX9_forgetSome : MethodName := ⟨RX9, "forgetSome", "()V"⟩
abbrev cX9_isThere : ByteArray := prog_11_method_22_code
def yX9_isThere : MethodName := ⟨RX9, "isThere", "(I)Z"⟩
abbrev cX9_queueByUse : ByteArray := prog_11_method_23_code
def yX9_queueByUse : MethodName := ⟨RX9, "queueByUse", "(I)V"⟩
abbrev cX9_refute : ByteArray := prog_11_method_24_code
def yX9_refute : MethodName := ⟨RX9, "refute", "(I)I"⟩
abbrev cX9_refuteAssumed : ByteArray := prog_11_method_25_code
def yX9_refuteAssumed : MethodName := ⟨RX9, "refuteAssumed", "(I)I"⟩
abbrev cX9_markReason : ByteArray := prog_11_method_26_code
def yX9_markReason : MethodName := ⟨RX9, "markReason", "(I)V"⟩
abbrev cX9_keepLast : ByteArray := prog_11_method_27_code
def yX9_keepLast : MethodName := ⟨RX9, "keepLast", "()Z"⟩
abbrev cX9_hasSource : ByteArray := prog_11_method_28_code
def yX9_hasSource : MethodName := ⟨RX9, "hasSource", "(II)Z"⟩
abbrev cX9_gatherRow : ByteArray := prog_11_method_29_code
def yX9_gatherRow : MethodName := ⟨RX9, "gatherRow", "(I)V"⟩
abbrev cX9_gatherName : ByteArray := prog_11_method_30_code
def yX9_gatherName : MethodName := ⟨RX9, "gatherName", "(I)V"⟩
abbrev cX9_gatherFrom : ByteArray := prog_11_method_31_code
def yX9_gatherFrom : MethodName := ⟨RX9, "gatherFrom", "([JI)V"⟩
abbrev cX9_gatherWhole : ByteArray := prog_11_method_32_code
def yX9_gatherWhole : MethodName := ⟨RX9, "gatherWhole", "(I)V"⟩
abbrev cX9_keepNameSources : ByteArray := prog_11_method_33_code
def yX9_keepNameSources : MethodName := ⟨RX9, "keepNameSources", "(II)V"⟩
abbrev cX9_keepSources : ByteArray := prog_11_method_34_code
def yX9_keepSources : MethodName := ⟨RX9, "keepSources", "(I)V"⟩
def RX10 : String := "ClauseCourt$Told"
def TX10 : u_T := fun k => match k with
  | 0 => ("ClauseCourt$Rule", "items", "[I", true)
  | 1 => ("ClauseCourt$Rule", "laidFrom", "I", false)
  | 2 => ("ClauseCourt$Rule", "laidTotal", "I", false)
  | 3 => ("ClauseCourt$Told", "text", "[B", true)
  | 4 => ("ClauseCourt$Told", "codes", "[I", true)
  | _ => ("ClauseCourt$Told", "stack", "[I", true)
def tyX10 : Nat → FieldType := fun k => match k with
  | 0 => .array .int
  | 1 => .int
  | 2 => .int
  | 3 => .array .byte
  | 4 => .array .int
  | _ => .array .int
abbrev wsX100 : List Cond := u_ws RX10 TX10 6
theorem nmX10 : ∀ a, a < 6 → ∀ b, b < 6 → a ≠ b → (TX10 a).2.1 ≠ (TX10 b).2.1 := by decide +kernel
theorem tyX10_ok : ∀ k, k < 6 → parseFieldDescriptor (TX10 k).2.2.1 = some (tyX10 k) := by decide +kernel
abbrev cX10_init : ByteArray := prog_12_method_1_code
def yX10_init : MethodName := ⟨RX10, "<init>", "(LClauseCourt$Desk;I)V"⟩
abbrev cX10_kindNumber : ByteArray := prog_12_method_2_code
def yX10_kindNumber : MethodName := ⟨RX10, "kindNumber", "()I"⟩
abbrev cX10_layInto : ByteArray := prog_12_method_3_code
def yX10_layInto : MethodName := ⟨RX10, "layInto", "(LClauseCourt$Case;)V"⟩
abbrev cX10_signOf : ByteArray := prog_12_method_4_code
def yX10_signOf : MethodName := ⟨RX10, "signOf", "(I)I"⟩
abbrev cX10_partsOf : ByteArray := prog_12_method_5_code
def yX10_partsOf : MethodName := ⟨RX10, "partsOf", "(I)I"⟩
abbrev cX10_layAll : ByteArray := prog_12_method_6_code
def yX10_layAll : MethodName := ⟨RX10, "layAll", "(LClauseCourt$Case;III)V"⟩
abbrev cX10_laySome : ByteArray := prog_12_method_7_code
def yX10_laySome : MethodName := ⟨RX10, "laySome", "(LClauseCourt$Case;III)V"⟩
abbrev cX10_layThen : ByteArray := prog_12_method_8_code
def yX10_layThen : MethodName := ⟨RX10, "layThen", "(LClauseCourt$Case;III)V"⟩
abbrev cX10_addParts : ByteArray := prog_12_method_9_code
def yX10_addParts : MethodName := ⟨RX10, "addParts", "(LClauseCourt$Case;II)V"⟩
abbrev cX10_layJustOne : ByteArray := prog_12_method_10_code
def yX10_layJustOne : MethodName := ⟨RX10, "layJustOne", "(LClauseCourt$Case;III)V"⟩
abbrev cX10_holds : ByteArray := prog_12_method_11_code
def yX10_holds : MethodName := ⟨RX10, "holds", "(LClauseCourt$Board;LClauseCourt$Desk;)Z"⟩
abbrev cX10_isSo : ByteArray := prog_12_method_12_code
def yX10_isSo : MethodName := ⟨RX10, "isSo", "(III)Z"⟩
abbrev cX10_greatest : ByteArray := prog_12_method_13_code
def yX10_greatest : MethodName := ⟨RX10, "greatest", "(LClauseCourt$Desk;)I"⟩
abbrev cX10_write : ByteArray := prog_12_method_14_code
def yX10_write : MethodName := ⟨RX10, "write", "(LClauseCourt$Desk;)V"⟩
def RX11 : String := "ClauseCourt"
def TX11 : u_T := fun k => match k with
  | 0 => ("ClauseCourt", "paper", "[[I", true)
  | 1 => ("ClauseCourt", "sizes", "[I", true)
  | 2 => ("ClauseCourt", "desk", "LClauseCourt$Desk;", true)
  | 3 => ("ClauseCourt", "court", "LClauseCourt$Case;", true)
  | 4 => ("ClauseCourt", "rules", "[LClauseCourt$Rule;", true)
  | 5 => ("ClauseCourt", "ruleTotal", "I", false)
  | 6 => ("ClauseCourt", "latest", "LClauseCourt$Solver;", true)
  | 7 => ("ClauseCourt", "beside", "LClauseCourt$Solver;", true)
  | 8 => ("ClauseCourt", "proofRows", "LClauseCourt$Rows;", true)
  | 9 => ("ClauseCourt", "coreRows", "[I", true)
  | 10 => ("ClauseCourt", "coreRowTotal", "I", false)
  | 11 => ("ClauseCourt", "coreItems", "[I", true)
  | 12 => ("ClauseCourt", "coreItemTotal", "I", false)
  | 13 => ("ClauseCourt", "byNext", "Z", false)
  | 14 => ("ClauseCourt", "mayGoOn", "Z", false)
  | 15 => ("ClauseCourt", "rulesThen", "I", false)
  | 16 => ("ClauseCourt", "checkedAt", "I", false)
  | _ => ("ClauseCourt", "latestRefused", "I", false)
def tyX11 : Nat → FieldType := fun k => match k with
  | 0 => .array (.array .int)
  | 1 => .array .int
  | 2 => .object "ClauseCourt$Desk"
  | 3 => .object "ClauseCourt$Case"
  | 4 => .array (.object "ClauseCourt$Rule")
  | 5 => .int
  | 6 => .object "ClauseCourt$Solver"
  | 7 => .object "ClauseCourt$Solver"
  | 8 => .object "ClauseCourt$Rows"
  | 9 => .array .int
  | 10 => .int
  | 11 => .array .int
  | 12 => .int
  | 13 => .boolean
  | 14 => .boolean
  | 15 => .int
  | 16 => .int
  | _ => .int
abbrev wsX110 : List Cond := u_ws RX11 TX11 18
theorem nmX11 : ∀ a, a < 18 → ∀ b, b < 18 → a ≠ b → (TX11 a).2.1 ≠ (TX11 b).2.1 := by decide +kernel
theorem tyX11_ok : ∀ k, k < 18 → parseFieldDescriptor (TX11 k).2.2.1 = some (tyX11 k) := by decide +kernel
abbrev cX11_init : ByteArray := prog_1_method_1_code
def yX11_init : MethodName := ⟨RX11, "<init>", "()V"⟩
abbrev cX11_names : ByteArray := prog_1_method_2_code
def yX11_names : MethodName := ⟨RX11, "names", "(I)I"⟩
abbrev cX11_row : ByteArray := prog_1_method_3_code
def yX11_row : MethodName := ⟨RX11, "row", "(II)I"⟩
abbrev cX11_drop : ByteArray := prog_1_method_4_code
def yX11_drop : MethodName := ⟨RX11, "drop", "(I)I"⟩
abbrev cX11_put : ByteArray := prog_1_method_5_code
def yX11_put : MethodName := ⟨RX11, "put", "(III)I"⟩
abbrev cX11_get : ByteArray := prog_1_method_6_code
def yX11_get : MethodName := ⟨RX11, "get", "(II)J"⟩
abbrev cX11_copy : ByteArray := prog_1_method_7_code
def yX11_copy : MethodName := ⟨RX11, "copy", "(IIIII)I"⟩
abbrev cX11_cut : ByteArray := prog_1_method_8_code
def yX11_cut : MethodName := ⟨RX11, "cut", "(II)I"⟩
abbrev cX11_feed : ByteArray := prog_1_method_9_code
def yX11_feed : MethodName := ⟨RX11, "feed", "(JI)I"⟩
abbrev cX11_wipe : ByteArray := prog_1_method_10_code
def yX11_wipe : MethodName := ⟨RX11, "wipe", "()I"⟩
abbrev cX11_clause : ByteArray := prog_1_method_11_code
def yX11_clause : MethodName := ⟨RX11, "clause", "(I)I"⟩
abbrev cX11_atMost : ByteArray := prog_1_method_12_code
def yX11_atMost : MethodName := ⟨RX11, "atMost", "(II)I"⟩
abbrev cX11_group : ByteArray := prog_1_method_13_code
def yX11_group : MethodName := ⟨RX11, "group", "(II)I"⟩
abbrev cX11_parity : ByteArray := prog_1_method_14_code
def yX11_parity : MethodName := ⟨RX11, "parity", "(IZ)I"⟩
abbrev cX11_told : ByteArray := prog_1_method_15_code
def yX11_told : MethodName := ⟨RX11, "told", "()I"⟩
abbrev cX11_kind : ByteArray := prog_1_method_16_code
def yX11_kind : MethodName := ⟨RX11, "kind", "(I)I"⟩
abbrev cX11_as : ByteArray := prog_1_method_17_code
def yX11_as : MethodName := ⟨RX11, "as", "(II)I"⟩
abbrev cX11_item : ByteArray := prog_1_method_18_code
def yX11_item : MethodName := ⟨RX11, "item", "(II)I"⟩
abbrev cX11_rows : ByteArray := prog_1_method_19_code
def yX11_rows : MethodName := ⟨RX11, "rows", "(II)I"⟩
abbrev cX11_line : ByteArray := prog_1_method_20_code
def yX11_line : MethodName := ⟨RX11, "line", "(II)I"⟩
abbrev cX11_ask : ByteArray := prog_1_method_21_code
def yX11_ask : MethodName := ⟨RX11, "ask", "(II)I"⟩
abbrev cX11_print : ByteArray := prog_1_method_22_code
def yX11_print : MethodName := ⟨RX11, "print", "(I)I"⟩
abbrev cX11_export : ByteArray := prog_1_method_23_code
def yX11_export : MethodName := ⟨RX11, "export", "()I"⟩
abbrev cX11_out : ByteArray := prog_1_method_24_code
def yX11_out : MethodName := ⟨RX11, "out", "(I)I"⟩
abbrev cX11_assume : ByteArray := prog_1_method_25_code
def yX11_assume : MethodName := ⟨RX11, "assume", "(I)I"⟩
abbrev cX11_free : ByteArray := prog_1_method_26_code
def yX11_free : MethodName := ⟨RX11, "free", "()I"⟩
abbrev cX11_weight : ByteArray := prog_1_method_27_code
def yX11_weight : MethodName := ⟨RX11, "weight", "(II)I"⟩
abbrev cX11_weighs : ByteArray := prog_1_method_28_code
def yX11_weighs : MethodName := ⟨RX11, "weighs", "(I)J"⟩
abbrev cX11_begin : ByteArray := prog_1_method_29_code
def yX11_begin : MethodName := ⟨RX11, "begin", "(I)I"⟩
abbrev cX11_forget : ByteArray := prog_1_method_30_code
def yX11_forget : MethodName := ⟨RX11, "forget", "(I)I"⟩
abbrev cX11_solve : ByteArray := prog_1_method_31_code
def yX11_solve : MethodName := ⟨RX11, "solve", "(I)I"⟩
abbrev cX11_goOn : ByteArray := prog_1_method_32_code
def yX11_goOn : MethodName := ⟨RX11, "goOn", "(I)I"⟩
abbrev cX11_truth : ByteArray := prog_1_method_33_code
def yX11_truth : MethodName := ⟨RX11, "truth", "(I)I"⟩
abbrev cX11_solved : ByteArray := prog_1_method_34_code
def yX11_solved : MethodName := ⟨RX11, "solved", "(I)I"⟩
abbrev cX11_quarrel : ByteArray := prog_1_method_35_code
def yX11_quarrel : MethodName := ⟨RX11, "quarrel", "(I)I"⟩
abbrev cX11_core : ByteArray := prog_1_method_36_code
def yX11_core : MethodName := ⟨RX11, "core", "(I)I"⟩
abbrev cX11_coreAt : ByteArray := prog_1_method_37_code
def yX11_coreAt : MethodName := ⟨RX11, "coreAt", "(II)I"⟩
abbrev cX11_shrink : ByteArray := prog_1_method_38_code
def yX11_shrink : MethodName := ⟨RX11, "shrink", "(I)I"⟩
abbrev cX11_least : ByteArray := prog_1_method_39_code
def yX11_least : MethodName := ⟨RX11, "least", "(I)I"⟩
abbrev cX11_take : ByteArray := prog_1_method_40_code
def yX11_take : MethodName := ⟨RX11, "take", "()I"⟩
abbrev cX11_claim : ByteArray := prog_1_method_41_code
def yX11_claim : MethodName := ⟨RX11, "claim", "(I)I"⟩
abbrev cX11_strike : ByteArray := prog_1_method_42_code
def yX11_strike : MethodName := ⟨RX11, "strike", "(I)I"⟩
abbrev cX11_proof : ByteArray := prog_1_method_43_code
def yX11_proof : MethodName := ⟨RX11, "proof", "(II)I"⟩
abbrev cX11_check : ByteArray := prog_1_method_44_code
def yX11_check : MethodName := ⟨RX11, "check", "()I"⟩
abbrev cX11_refusedAt : ByteArray := prog_1_method_45_code
def yX11_refusedAt : MethodName := ⟨RX11, "refusedAt", "()I"⟩
abbrev cX11_counted : ByteArray := prog_1_method_46_code
def yX11_counted : MethodName := ⟨RX11, "counted", "(IZ)I"⟩
abbrev cX11_next : ByteArray := prog_1_method_47_code
def yX11_next : MethodName := ⟨RX11, "next", "(I)I"⟩
abbrev cX11_unbar : ByteArray := prog_1_method_48_code
def yX11_unbar : MethodName := ⟨RX11, "unbar", "()I"⟩
abbrev cX11_count : ByteArray := prog_1_method_49_code
def yX11_count : MethodName := ⟨RX11, "count", "(II)I"⟩
abbrev cX11_forced : ByteArray := prog_1_method_50_code
def yX11_forced : MethodName := ⟨RX11, "forced", "()I"⟩
abbrev cX11_forcedAt : ByteArray := prog_1_method_51_code
def yX11_forcedAt : MethodName := ⟨RX11, "forcedAt", "(I)I"⟩
abbrev cX11_why : ByteArray := prog_1_method_52_code
def yX11_why : MethodName := ⟨RX11, "why", "(I)I"⟩
abbrev cX11_trace : ByteArray := prog_1_method_53_code
def yX11_trace : MethodName := ⟨RX11, "trace", "(I)I"⟩
abbrev cX11_digest : ByteArray := prog_1_method_54_code
def yX11_digest : MethodName := ⟨RX11, "digest", "()J"⟩
abbrev cX11_status : ByteArray := prog_1_method_55_code
def yX11_status : MethodName := ⟨RX11, "status", "()I"⟩
abbrev cX11_about : ByteArray := prog_1_method_56_code
def yX11_about : MethodName := ⟨RX11, "about", "(I)I"⟩
abbrev cX11_refuse : ByteArray := prog_1_method_57_code
def yX11_refuse : MethodName := ⟨RX11, "refuse", "(I)I"⟩
abbrev cX11_isPaper : ByteArray := prog_1_method_58_code
def yX11_isPaper : MethodName := ⟨RX11, "isPaper", "(I)Z"⟩
abbrev cX11_areSteps : ByteArray := prog_1_method_59_code
def yX11_areSteps : MethodName := ⟨RX11, "areSteps", "(I)Z"⟩
abbrev cX11_isName : ByteArray := prog_1_method_60_code
def yX11_isName : MethodName := ⟨RX11, "isName", "(I)Z"⟩
abbrev cX11_saidYes : ByteArray := prog_1_method_61_code
def yX11_saidYes : MethodName := ⟨RX11, "saidYes", "()Z"⟩
abbrev cX11_saidNo : ByteArray := prog_1_method_62_code
def yX11_saidNo : MethodName := ⟨RX11, "saidNo", "()Z"⟩
abbrev cX11_ruleAt : ByteArray := prog_1_method_63_code
def yX11_ruleAt : MethodName := ⟨RX11, "ruleAt", "(I)LClauseCourt$Rule;"⟩
abbrev cX11_isOfKind : ByteArray := prog_1_method_64_code
def yX11_isOfKind : MethodName := ⟨RX11, "isOfKind", "(LClauseCourt$Rule;I)Z"⟩
abbrev cX11_lookForRow : ByteArray := prog_1_method_65_code
def yX11_lookForRow : MethodName := ⟨RX11, "lookForRow", "(I)I"⟩
abbrev cX11_lookForPlace : ByteArray := prog_1_method_66_code
def yX11_lookForPlace : MethodName := ⟨RX11, "lookForPlace", "(II)I"⟩
abbrev cX11_lookForItems : ByteArray := prog_1_method_67_code
def yX11_lookForItems : MethodName := ⟨RX11, "lookForItems", "(I)I"⟩
abbrev cX11_itemsOf : ByteArray := prog_1_method_68_code
def yX11_itemsOf : MethodName := ⟨RX11, "itemsOf", "(I)[I"⟩
abbrev cX11_admit : ByteArray := prog_1_method_69_code
def yX11_admit : MethodName := ⟨RX11, "admit", "(LClauseCourt$Rule;)I"⟩
abbrev cX11_heed : ByteArray := prog_1_method_70_code
def yX11_heed : MethodName := ⟨RX11, "heed", "(I)I"⟩
abbrev cX11_keepCore : ByteArray := prog_1_method_71_code
def yX11_keepCore : MethodName := ⟨RX11, "keepCore", "()V"⟩
abbrev cX11_layWithout : ByteArray := prog_1_method_72_code
def yX11_layWithout : MethodName := ⟨RX11, "layWithout", "(I)V"⟩
abbrev cX11_supposeItems : ByteArray := prog_1_method_73_code
def yX11_supposeItems : MethodName := ⟨RX11, "supposeItems", "(I)V"⟩
abbrev cX11_laySet : ByteArray := prog_1_method_74_code
def yX11_laySet : MethodName := ⟨RX11, "laySet", "(I)V"⟩
abbrev cX11_dismiss : ByteArray := prog_1_method_75_code
def yX11_dismiss : MethodName := ⟨RX11, "dismiss", "(I)V"⟩
abbrev cX11_keepSet : ByteArray := prog_1_method_76_code
def yX11_keepSet : MethodName := ⟨RX11, "keepSet", "(I)V"⟩
abbrev cX11_firstRefused : ByteArray := prog_1_method_77_code
def yX11_firstRefused : MethodName := ⟨RX11, "firstRefused", "()I"⟩
abbrev cX11_endsRightly : ByteArray := prog_1_method_78_code
def yX11_endsRightly : MethodName := ⟨RX11, "endsRightly", "()Z"⟩
abbrev cX11_forceCase : ByteArray := prog_1_method_79_code
def yX11_forceCase : MethodName := ⟨RX11, "forceCase", "()I"⟩
abbrev cX11_addUp : ByteArray := prog_1_method_80_code
def yX11_addUp : MethodName := ⟨RX11, "addUp", "(J[III)J"⟩
def RX12 : String := "ClauseCourtModel"
def TX12 : u_T := fun k => match k with
  | 0 => ("ClauseCourtModel", "status", "I", false)
  | 1 => ("ClauseCourtModel", "names", "I", false)
  | 2 => ("ClauseCourtModel", "told", "[I", true)
  | 3 => ("ClauseCourtModel", "isCounted", "[Z", true)
  | 4 => ("ClauseCourtModel", "countedMany", "I", false)
  | 5 => ("ClauseCourtModel", "paperMany", "[I", true)
  | 6 => ("ClauseCourtModel", "paper", "[I", true)
  | 7 => ("ClauseCourtModel", "tape", "[I", true)
  | 8 => ("ClauseCourtModel", "tapeMany", "I", false)
  | 9 => ("ClauseCourtModel", "out", "[I", true)
  | 10 => ("ClauseCourtModel", "outMany", "I", false)
  | 11 => ("ClauseCourtModel", "ruleMany", "I", false)
  | 12 => ("ClauseCourtModel", "ruleKind", "[I", true)
  | 13 => ("ClauseCourtModel", "ruleK", "[I", true)
  | 14 => ("ClauseCourtModel", "ruleOdd", "[Z", true)
  | 15 => ("ClauseCourtModel", "ruleN", "[I", true)
  | 16 => ("ClauseCourtModel", "ruleItem", "[I", true)
  | 17 => ("ClauseCourtModel", "ruleFirst", "[I", true)
  | 18 => ("ClauseCourtModel", "ruleRows", "[I", true)
  | 19 => ("ClauseCourtModel", "ruleText", "[I", true)
  | 20 => ("ClauseCourtModel", "ruleTextMany", "[I", true)
  | 21 => ("ClauseCourtModel", "ruleAct", "[I", true)
  | 22 => ("ClauseCourtModel", "ruleActs", "[I", true)
  | 23 => ("ClauseCourtModel", "rows", "I", false)
  | 24 => ("ClauseCourtModel", "rowAt", "[I", true)
  | 25 => ("ClauseCourtModel", "rowItem", "[I", true)
  | 26 => ("ClauseCourtModel", "trace", "[I", true)
  | 27 => ("ClauseCourtModel", "traced", "I", false)
  | 28 => ("ClauseCourtModel", "assumed", "[I", true)
  | 29 => ("ClauseCourtModel", "assumedMany", "I", false)
  | 30 => ("ClauseCourtModel", "begins", "I", false)
  | 31 => ("ClauseCourtModel", "forgets", "I", false)
  | 32 => ("ClauseCourtModel", "bars", "I", false)
  | 33 => ("ClauseCourtModel", "barMany", "[I", true)
  | 34 => ("ClauseCourtModel", "barItem", "[I", true)
  | 35 => ("ClauseCourtModel", "held", "[I", true)
  | 36 => ("ClauseCourtModel", "over", "Z", false)
  | 37 => ("ClauseCourtModel", "namesWere", "I", false)
  | 38 => ("ClauseCourtModel", "rowsWere", "I", false)
  | 39 => ("ClauseCourtModel", "line", "[I", true)
  | 40 => ("ClauseCourtModel", "lineMany", "I", false)
  | 41 => ("ClauseCourtModel", "items", "[I", true)
  | 42 => ("ClauseCourtModel", "itemMany", "I", false)
  | 43 => ("ClauseCourtModel", "sums", "[I", true)
  | 44 => ("ClauseCourtModel", "before", "[I", true)
  | 45 => ("ClauseCourtModel", "acts", "[I", true)
  | 46 => ("ClauseCourtModel", "actMany", "I", false)
  | 47 => ("ClauseCourtModel", "openSign", "[I", true)
  | 48 => ("ClauseCourtModel", "openParts", "[I", true)
  | 49 => ("ClauseCourtModel", "opens", "I", false)
  | 50 => ("ClauseCourtModel", "brackets", "I", false)
  | 51 => ("ClauseCourtModel", "spot", "I", false)
  | 52 => ("ClauseCourtModel", "wantsPart", "Z", false)
  | 53 => ("ClauseCourtModel", "parts", "[I", true)
  | 54 => ("ClauseCourtModel", "partMany", "I", false)
  | 55 => ("ClauseCourtModel", "are", "[Z", true)
  | 56 => ("ClauseCourtModel", "words", "[I", true)
  | 57 => ("ClauseCourtModel", "goesOn", "Z", false)
  | 58 => ("ClauseCourtModel", "isByNext", "Z", false)
  | 59 => ("ClauseCourtModel", "rulesThen", "I", false)
  | 60 => ("ClauseCourtModel", "truths", "[I", true)
  | 61 => ("ClauseCourtModel", "namesThen", "[I", true)
  | 62 => ("ClauseCourtModel", "rowsThen", "[I", true)
  | 63 => ("ClauseCourtModel", "isIn", "[Z", true)
  | 64 => ("ClauseCourtModel", "asked", "[I", true)
  | 65 => ("ClauseCourtModel", "askedMany", "[I", true)
  | 66 => ("ClauseCourtModel", "barFrom", "I", false)
  | 67 => ("ClauseCourtModel", "barsThen", "I", false)
  | 68 => ("ClauseCourtModel", "said", "[I", true)
  | 69 => ("ClauseCourtModel", "value", "[I", true)
  | 70 => ("ClauseCourtModel", "level", "[I", true)
  | 71 => ("ClauseCourtModel", "reason", "[I", true)
  | 72 => ("ClauseCourtModel", "latest", "[I", true)
  | 73 => ("ClauseCourtModel", "weights", "[J", true)
  | 74 => ("ClauseCourtModel", "rise", "[J", true)
  | 75 => ("ClauseCourtModel", "trail", "[I", true)
  | 76 => ("ClauseCourtModel", "trailMany", "[I", true)
  | 77 => ("ClauseCourtModel", "now", "[I", true)
  | 78 => ("ClauseCourtModel", "recordAt", "[I", true)
  | 79 => ("ClauseCourtModel", "recordItem", "[I", true)
  | 80 => ("ClauseCourtModel", "records", "[I", true)
  | 81 => ("ClauseCourtModel", "learnt", "[I", true)
  | 82 => ("ClauseCourtModel", "isThere", "[Z", true)
  | 83 => ("ClauseCourtModel", "use", "[I", true)
  | 84 => ("ClauseCourtModel", "source", "[J", true)
  | 85 => ("ClauseCourtModel", "nameSource", "[J", true)
  | 86 => ("ClauseCourtModel", "sources", "[J", true)
  | 87 => ("ClauseCourtModel", "since", "[I", true)
  | 88 => ("ClauseCourtModel", "turn", "[I", true)
  | 89 => ("ClauseCourtModel", "left", "I", false)
  | 90 => ("ClauseCourtModel", "counts", "[I", true)
  | 91 => ("ClauseCourtModel", "hasQuarrel", "Z", false)
  | 92 => ("ClauseCourtModel", "quarrel", "[I", true)
  | 93 => ("ClauseCourtModel", "coreRow", "[I", true)
  | 94 => ("ClauseCourtModel", "coreRows", "I", false)
  | 95 => ("ClauseCourtModel", "coreItem", "[I", true)
  | 96 => ("ClauseCourtModel", "coreItems", "I", false)
  | 97 => ("ClauseCourtModel", "unit", "I", false)
  | 98 => ("ClauseCourtModel", "quarrelRow", "I", false)
  | 99 => ("ClauseCourtModel", "forcing", "I", false)
  | 100 => ("ClauseCourtModel", "forcedItem", "I", false)
  | 101 => ("ClauseCourtModel", "fresh", "[I", true)
  | 102 => ("ClauseCourtModel", "isMarked", "[Z", true)
  | 103 => ("ClauseCourtModel", "wasMarked", "[Z", true)
  | 104 => ("ClauseCourtModel", "ofLevel", "I", false)
  | 105 => ("ClauseCourtModel", "used", "[I", true)
  | 106 => ("ClauseCourtModel", "usedMany", "I", false)
  | 107 => ("ClauseCourtModel", "isReason", "[Z", true)
  | 108 => ("ClauseCourtModel", "proofMany", "I", false)
  | 109 => ("ClauseCourtModel", "proofAt", "[I", true)
  | 110 => ("ClauseCourtModel", "proofItem", "[I", true)
  | 111 => ("ClauseCourtModel", "refused", "I", false)
  | 112 => ("ClauseCourtModel", "supposed", "[I", true)
  | 113 => ("ClauseCourtModel", "clashes", "Z", false)
  | 114 => ("ClauseCourtModel", "moves", "Z", false)
  | _ => ("ClauseCourtModel", "sum", "J", false)
def tyX12 : Nat → FieldType := fun k => match k with
  | 0 => .int
  | 1 => .int
  | 2 => .array .int
  | 3 => .array .boolean
  | 4 => .int
  | 5 => .array .int
  | 6 => .array .int
  | 7 => .array .int
  | 8 => .int
  | 9 => .array .int
  | 10 => .int
  | 11 => .int
  | 12 => .array .int
  | 13 => .array .int
  | 14 => .array .boolean
  | 15 => .array .int
  | 16 => .array .int
  | 17 => .array .int
  | 18 => .array .int
  | 19 => .array .int
  | 20 => .array .int
  | 21 => .array .int
  | 22 => .array .int
  | 23 => .int
  | 24 => .array .int
  | 25 => .array .int
  | 26 => .array .int
  | 27 => .int
  | 28 => .array .int
  | 29 => .int
  | 30 => .int
  | 31 => .int
  | 32 => .int
  | 33 => .array .int
  | 34 => .array .int
  | 35 => .array .int
  | 36 => .boolean
  | 37 => .int
  | 38 => .int
  | 39 => .array .int
  | 40 => .int
  | 41 => .array .int
  | 42 => .int
  | 43 => .array .int
  | 44 => .array .int
  | 45 => .array .int
  | 46 => .int
  | 47 => .array .int
  | 48 => .array .int
  | 49 => .int
  | 50 => .int
  | 51 => .int
  | 52 => .boolean
  | 53 => .array .int
  | 54 => .int
  | 55 => .array .boolean
  | 56 => .array .int
  | 57 => .boolean
  | 58 => .boolean
  | 59 => .int
  | 60 => .array .int
  | 61 => .array .int
  | 62 => .array .int
  | 63 => .array .boolean
  | 64 => .array .int
  | 65 => .array .int
  | 66 => .int
  | 67 => .int
  | 68 => .array .int
  | 69 => .array .int
  | 70 => .array .int
  | 71 => .array .int
  | 72 => .array .int
  | 73 => .array .long
  | 74 => .array .long
  | 75 => .array .int
  | 76 => .array .int
  | 77 => .array .int
  | 78 => .array .int
  | 79 => .array .int
  | 80 => .array .int
  | 81 => .array .int
  | 82 => .array .boolean
  | 83 => .array .int
  | 84 => .array .long
  | 85 => .array .long
  | 86 => .array .long
  | 87 => .array .int
  | 88 => .array .int
  | 89 => .int
  | 90 => .array .int
  | 91 => .boolean
  | 92 => .array .int
  | 93 => .array .int
  | 94 => .int
  | 95 => .array .int
  | 96 => .int
  | 97 => .int
  | 98 => .int
  | 99 => .int
  | 100 => .int
  | 101 => .array .int
  | 102 => .array .boolean
  | 103 => .array .boolean
  | 104 => .int
  | 105 => .array .int
  | 106 => .int
  | 107 => .array .boolean
  | 108 => .int
  | 109 => .array .int
  | 110 => .array .int
  | 111 => .int
  | 112 => .array .int
  | 113 => .boolean
  | 114 => .boolean
  | _ => .long
abbrev wsX120 : List Cond := u_ws RX12 TX12 116
theorem nmX12 : ∀ a, a < 116 → ∀ b, b < 116 → a ≠ b → (TX12 a).2.1 ≠ (TX12 b).2.1 := by decide +kernel
theorem tyX12_ok : ∀ k, k < 116 → parseFieldDescriptor (TX12 k).2.2.1 = some (tyX12 k) := by decide +kernel
abbrev cX12_init : ByteArray := prog_14_method_1_code
def yX12_init : MethodName := ⟨RX12, "<init>", "()V"⟩
abbrev cX12_fail : ByteArray := prog_14_method_2_code
def yX12_fail : MethodName := ⟨RX12, "fail", "(I)I"⟩
abbrev cX12_in : ByteArray := prog_14_method_3_code
def yX12_in : MethodName := ⟨RX12, "in", "(III)Z"⟩
abbrev cX12_nameOf : ByteArray := prog_14_method_4_code
def yX12_nameOf : MethodName := ⟨RX12, "nameOf", "(I)I"⟩
abbrev cX12_names : ByteArray := prog_14_method_5_code
def yX12_names : MethodName := ⟨RX12, "names", "(I)I"⟩
abbrev cX12_isRow : ByteArray := prog_14_method_6_code
def yX12_isRow : MethodName := ⟨RX12, "isRow", "(I)Z"⟩
abbrev cX12_row : ByteArray := prog_14_method_7_code
def yX12_row : MethodName := ⟨RX12, "row", "(II)I"⟩
abbrev cX12_drop : ByteArray := prog_14_method_8_code
def yX12_drop : MethodName := ⟨RX12, "drop", "(I)I"⟩
abbrev cX12_put : ByteArray := prog_14_method_9_code
def yX12_put : MethodName := ⟨RX12, "put", "(III)I"⟩
abbrev cX12_get : ByteArray := prog_14_method_10_code
def yX12_get : MethodName := ⟨RX12, "get", "(II)J"⟩
abbrev cX12_copy : ByteArray := prog_14_method_11_code
def yX12_copy : MethodName := ⟨RX12, "copy", "(IIIII)I"⟩
abbrev cX12_cut : ByteArray := prog_14_method_12_code
def yX12_cut : MethodName := ⟨RX12, "cut", "(II)I"⟩
abbrev cX12_feed : ByteArray := prog_14_method_13_code
def yX12_feed : MethodName := ⟨RX12, "feed", "(JI)I"⟩
abbrev cX12_wipe : ByteArray := prog_14_method_14_code
def yX12_wipe : MethodName := ⟨RX12, "wipe", "()I"⟩
abbrev cX12_beginLaying : ByteArray := prog_14_method_15_code
def yX12_beginLaying : MethodName := ⟨RX12, "beginLaying", "()V"⟩
abbrev cX12_lay : ByteArray := prog_14_method_16_code
def yX12_lay : MethodName := ⟨RX12, "lay", "(I)V"⟩
abbrev cX12_endRow : ByteArray := prog_14_method_17_code
def yX12_endRow : MethodName := ⟨RX12, "endRow", "()V"⟩
abbrev cX12_layTwo : ByteArray := prog_14_method_18_code
def yX12_layTwo : MethodName := ⟨RX12, "layTwo", "(II)V"⟩
abbrev cX12_layThree : ByteArray := prog_14_method_19_code
def yX12_layThree : MethodName := ⟨RX12, "layThree", "(III)V"⟩
abbrev cX12_newName : ByteArray := prog_14_method_20_code
def yX12_newName : MethodName := ⟨RX12, "newName", "()I"⟩
abbrev cX12_wrongItem : ByteArray := prog_14_method_21_code
def yX12_wrongItem : MethodName := ⟨RX12, "wrongItem", "(I)I"⟩
abbrev cX12_takeItems : ByteArray := prog_14_method_22_code
def yX12_takeItems : MethodName := ⟨RX12, "takeItems", "(I)I"⟩
abbrev cX12_layAtMost : ByteArray := prog_14_method_23_code
def yX12_layAtMost : MethodName := ⟨RX12, "layAtMost", "(IZ)V"⟩
abbrev cX12_layParity : ByteArray := prog_14_method_24_code
def yX12_layParity : MethodName := ⟨RX12, "layParity", "(Z)V"⟩
abbrev cX12_keepRule : ByteArray := prog_14_method_25_code
def yX12_keepRule : MethodName := ⟨RX12, "keepRule", "(IIZ)I"⟩
abbrev cX12_clause : ByteArray := prog_14_method_26_code
def yX12_clause : MethodName := ⟨RX12, "clause", "(I)I"⟩
abbrev cX12_summed : ByteArray := prog_14_method_27_code
def yX12_summed : MethodName := ⟨RX12, "summed", "(IIZ)I"⟩
abbrev cX12_atMost : ByteArray := prog_14_method_28_code
def yX12_atMost : MethodName := ⟨RX12, "atMost", "(II)I"⟩
abbrev cX12_group : ByteArray := prog_14_method_29_code
def yX12_group : MethodName := ⟨RX12, "group", "(II)I"⟩
abbrev cX12_parity : ByteArray := prog_14_method_30_code
def yX12_parity : MethodName := ⟨RX12, "parity", "(IZ)I"⟩
abbrev cX12_byteAt : ByteArray := prog_14_method_31_code
def yX12_byteAt : MethodName := ⟨RX12, "byteAt", "(I)I"⟩
abbrev cX12_isDigit : ByteArray := prog_14_method_32_code
def yX12_isDigit : MethodName := ⟨RX12, "isDigit", "(I)Z"⟩
abbrev cX12_beginPart : ByteArray := prog_14_method_33_code
def yX12_beginPart : MethodName := ⟨RX12, "beginPart", "()Z"⟩
abbrev cX12_endPart : ByteArray := prog_14_method_34_code
def yX12_endPart : MethodName := ⟨RX12, "endPart", "()Z"⟩
abbrev cX12_faultOfTape : ByteArray := prog_14_method_35_code
def yX12_faultOfTape : MethodName := ⟨RX12, "faultOfTape", "()I"⟩
abbrev cX12_layPart : ByteArray := prog_14_method_36_code
def yX12_layPart : MethodName := ⟨RX12, "layPart", "(I)V"⟩
abbrev cX12_layJust : ByteArray := prog_14_method_37_code
def yX12_layJust : MethodName := ⟨RX12, "layJust", "(III)V"⟩
abbrev cX12_told : ByteArray := prog_14_method_38_code
def yX12_told : MethodName := ⟨RX12, "told", "()I"⟩
abbrev cX12_isRule : ByteArray := prog_14_method_39_code
def yX12_isRule : MethodName := ⟨RX12, "isRule", "(I)Z"⟩
abbrev cX12_kind : ByteArray := prog_14_method_40_code
def yX12_kind : MethodName := ⟨RX12, "kind", "(I)I"⟩
abbrev cX12_as : ByteArray := prog_14_method_41_code
def yX12_as : MethodName := ⟨RX12, "as", "(II)I"⟩
abbrev cX12_item : ByteArray := prog_14_method_42_code
def yX12_item : MethodName := ⟨RX12, "item", "(II)I"⟩
abbrev cX12_rows : ByteArray := prog_14_method_43_code
def yX12_rows : MethodName := ⟨RX12, "rows", "(II)I"⟩
abbrev cX12_line : ByteArray := prog_14_method_44_code
def yX12_line : MethodName := ⟨RX12, "line", "(II)I"⟩
abbrev cX12_mark : ByteArray := prog_14_method_45_code
def yX12_mark : MethodName := ⟨RX12, "mark", "(I)V"⟩
abbrev cX12_isTrue : ByteArray := prog_14_method_46_code
def yX12_isTrue : MethodName := ⟨RX12, "isTrue", "(I)Z"⟩
abbrev cX12_truesOf : ByteArray := prog_14_method_47_code
def yX12_truesOf : MethodName := ⟨RX12, "truesOf", "(I)I"⟩
abbrev cX12_isTextSo : ByteArray := prog_14_method_48_code
def yX12_isTextSo : MethodName := ⟨RX12, "isTextSo", "(I)Z"⟩
abbrev cX12_holds : ByteArray := prog_14_method_49_code
def yX12_holds : MethodName := ⟨RX12, "holds", "(I)Z"⟩
abbrev cX12_leastTrue : ByteArray := prog_14_method_50_code
def yX12_leastTrue : MethodName := ⟨RX12, "leastTrue", "(II)I"⟩
abbrev cX12_mostTrue : ByteArray := prog_14_method_51_code
def yX12_mostTrue : MethodName := ⟨RX12, "mostTrue", "(II)I"⟩
abbrev cX12_ask : ByteArray := prog_14_method_52_code
def yX12_ask : MethodName := ⟨RX12, "ask", "(II)I"⟩
abbrev cX12_write : ByteArray := prog_14_method_53_code
def yX12_write : MethodName := ⟨RX12, "write", "(I)V"⟩
abbrev cX12_writeNumber : ByteArray := prog_14_method_54_code
def yX12_writeNumber : MethodName := ⟨RX12, "writeNumber", "(I)V"⟩
abbrev cX12_writeWord : ByteArray := prog_14_method_55_code
def yX12_writeWord : MethodName := ⟨RX12, "writeWord", "(I)V"⟩
abbrev cX12_writeList : ByteArray := prog_14_method_56_code
def yX12_writeList : MethodName := ⟨RX12, "writeList", "(I)V"⟩
abbrev cX12_print : ByteArray := prog_14_method_57_code
def yX12_print : MethodName := ⟨RX12, "print", "(I)I"⟩
abbrev cX12_export : ByteArray := prog_14_method_58_code
def yX12_export : MethodName := ⟨RX12, "export", "()I"⟩
abbrev cX12_out : ByteArray := prog_14_method_59_code
def yX12_out : MethodName := ⟨RX12, "out", "(I)I"⟩
abbrev cX12_trace : ByteArray := prog_14_method_60_code
def yX12_trace : MethodName := ⟨RX12, "trace", "(I)I"⟩
abbrev cX12_wrongToAssume : ByteArray := prog_14_method_61_code
def yX12_wrongToAssume : MethodName := ⟨RX12, "wrongToAssume", "(I)I"⟩
abbrev cX12_assume : ByteArray := prog_14_method_62_code
def yX12_assume : MethodName := ⟨RX12, "assume", "(I)I"⟩
abbrev cX12_free : ByteArray := prog_14_method_63_code
def yX12_free : MethodName := ⟨RX12, "free", "()I"⟩
abbrev cX12_isName : ByteArray := prog_14_method_64_code
def yX12_isName : MethodName := ⟨RX12, "isName", "(I)Z"⟩
abbrev cX12_weight : ByteArray := prog_14_method_65_code
def yX12_weight : MethodName := ⟨RX12, "weight", "(II)I"⟩
abbrev cX12_weighs : ByteArray := prog_14_method_66_code
def yX12_weighs : MethodName := ⟨RX12, "weighs", "(I)J"⟩
abbrev cX12_begin : ByteArray := prog_14_method_67_code
def yX12_begin : MethodName := ⟨RX12, "begin", "(I)I"⟩
abbrev cX12_forget : ByteArray := prog_14_method_68_code
def yX12_forget : MethodName := ⟨RX12, "forget", "(I)I"⟩
abbrev cX12_sizeOf : ByteArray := prog_14_method_69_code
def yX12_sizeOf : MethodName := ⟨RX12, "sizeOf", "(II)I"⟩
abbrev cX12_itemOf : ByteArray := prog_14_method_70_code
def yX12_itemOf : MethodName := ⟨RX12, "itemOf", "(III)I"⟩
abbrev cX12_stateOf : ByteArray := prog_14_method_71_code
def yX12_stateOf : MethodName := ⟨RX12, "stateOf", "(II)I"⟩
abbrev cX12_look : ByteArray := prog_14_method_72_code
def yX12_look : MethodName := ⟨RX12, "look", "(II)I"⟩
abbrev cX12_goOver : ByteArray := prog_14_method_73_code
def yX12_goOver : MethodName := ⟨RX12, "goOver", "(II)Z"⟩
abbrev cX12_find : ByteArray := prog_14_method_74_code
def yX12_find : MethodName := ⟨RX12, "find", "(I)V"⟩
abbrev cX12_clearSources : ByteArray := prog_14_method_75_code
def yX12_clearSources : MethodName := ⟨RX12, "clearSources", "()V"⟩
abbrev cX12_addSources : ByteArray := prog_14_method_76_code
def yX12_addSources : MethodName := ⟨RX12, "addSources", "(II)V"⟩
abbrev cX12_addNameSources : ByteArray := prog_14_method_77_code
def yX12_addNameSources : MethodName := ⟨RX12, "addNameSources", "(II)V"⟩
abbrev cX12_addLowest : ByteArray := prog_14_method_78_code
def yX12_addLowest : MethodName := ⟨RX12, "addLowest", "(III)V"⟩
abbrev cX12_become : ByteArray := prog_14_method_79_code
def yX12_become : MethodName := ⟨RX12, "become", "(III)V"⟩
abbrev cX12_goBack : ByteArray := prog_14_method_80_code
def yX12_goBack : MethodName := ⟨RX12, "goBack", "(II)V"⟩
abbrev cX12_prepare : ByteArray := prog_14_method_81_code
def yX12_prepare : MethodName := ⟨RX12, "prepare", "(I)V"⟩
abbrev cX12_askAll : ByteArray := prog_14_method_82_code
def yX12_askAll : MethodName := ⟨RX12, "askAll", "(I)V"⟩
abbrev cX12_solving : ByteArray := prog_14_method_83_code
def yX12_solving : MethodName := ⟨RX12, "solving", "(I)I"⟩
abbrev cX12_takesStep : ByteArray := prog_14_method_84_code
def yX12_takesStep : MethodName := ⟨RX12, "takesStep", "(I)Z"⟩
abbrev cX12_oneTurn : ByteArray := prog_14_method_85_code
def yX12_oneTurn : MethodName := ⟨RX12, "oneTurn", "(I)I"⟩
abbrev cX12_heaviest : ByteArray := prog_14_method_86_code
def yX12_heaviest : MethodName := ⟨RX12, "heaviest", "(I)I"⟩
abbrev cX12_record : ByteArray := prog_14_method_87_code
def yX12_record : MethodName := ⟨RX12, "record", "(II)V"⟩
abbrev cX12_hasRoom : ByteArray := prog_14_method_88_code
def yX12_hasRoom : MethodName := ⟨RX12, "hasRoom", "(II)Z"⟩
abbrev cX12_keepCore : ByteArray := prog_14_method_89_code
def yX12_keepCore : MethodName := ⟨RX12, "keepCore", "(I)V"⟩
abbrev cX12_endLow : ByteArray := prog_14_method_90_code
def yX12_endLow : MethodName := ⟨RX12, "endLow", "(I)I"⟩
abbrev cX12_tellQuarrel : ByteArray := prog_14_method_91_code
def yX12_tellQuarrel : MethodName := ⟨RX12, "tellQuarrel", "(IIIII)V"⟩
abbrev cX12_clearMarks : ByteArray := prog_14_method_92_code
def yX12_clearMarks : MethodName := ⟨RX12, "clearMarks", "()V"⟩
abbrev cX12_endAsked : ByteArray := prog_14_method_93_code
def yX12_endAsked : MethodName := ⟨RX12, "endAsked", "(II)I"⟩
abbrev cX12_markRow : ByteArray := prog_14_method_94_code
def yX12_markRow : MethodName := ⟨RX12, "markRow", "(II)V"⟩
abbrev cX12_useRow : ByteArray := prog_14_method_95_code
def yX12_useRow : MethodName := ⟨RX12, "useRow", "(III)V"⟩
abbrev cX12_lastOne : ByteArray := prog_14_method_96_code
def yX12_lastOne : MethodName := ⟨RX12, "lastOne", "(I)I"⟩
abbrev cX12_learn : ByteArray := prog_14_method_97_code
def yX12_learn : MethodName := ⟨RX12, "learn", "(I)I"⟩
abbrev cX12_raise : ByteArray := prog_14_method_98_code
def yX12_raise : MethodName := ⟨RX12, "raise", "(I)I"⟩
abbrev cX12_partOfRow : ByteArray := prog_14_method_99_code
def yX12_partOfRow : MethodName := ⟨RX12, "partOfRow", "(I)I"⟩
abbrev cX12_thereOf : ByteArray := prog_14_method_100_code
def yX12_thereOf : MethodName := ⟨RX12, "thereOf", "(I)I"⟩
abbrev cX12_mayGo : ByteArray := prog_14_method_101_code
def yX12_mayGo : MethodName := ⟨RX12, "mayGo", "(II)Z"⟩
abbrev cX12_forgetSome : ByteArray := prog_14_method_102_code
def yX12_forgetSome : MethodName := ⟨RX12, "forgetSome", "(I)V"⟩
abbrev cX12_ended : ByteArray := prog_14_method_103_code
def yX12_ended : MethodName := ⟨RX12, "ended", "(I)I"⟩
abbrev cX12_areSteps : ByteArray := prog_14_method_104_code
def yX12_areSteps : MethodName := ⟨RX12, "areSteps", "(I)Z"⟩
abbrev cX12_solve : ByteArray := prog_14_method_105_code
def yX12_solve : MethodName := ⟨RX12, "solve", "(I)I"⟩
abbrev cX12_goOn : ByteArray := prog_14_method_106_code
def yX12_goOn : MethodName := ⟨RX12, "goOn", "(I)I"⟩
abbrev cX12_truth : ByteArray := prog_14_method_107_code
def yX12_truth : MethodName := ⟨RX12, "truth", "(I)I"⟩
abbrev cX12_solved : ByteArray := prog_14_method_108_code
def yX12_solved : MethodName := ⟨RX12, "solved", "(I)I"⟩
abbrev cX12_quarrel : ByteArray := prog_14_method_109_code
def yX12_quarrel : MethodName := ⟨RX12, "quarrel", "(I)I"⟩
abbrev cX12_hasCore : ByteArray := prog_14_method_110_code
def yX12_hasCore : MethodName := ⟨RX12, "hasCore", "()Z"⟩
abbrev cX12_core : ByteArray := prog_14_method_111_code
def yX12_core : MethodName := ⟨RX12, "core", "(I)I"⟩
abbrev cX12_coreAt : ByteArray := prog_14_method_112_code
def yX12_coreAt : MethodName := ⟨RX12, "coreAt", "(II)I"⟩
abbrev cX12_tried : ByteArray := prog_14_method_113_code
def yX12_tried : MethodName := ⟨RX12, "tried", "(III)I"⟩
abbrev cX12_shrink : ByteArray := prog_14_method_114_code
def yX12_shrink : MethodName := ⟨RX12, "shrink", "(I)I"⟩
abbrev cX12_bitsOf : ByteArray := prog_14_method_115_code
def yX12_bitsOf : MethodName := ⟨RX12, "bitsOf", "(I)I"⟩
abbrev cX12_least : ByteArray := prog_14_method_116_code
def yX12_least : MethodName := ⟨RX12, "least", "(I)I"⟩
abbrev cX12_take : ByteArray := prog_14_method_117_code
def yX12_take : MethodName := ⟨RX12, "take", "()I"⟩
abbrev cX12_claim : ByteArray := prog_14_method_118_code
def yX12_claim : MethodName := ⟨RX12, "claim", "(I)I"⟩
abbrev cX12_strike : ByteArray := prog_14_method_119_code
def yX12_strike : MethodName := ⟨RX12, "strike", "(I)I"⟩
abbrev cX12_proof : ByteArray := prog_14_method_120_code
def yX12_proof : MethodName := ⟨RX12, "proof", "(II)I"⟩
abbrev cX12_supposedOf : ByteArray := prog_14_method_121_code
def yX12_supposedOf : MethodName := ⟨RX12, "supposedOf", "(I)I"⟩
abbrev cX12_suppose : ByteArray := prog_14_method_122_code
def yX12_suppose : MethodName := ⟨RX12, "suppose", "(I)V"⟩
abbrev cX12_press : ByteArray := prog_14_method_123_code
def yX12_press : MethodName := ⟨RX12, "press", "(ZII)V"⟩
abbrev cX12_follows : ByteArray := prog_14_method_124_code
def yX12_follows : MethodName := ⟨RX12, "follows", "(I)Z"⟩
abbrev cX12_isAssumed : ByteArray := prog_14_method_125_code
def yX12_isAssumed : MethodName := ⟨RX12, "isAssumed", "(I)Z"⟩
abbrev cX12_check : ByteArray := prog_14_method_126_code
def yX12_check : MethodName := ⟨RX12, "check", "()I"⟩
abbrev cX12_refusedAt : ByteArray := prog_14_method_127_code
def yX12_refusedAt : MethodName := ⟨RX12, "refusedAt", "()I"⟩
abbrev cX12_counted : ByteArray := prog_14_method_128_code
def yX12_counted : MethodName := ⟨RX12, "counted", "(IZ)I"⟩
abbrev cX12_bar : ByteArray := prog_14_method_129_code
def yX12_bar : MethodName := ⟨RX12, "bar", "(II)V"⟩
abbrev cX12_next : ByteArray := prog_14_method_130_code
def yX12_next : MethodName := ⟨RX12, "next", "(I)I"⟩
abbrev cX12_unbar : ByteArray := prog_14_method_131_code
def yX12_unbar : MethodName := ⟨RX12, "unbar", "()I"⟩
abbrev cX12_count : ByteArray := prog_14_method_132_code
def yX12_count : MethodName := ⟨RX12, "count", "(II)I"⟩
abbrev cX12_force : ByteArray := prog_14_method_133_code
def yX12_force : MethodName := ⟨RX12, "force", "()Z"⟩
abbrev cX12_forced : ByteArray := prog_14_method_134_code
def yX12_forced : MethodName := ⟨RX12, "forced", "()I"⟩
abbrev cX12_forcedAt : ByteArray := prog_14_method_135_code
def yX12_forcedAt : MethodName := ⟨RX12, "forcedAt", "(I)I"⟩
abbrev cX12_why : ByteArray := prog_14_method_136_code
def yX12_why : MethodName := ⟨RX12, "why", "(I)I"⟩
abbrev cX12_add : ByteArray := prog_14_method_137_code
def yX12_add : MethodName := ⟨RX12, "add", "(I)V"⟩
abbrev cX12_digest : ByteArray := prog_14_method_138_code
def yX12_digest : MethodName := ⟨RX12, "digest", "()J"⟩
abbrev cX12_status : ByteArray := prog_14_method_139_code
def yX12_status : MethodName := ⟨RX12, "status", "()I"⟩
abbrev cX12_about : ByteArray := prog_14_method_140_code
def yX12_about : MethodName := ⟨RX12, "about", "(I)I"⟩
def RJ11 : String := "java/lang/Character"
def TJ11 : u_T := fun k => match k with
  | _ => ("", "", "", false)
def tyJ11 : Nat → FieldType := fun k => match k with
  | _ => .int
abbrev wsJ110 : List Cond := u_ws RJ11 TJ11 0
theorem nmJ11 : ∀ a, a < 0 → ∀ b, b < 0 → a ≠ b → (TJ11 a).2.1 ≠ (TJ11 b).2.1 := by decide +kernel
theorem tyJ11_ok : ∀ k, k < 0 → parseFieldDescriptor (TJ11 k).2.2.1 = some (tyJ11 k) := by decide +kernel
abbrev cJ11_isValidCodePoint_9a6ad : ByteArray := prog_15_method_11_code
def yJ11_isValidCodePoint_9a6ad : MethodName := ⟨RJ11, "isValidCodePoint", "(I)Z"⟩
abbrev cJ11_highSurrogate_5068e : ByteArray := prog_15_method_28_code
def yJ11_highSurrogate_5068e : MethodName := ⟨RJ11, "highSurrogate", "(I)C"⟩
abbrev cJ11_lowSurrogate_5068e : ByteArray := prog_15_method_29_code
def yJ11_lowSurrogate_5068e : MethodName := ⟨RJ11, "lowSurrogate", "(I)C"⟩
def RJx8e188 : String := "java/lang/Cloneable"
def TJx8e188 : u_T := fun k => match k with
  | _ => ("", "", "", false)
def tyJx8e188 : Nat → FieldType := fun k => match k with
  | _ => .int
abbrev wsJx8e1880 : List Cond := u_ws RJx8e188 TJx8e188 0
theorem nmJx8e188 : ∀ a, a < 0 → ∀ b, b < 0 → a ≠ b → (TJx8e188 a).2.1 ≠ (TJx8e188 b).2.1 := by decide +kernel
theorem tyJx8e188_ok : ∀ k, k < 0 → parseFieldDescriptor (TJx8e188 k).2.2.1 = some (tyJx8e188 k) := by decide +kernel
def RJ6 : String := "java/lang/Integer"
def TJ6 : u_T := fun k => match k with
  | _ => ("", "", "", false)
def tyJ6 : Nat → FieldType := fun k => match k with
  | _ => .int
abbrev wsJ60 : List Cond := u_ws RJ6 TJ6 0
theorem nmJ6 : ∀ a, a < 0 → ∀ b, b < 0 → a ≠ b → (TJ6 a).2.1 ≠ (TJ6 b).2.1 := by decide +kernel
theorem tyJ6_ok : ∀ k, k < 0 → parseFieldDescriptor (TJ6 k).2.2.1 = some (tyJ6 k) := by decide +kernel
abbrev cJ6_bitCount_0f7a4 : ByteArray := prog_17_method_49_code
def yJ6_bitCount_0f7a4 : MethodName := ⟨RJ6, "bitCount", "(I)I"⟩
def RJ13 : String := "java/lang/Long"
def TJ13 : u_T := fun k => match k with
  | _ => ("", "", "", false)
def tyJ13 : Nat → FieldType := fun k => match k with
  | _ => .int
abbrev wsJ130 : List Cond := u_ws RJ13 TJ13 0
theorem nmJ13 : ∀ a, a < 0 → ∀ b, b < 0 → a ≠ b → (TJ13 a).2.1 ≠ (TJ13 b).2.1 := by decide +kernel
theorem tyJ13_ok : ∀ k, k < 0 → parseFieldDescriptor (TJ13 k).2.2.1 = some (tyJ13 k) := by decide +kernel
abbrev cJ13_bitCount_95d88 : ByteArray := prog_18_method_50_code
def yJ13_bitCount_95d88 : MethodName := ⟨RJ13, "bitCount", "(J)I"⟩
def RJ9 : String := "java/lang/Math"
def TJ9 : u_T := fun k => match k with
  | _ => ("", "", "", false)
def tyJ9 : Nat → FieldType := fun k => match k with
  | _ => .int
abbrev wsJ90 : List Cond := u_ws RJ9 TJ9 0
theorem nmJ9 : ∀ a, a < 0 → ∀ b, b < 0 → a ≠ b → (TJ9 a).2.1 ≠ (TJ9 b).2.1 := by decide +kernel
theorem tyJ9_ok : ∀ k, k < 0 → parseFieldDescriptor (TJ9 k).2.2.1 = some (tyJ9 k) := by decide +kernel
abbrev cJ9_abs_0f7a4 : ByteArray := prog_19_method_59_code
def yJ9_abs_0f7a4 : MethodName := ⟨RJ9, "abs", "(I)I"⟩
abbrev cJ9_max_7cf53 : ByteArray := prog_19_method_65_code
def yJ9_max_7cf53 : MethodName := ⟨RJ9, "max", "(II)I"⟩
abbrev cJ9_max_f86c9 : ByteArray := prog_19_method_66_code
def yJ9_max_f86c9 : MethodName := ⟨RJ9, "max", "(JJ)J"⟩
abbrev cJ9_min_7cf53 : ByteArray := prog_19_method_69_code
def yJ9_min_7cf53 : MethodName := ⟨RJ9, "min", "(II)I"⟩
def RJ0 : String := "java/lang/String"
def TJ0 : u_T := fun k => match k with
  | _ => ("", "", "", false)
def tyJ0 : Nat → FieldType := fun k => match k with
  | _ => .int
abbrev wsJ00 : List Cond := u_ws RJ0 TJ0 0
theorem nmJ0 : ∀ a, a < 0 → ∀ b, b < 0 → a ≠ b → (TJ0 a).2.1 ≠ (TJ0 b).2.1 := by decide +kernel
theorem tyJ0_ok : ∀ k, k < 0 → parseFieldDescriptor (TJ0 k).2.2.1 = some (tyJ0 k) := by decide +kernel
abbrev cJ0_length_8abf5 : ByteArray := prog_20_method_54_code
def yJ0_length_8abf5 : MethodName := ⟨RJ0, "length", "()I"⟩
abbrev cJ0_charAt_5068e : ByteArray := prog_20_method_56_code
def yJ0_charAt_5068e : MethodName := ⟨RJ0, "charAt", "(I)C"⟩
abbrev cJ0_indexOf_0f7a4 : ByteArray := prog_20_method_79_code
def yJ0_indexOf_0f7a4 : MethodName := ⟨RJ0, "indexOf", "(I)I"⟩
abbrev cJ0_indexOf_7cf53 : ByteArray := prog_20_method_80_code
def yJ0_indexOf_7cf53 : MethodName := ⟨RJ0, "indexOf", "(II)I"⟩
abbrev cJ0_coder_7d493 : ByteArray := prog_20_method_152_code
def yJ0_coder_7d493 : MethodName := ⟨RJ0, "coder", "()B"⟩
abbrev cJ0_isLatin1_aae02 : ByteArray := prog_20_method_154_code
def yJ0_isLatin1_aae02 : MethodName := ⟨RJ0, "isLatin1", "()Z"⟩
abbrev cJ0_checkIndex_df160 : ByteArray := prog_20_method_155_code
def yJ0_checkIndex_df160 : MethodName := ⟨RJ0, "checkIndex", "(II)V"⟩
abbrev cJ0_checkBoundsBeginEnd_23922 : ByteArray := prog_20_method_158_code
def yJ0_checkBoundsBeginEnd_23922 : MethodName := ⟨RJ0, "checkBoundsBeginEnd", "(III)V"⟩
def RJ1 : String := "java/lang/StringLatin1"
def TJ1 : u_T := fun k => match k with
  | _ => ("", "", "", false)
def tyJ1 : Nat → FieldType := fun k => match k with
  | _ => .int
abbrev wsJ10 : List Cond := u_ws RJ1 TJ1 0
theorem nmJ1 : ∀ a, a < 0 → ∀ b, b < 0 → a ≠ b → (TJ1 a).2.1 ≠ (TJ1 b).2.1 := by decide +kernel
theorem tyJ1_ok : ∀ k, k < 0 → parseFieldDescriptor (TJ1 k).2.2.1 = some (tyJ1 k) := by decide +kernel
abbrev cJ1_charAt_3b067 : ByteArray := prog_21_method_2_code
def yJ1_charAt_3b067 : MethodName := ⟨RJ1, "charAt", "([BI)C"⟩
abbrev cJ1_canEncode_9a6ad : ByteArray := prog_21_method_4_code
def yJ1_canEncode_9a6ad : MethodName := ⟨RJ1, "canEncode", "(I)Z"⟩
abbrev cJ1_indexOf_4cfef : ByteArray := prog_21_method_22_code
def yJ1_indexOf_4cfef : MethodName := ⟨RJ1, "indexOf", "([BIII)I"⟩
abbrev cJ1_indexOfChar_4cfef : ByteArray := prog_21_method_23_code
def yJ1_indexOfChar_4cfef : MethodName := ⟨RJ1, "indexOfChar", "([BIII)I"⟩
def RJ2 : String := "java/lang/StringUTF16"
def TJ2 : u_T := fun k => match k with
  | _ => ("", "", "", false)
def tyJ2 : Nat → FieldType := fun k => match k with
  | _ => .int
abbrev wsJ20 : List Cond := u_ws RJ2 TJ2 0
theorem nmJ2 : ∀ a, a < 0 → ∀ b, b < 0 → a ≠ b → (TJ2 a).2.1 ≠ (TJ2 b).2.1 := by decide +kernel
theorem tyJ2_ok : ∀ k, k < 0 → parseFieldDescriptor (TJ2 k).2.2.1 = some (tyJ2 k) := by decide +kernel
abbrev cJ2_getChar_3b067 : ByteArray := prog_22_method_5_code
def yJ2_getChar_3b067 : MethodName := ⟨RJ2, "getChar", "([BI)C"⟩
abbrev cJ2_length_9d52b : ByteArray := prog_22_method_6_code
def yJ2_length_9d52b : MethodName := ⟨RJ2, "length", "([B)I"⟩
abbrev cJ2_indexOf_4cfef : ByteArray := prog_22_method_40_code
def yJ2_indexOf_4cfef : MethodName := ⟨RJ2, "indexOf", "([BIII)I"⟩
abbrev cJ2_indexOfChar_4cfef : ByteArray := prog_22_method_47_code
def yJ2_indexOfChar_4cfef : MethodName := ⟨RJ2, "indexOfChar", "([BIII)I"⟩
abbrev cJ2_indexOfCharUnsafe_4cfef : ByteArray := prog_22_method_48_code
def yJ2_indexOfCharUnsafe_4cfef : MethodName := ⟨RJ2, "indexOfCharUnsafe", "([BIII)I"⟩
abbrev cJ2_indexOfSupplementary_4cfef : ByteArray := prog_22_method_49_code
def yJ2_indexOfSupplementary_4cfef : MethodName := ⟨RJ2, "indexOfSupplementary", "([BIII)I"⟩
abbrev cJ2_charAt_3b067 : ByteArray := prog_22_method_83_code
def yJ2_charAt_3b067 : MethodName := ⟨RJ2, "charAt", "([BI)C"⟩
abbrev cJ2_checkIndex_2214a : ByteArray := prog_22_method_91_code
def yJ2_checkIndex_2214a : MethodName := ⟨RJ2, "checkIndex", "(I[B)V"⟩
abbrev cJ2_checkBoundsBeginEnd_d044e : ByteArray := prog_22_method_93_code
def yJ2_checkBoundsBeginEnd_d044e : MethodName := ⟨RJ2, "checkBoundsBeginEnd", "(II[B)V"⟩
def RJ10 : String := "java/lang/System"
def TJ10 : u_T := fun k => match k with
  | _ => ("", "", "", false)
def tyJ10 : Nat → FieldType := fun k => match k with
  | _ => .int
abbrev wsJ100 : List Cond := u_ws RJ10 TJ10 0
theorem nmJ10 : ∀ a, a < 0 → ∀ b, b < 0 → a ≠ b → (TJ10 a).2.1 ≠ (TJ10 b).2.1 := by decide +kernel
theorem tyJ10_ok : ∀ k, k < 0 → parseFieldDescriptor (TJ10 k).2.2.1 = some (tyJ10 k) := by decide +kernel
def RJ7 : String := "java/util/Arrays"
def TJ7 : u_T := fun k => match k with
  | _ => ("", "", "", false)
def tyJ7 : Nat → FieldType := fun k => match k with
  | _ => .int
abbrev wsJ70 : List Cond := u_ws RJ7 TJ7 0
theorem nmJ7 : ∀ a, a < 0 → ∀ b, b < 0 → a ≠ b → (TJ7 a).2.1 ≠ (TJ7 b).2.1 := by decide +kernel
theorem tyJ7_ok : ∀ k, k < 0 → parseFieldDescriptor (TJ7 k).2.2.1 = some (tyJ7 k) := by decide +kernel
abbrev cJ7_fill_d0a16 : ByteArray := prog_24_method_101_code
def yJ7_fill_d0a16 : MethodName := ⟨RJ7, "fill", "([JJ)V"⟩
abbrev cJ7_fill_53178 : ByteArray := prog_24_method_103_code
def yJ7_fill_53178 : MethodName := ⟨RJ7, "fill", "([II)V"⟩
abbrev cJ7_copyOf_9075b : ByteArray := prog_24_method_121_code
def yJ7_copyOf_9075b : MethodName := ⟨RJ7, "copyOf", "([BI)[B"⟩
abbrev cJ7_copyOf_59c91 : ByteArray := prog_24_method_123_code
def yJ7_copyOf_59c91 : MethodName := ⟨RJ7, "copyOf", "([II)[I"⟩
def RJ3 : String := "jdk/internal/util/Preconditions"
def TJ3 : u_T := fun k => match k with
  | _ => ("", "", "", false)
def tyJ3 : Nat → FieldType := fun k => match k with
  | _ => .int
abbrev wsJ30 : List Cond := u_ws RJ3 TJ3 0
theorem nmJ3 : ∀ a, a < 0 → ∀ b, b < 0 → a ≠ b → (TJ3 a).2.1 ≠ (TJ3 b).2.1 := by decide +kernel
theorem tyJ3_ok : ∀ k, k < 0 → parseFieldDescriptor (TJ3 k).2.2.1 = some (tyJ3 k) := by decide +kernel
abbrev cJ3_checkIndex_8e157 : ByteArray := prog_25_method_11_code
def yJ3_checkIndex_8e157 : MethodName := ⟨RJ3, "checkIndex", "(IILjava/util/function/BiFunction;)I"⟩
abbrev cJ3_checkFromToIndex_8c36e : ByteArray := prog_25_method_12_code
def yJ3_checkFromToIndex_8c36e : MethodName := ⟨RJ3, "checkFromToIndex", "(IIILjava/util/function/BiFunction;)I"⟩
def RL : String := "ClauseCourtLaw"
abbrev cL_law : ByteArray := code
def yL_law : MethodName := ⟨RL, "law", "([I)Z"⟩
end
section
/-! WORLDS AS FUNCTIONS. ix_W: ints, longs, references by (cell, place), kinds and lengths of cells, how many cells; kinds below 20 are objects of that class in ix_cl, 20 int, 21 byte, 22 boolean, 23 long arrays, 24 arrays of rules, 25 arrays of int arrays -/
abbrev ix_W : Type := (Nat → Nat → Int32) × (Nat → Nat → Int64) × (Nat → Nat → Option Nat) × (Nat → Nat × Nat) × Nat
/-- class ids and slots, array classes, where the new cells begin, what else is known of the start -/
abbrev ix_Cx : Type := va_G × (Nat → ClassId) × Nat × (State → Prop)
def ix_T (w : ix_W) (a : Nat) : Nat × Nat := w.2.2.2.1 a
def ix_N (w : ix_W) : Nat := w.2.2.2.2
def ix_up {α : Type} (f : Nat → Nat → α) (a k : Nat) (v : α) : Nat → Nat → α := fun a' k' => if a' = a ∧ k' = k then v else f a' k'
def ix_sI (w : ix_W) (a k : Nat) (v : Int32) : ix_W := (ix_up w.1 a k v, w.2)
def ix_sJ (w : ix_W) (a k : Nat) (v : Int64) : ix_W := (w.1, ix_up w.2.1 a k v, w.2.2)
def ix_sR (w : ix_W) (a k : Nat) (v : Option Nat) : ix_W := (w.1, w.2.1, ix_up w.2.2.1 a k v, w.2.2.2)
/-- a new cell -/
def ix_al (w : ix_W) (t n : Nat) : ix_W := (fun a k => if a = ix_N w then 0 else w.1 a k, fun a k => if a = ix_N w then 0 else w.2.1 a k, fun a k => if a = ix_N w then none else w.2.2.1 a k, fun a => if a = ix_N w then (t, n) else ix_T w a, ix_N w + 1)
abbrev ix_cl : List vw_C := [(RX0, TX0, 4), (RX1, TX1, 17), (RX2, TX2, 12), (RX3, TX3, 3), (RX4, TX4, 17), (RX5, TX5, 4), (RX6, TX6, 4), (RX7, TX7, 3), (RX9, TX9, 20), (RX10, TX10, 6), (RX11, TX11, 18), (RX12, TX12, 116)]
def ix_ft (d : String) : Nat := if d = "J" then 1 else if d = "I" then 0 else if d = "Z" then 0 else 2
def ix_rv (K : ix_Cx) (r : Option Nat) : Value := va_rf (r.map (fun a => K.2.2.1 + a))
def ix_fv (K : ix_Cx) (w : ix_W) (a : Nat) (d : String) (k : Nat) : Value := if ix_ft d = 0 then .int (w.1 a k) else if ix_ft d = 1 then .long (w.2.1 a k) else ix_rv K (w.2.2.1 a k)
def ix_fs (K : ix_Cx) (w : ix_W) (a ci : Nat) : List Value := match ix_cl[ci]? with
  | some r => (List.range r.2.2).map (fun k => ix_fv K w a (r.2.1 k).2.2.1 k)
  | none => []
def ix_c (K : ix_Cx) (w : ix_W) (a t : Nat) : (Nat → Int32) ⊕ (Nat → Int64) ⊕ (Nat → UInt32) ⊕ (Nat → UInt64) ⊕ (Nat → Option Nat) := if t = 23 then .inr (.inl (w.2.1 a)) else if t < 23 then .inl (w.1 a) else .inr (.inr (.inr (.inr (fun i => (w.2.2.1 a i).map (fun a => K.2.2.1 + a)))))
def ix_e (K : ix_Cx) (w : ix_W) (a : Nat) : va_E := if (ix_T w a).1 < 20 then .inr ((ix_T w a).1, ix_fs K w a (ix_T w a).1) else .inl (K.2.1 ((ix_T w a).1 - 20), ((ix_T w a).2, ix_c K w a (ix_T w a).1))
def ix_ws (K : ix_Cx) (w : ix_W) : va_W := (List.range (ix_N w)).map (fun a => (K.2.2.1 + a, ix_e K w a))
abbrev ix_tys (K : ix_Cx) : List (ClassId × FieldType) := [(K.2.1 0, .int), (K.2.1 1, .byte), (K.2.1 2, .boolean), (K.2.1 3, .long), (K.2.1 4, .object RX8), (K.2.1 5, .array .int)]
def ix_isn : Cond → Bool
  | .fieldLinkNest .. => true
  | .methodLinkNest .. => true
  | .declares _ => true
  | .castable .. => true
  | _ => false
def ix_tb : List Cond := lw_tbl.filter goodWord
def ix_nt : List Cond := lw_tbl.filter ix_isn
/-- what is known of the tables at any state of the run -/
def ix_O (K : ix_Cx) (U : State) : Prop := va_K K.1 ix_cl (ix_tys K) U ∧ (∀ w ∈ ix_nt, va_Nw w U) ∧ K.2.2.2 U
def ix_A (K : ix_Cx) : Nat → Prop := fun q => K.2.2.1 ≤ q
/-- what stays: the extra words of the start are kept -/
def ix_Kp (K : ix_Cx) : Prop := ∀ s U : State, s.WarmedH U.vm → (∀ q, q < K.2.2.1 → U.heap[q]? = s.heap[q]?) → K.2.2.2 s → K.2.2.2 U
def ix_X (p : Program) (s : State) (m : MethodId) (args : Array Value) (c : Code) (K : ix_Cx) (cc : ByteArray) (own : String) (nL : Nat) : Prop :=
  p.tables.exec = Jvm.exec ∧ c.code = cc ∧ c.maxLocals = nL ∧ s.vm.findClass own = some m.cls ∧ (∀ w ∈ ix_tb, w.before args s = true) ∧ ix_O K s ∧ K.2.2.1 ≤ s.heap.size ∧ ix_Kp K
def ix_G (p : Program) (l : Launch) (e : Env) (R : Room) (s : State) (m : MethodId) (args : Array Value) (below : List Frame) (meth : Method) (c : Code) (Q : State → Prop) (K : ix_Cx) (nL k n : Nat) (pc : Nat) (L : List (Nat × Value)) (S : List Value) (w : ix_W) : Prop :=
  ∀ (H : Heap) (locs : List Loc) (ls : Array Slot), va_P K.1 ix_cl (ix_ws K w) H → H.size = K.2.2.1 + ix_N w → va_S (ix_A K) s.heap H locs → lv_has ls nL L → W p l e R s m args below meth c H locs k n Q (F0 m pc ls S)
theorem ix_isn_on {w : Cond} (h : ix_isn w = true) : w.onTables = true := by
  cases w <;> first | rfl | (simp [ix_isn] at h)
theorem ix_nt_warm {w : Cond} (h : ix_isn w = true) {s U : State} (hW : s.WarmedH U.vm) (hZ : va_Nw w s) : va_Nw w U := by
  cases w <;> first | exact va_Nw.warmF hW hZ | exact va_Nw.warmM hW hZ | exact va_Nw.warmD hW hZ | exact va_Nw.warmC hW hZ | (simp [ix_isn] at h)
theorem ix_O_moved {K : ix_Cx} (hKp : ix_Kp K) {s U : State} (hW : s.WarmedH U.vm) (hq : ∀ q, q < K.2.2.1 → U.heap[q]? = s.heap[q]?) (h : ix_O K s) : ix_O K U :=
  ⟨va_K.moved hW.alike h.1, fun w hw => ix_nt_warm (List.mem_filter.mp hw).2 hW (h.2.1 w hw), hKp s U hW hq h.2.2⟩
theorem ix_at {K : ix_Cx} {w : ix_W} {a : Nat} (h : a < ix_N w) : (ix_ws K w)[a]? = some (K.2.2.1 + a, ix_e K w a) := by
  simp [ix_ws, h]
theorem ix_len {K : ix_Cx} {w : ix_W} : (ix_ws K w).length = ix_N w := by simp [ix_ws]
theorem ix_D {K : ix_Cx} {w : ix_W} : va_D (ix_A K) (ix_ws K w) := by
  have key : ∀ (i : Nat) (q : Nat × va_E), (ix_ws K w)[i]? = some q → q.1 = K.2.2.1 + i := by
    intro i q h
    have hi : i < ix_N w := by
      have := (List.getElem?_eq_some_iff.mp h).1
      rwa [ix_len] at this
    rw [ix_at hi] at h
    cases h
    rfl
  refine ⟨fun i j p q hi hj hpq => ?_, fun k q hk => ?_⟩
  · rw [key i p hi, key j q hj] at hpq
    omega
  · show K.2.2.1 ≤ q.1
    rw [key k q hk]
    omega
theorem ix_ei {K : ix_Cx} {w : ix_W} {a t n : Nat} (h : ix_T w a = (t, n)) (h1 : 20 ≤ t) : ix_e K w a = .inl (K.2.1 (t - 20), (n, ix_c K w a t)) := by
  simp only [ix_e, h]
  rw [if_neg (by omega)]
theorem ix_eo {K : ix_Cx} {w : ix_W} {a ci : Nat} {r : vw_C} (h : (ix_T w a).1 = ci) (h1 : ci < 20) (hr : ix_cl[ci]? = some r) : ix_e K w a = .inr (ci, (List.range r.2.2).map (fun k => ix_fv K w a (r.2.1 k).2.2.1 k)) := by
  simp only [ix_e, h]
  rw [if_pos h1, ix_fs, hr]
end
section
theorem ix_up_ne {α : Type} {f : Nat → Nat → α} {a k b : Nat} {v : α} (h : b ≠ a) : ix_up f a k v b = f b := by
  funext k'
  simp [ix_up, h]
theorem ix_up_self {α : Type} {f : Nat → Nat → α} {a k : Nat} {v : α} : ix_up f a k v a k = v := by simp [ix_up]
theorem ix_up_k {α : Type} {f : Nat → Nat → α} {a k k' : Nat} {v : α} (h : k' ≠ k) : ix_up f a k v a k' = f a k' := by simp [ix_up, h]
theorem ix_e_congr {K : ix_Cx} {w w' : ix_W} {b : Nat} (h1 : w'.1 b = w.1 b) (h2 : w'.2.1 b = w.2.1 b) (h3 : w'.2.2.1 b = w.2.2.1 b) (h4 : ix_T w' b = ix_T w b) : ix_e K w' b = ix_e K w b := by
  simp only [ix_e, ix_fs, ix_fv, ix_c, h1, h2, h3, h4]
theorem ix_set {K : ix_Cx} {w w' : ix_W} {a : Nat} (ha : a < ix_N w) (hN : ix_N w' = ix_N w) (hE : ∀ b, b ≠ a → ix_e K w' b = ix_e K w b) : (ix_ws K w).set a (K.2.2.1 + a, ix_e K w' a) = ix_ws K w' := by
  apply List.ext_getElem?
  intro i
  by_cases hi : i < ix_N w
  · rw [ix_at (w := w') (by rw [hN]; exact hi)]
    by_cases h : i = a
    · subst h
      rw [List.getElem?_set_self (by rw [ix_len]; exact hi)]
    · rw [List.getElem?_set_ne (Ne.symm h), ix_at hi, hE i h]
  · rw [List.getElem?_eq_none (by rw [List.length_set, ix_len]; omega), List.getElem?_eq_none (by rw [ix_len, hN]; omega)]
theorem ix_fset {K : ix_Cx} {w w' : ix_W} {a k n : Nat} {g : Nat → String} {v : Value} (hk : k < n) (h1 : ix_fv K w' a (g k) k = v) (h2 : ∀ j, j ≠ k → ix_fv K w' a (g j) j = ix_fv K w a (g j) j) : ((List.range n).map (fun j => ix_fv K w a (g j) j)).set k v = (List.range n).map (fun j => ix_fv K w' a (g j) j) := by
  apply List.ext_getElem?
  intro i
  by_cases hi : i < n
  · by_cases h : i = k
    · subst h
      rw [List.getElem?_set_self (by simpa using hi)]
      simp [hi, h1]
    · rw [List.getElem?_set_ne (Ne.symm h)]
      simp [hi, h2 i h]
  · rw [List.getElem?_eq_none (by simp; omega), List.getElem?_eq_none (by simp; omega)]
theorem ix_oset {K : ix_Cx} {w w' : ix_W} {a k ci : Nat} {r : vw_C} {v : Value} (ha : a < ix_N w) (hN : ix_N w' = ix_N w) (hE : ∀ b, b ≠ a → ix_e K w' b = ix_e K w b) (hT : ix_T w' a = ix_T w a) (hc : (ix_T w a).1 = ci) (hci : ci < 20) (hr : ix_cl[ci]? = some r) (hk : k < r.2.2)
    (h1 : ix_fv K w' a (r.2.1 k).2.2.1 k = v) (h2 : ∀ j, j ≠ k → ix_fv K w' a (r.2.1 j).2.2.1 j = ix_fv K w a (r.2.1 j).2.2.1 j) :
    (ix_ws K w).set a (K.2.2.1 + a, .inr (ci, ((List.range r.2.2).map (fun j => ix_fv K w a (r.2.1 j).2.2.1 j)).set k v)) = ix_ws K w' := by
  rw [← ix_set ha hN hE, ix_eo (hT ▸ hc) hci hr, ix_fset (g := fun j => (r.2.1 j).2.2.1) hk h1 h2]
theorem ix_wm {i : Nat} {w : Cond} (h : tables_1[i]? = some w) : w ∈ lw_tbl := List.mem_append_right _ (List.mem_of_getElem? h)
/-- which words a getfield or putfield needs: its link, over each class in cs, field k, of type t (0 int, 1 long, 2 reference), fin: final -/
def ix_flb (pl ps : Nat) (nest : Bool) (own : String) (idx : Nat) (ref : String) (cs : List Nat) (k t : Nat) : Bool := cs.all (fun ci => decide (ci < 20) && match ix_cl[ci]? with
  | none => false
  | some r => decide (k < r.2.2) && decide (ix_ft (r.2.1 k).2.2.1 = t) && (if nest then decide (tables_1[pl]? = some (Cond.fieldLinkNest own idx ref (r.2.1 k).2.1 (r.2.1 k).2.2.1 "ClauseCourt")) else decide (tables_1[pl]? = some (Cond.fieldLink own idx ref (r.2.1 k).2.1 (r.2.1 k).2.2.1))) && (decide (ref = (r.2.1 k).1) || decide (tables_1[ps]? = some (Cond.sameField ref (r.2.1 k).1 (r.2.1 k).2.1 (r.2.1 k).2.2.1))))
theorem ix_flb_spec {pl ps : Nat} {nest : Bool} {own : String} {idx : Nat} {ref : String} {cs : List Nat} {k t ci : Nat} (h : ix_flb pl ps nest own idx ref cs k t = true) (hc : ci ∈ cs) : ci < 20 ∧ ∃ r, ix_cl[ci]? = some r ∧ k < r.2.2 ∧ ix_ft (r.2.1 k).2.2.1 = t ∧ (nest = false → Cond.fieldLink own idx ref (r.2.1 k).2.1 (r.2.1 k).2.2.1 ∈ lw_tbl) ∧ (nest = true → Cond.fieldLinkNest own idx ref (r.2.1 k).2.1 (r.2.1 k).2.2.1 "ClauseCourt" ∈ lw_tbl) ∧ (ref = (r.2.1 k).1 ∨ Cond.sameField ref (r.2.1 k).1 (r.2.1 k).2.1 (r.2.1 k).2.2.1 ∈ lw_tbl) := by
  have h1 := List.all_eq_true.mp h ci hc
  rw [Bool.and_eq_true] at h1
  refine ⟨of_decide_eq_true h1.1, ?_⟩
  have h2 := h1.2
  cases hr : ix_cl[ci]? with
  | none => rw [hr] at h2; cases h2
  | some r =>
    rw [hr] at h2
    simp only [Bool.and_eq_true, Bool.or_eq_true, decide_eq_true_eq] at h2
    obtain ⟨⟨⟨a1, a2⟩, a3⟩, a4⟩ := h2
    refine ⟨r, rfl, a1, a2, fun hn => ?_, fun hn => ?_, a4.imp id ix_wm⟩
    · rw [hn] at a3; exact ix_wm (by simpa using a3)
    · rw [hn] at a3; exact ix_wm (by simpa using a3)
theorem ix_in0 : ∀ j, j < 4 → tables_1[([643,644,645,641] : List Nat).getD j 0]? = some (u_lay RX0 TX0 j) := by decide +kernel
theorem ix_in1 : ∀ j, j < 17 → tables_1[([235,237,239,241,243,245,247,249,251,253,255,257,259,261,263,265,267] : List Nat).getD j 0]? = some (u_lay RX1 TX1 j) := by decide +kernel
theorem ix_in2 : ∀ j, j < 12 → tables_1[([158,160,162,164,166,168,170,172,174,176,178,180] : List Nat).getD j 0]? = some (u_lay RX2 TX2 j) := by decide +kernel
theorem ix_in3 : ∀ j, j < 3 → tables_1[([522,524,526] : List Nat).getD j 0]? = some (u_lay RX3 TX3 j) := by decide +kernel
theorem ix_in4 : ∀ j, j < 17 → tables_1[([63,65,67,69,71,73,75,77,79,81,83,85,87,89,91,93,95] : List Nat).getD j 0]? = some (u_lay RX4 TX4 j) := by decide +kernel
theorem ix_in5 : ∀ j, j < 4 → tables_1[([658,659,660,657] : List Nat).getD j 0]? = some (u_lay RX5 TX5 j) := by decide +kernel
theorem ix_in6 : ∀ j, j < 4 → tables_1[([675,676,677,673] : List Nat).getD j 0]? = some (u_lay RX6 TX6 j) := by decide +kernel
theorem ix_in7 : ∀ j, j < 3 → tables_1[([124,126,128] : List Nat).getD j 0]? = some (u_lay RX7 TX7 j) := by decide +kernel
theorem ix_in8 : ∀ j, j < 20 → tables_1[([301,303,305,307,309,311,313,315,317,319,321,323,325,327,329,331,333,335,337,339] : List Nat).getD j 0]? = some (u_lay RX9 TX9 j) := by decide +kernel
theorem ix_in9 : ∀ j, j < 6 → tables_1[([834,835,836,828,830,832] : List Nat).getD j 0]? = some (u_lay RX10 TX10 j) := by decide +kernel
theorem ix_in10 : ∀ j, j < 18 → tables_1[([363,365,367,369,371,373,375,377,379,381,383,385,387,389,391,393,395,397] : List Nat).getD j 0]? = some (u_lay RX11 TX11 j) := by decide +kernel
theorem ix_in11 : ∀ j, j < 116 → tables_1[([1680,1682,1684,1686,1688,1690,1692,1694,1696,1698,1700,1702,1704,1706,1708,1710,1712,1714,1716,1718,1720,1722,1724,1726,1728,1730,1732,1734,1736,1738,1740,1742,1744,1746,1748,1750,1752,1754,1756,1758,1760,1762,1764,1766,1768,1770,1772,1774,1776,1778,1780,1782,1784,1786,1788,1790,1792,1794,1796,1798,1800,1802,1804,1806,1808,1810,1812,1814,1816,1818,1820,1822,1824,1826,1828,1830,1832,1834,1836,1838,1840,1842,1844,1846,1848,1850,1852,1854,1856,1858,1860,1862,1864,1866,1868,1870,1872,1874,1876,1878,1880,1882,1884,1886,1888,1890,1892,1894,1896,1898,1900,1902,1904,1906,1908,1910] : List Nat).getD j 0]? = some (u_lay RX12 TX12 j) := by decide +kernel
theorem ix_lg {C : String} {T : u_T} {k : Nat} : goodWord (u_lay C T k) = true := by
  unfold u_lay
  split <;> rfl
theorem ix_in_of {C : String} {T : u_T} {N : Nat} {f : Nat → Nat} (h : ∀ j, j < N → tables_1[f j]? = some (u_lay C T j)) : ∀ w ∈ u_ws C T N, w ∈ lw_tbl ∧ goodWord w = true := by
  intro w hw
  obtain ⟨j, hj, rfl⟩ := List.mem_map.mp hw
  exact ⟨ix_wm (h j (List.mem_range.mp hj)), ix_lg⟩
theorem ix_in : ∀ r ∈ ix_cl, ∀ w ∈ u_ws r.1 r.2.1 r.2.2, w ∈ lw_tbl ∧ goodWord w = true := by
  intro r hr
  simp only [ix_cl, List.mem_cons, List.not_mem_nil, or_false] at hr
  rcases hr with rfl | rfl | rfl | rfl | rfl | rfl | rfl | rfl | rfl | rfl | rfl | rfl
  · exact ix_in_of ix_in0
  · exact ix_in_of ix_in1
  · exact ix_in_of ix_in2
  · exact ix_in_of ix_in3
  · exact ix_in_of ix_in4
  · exact ix_in_of ix_in5
  · exact ix_in_of ix_in6
  · exact ix_in_of ix_in7
  · exact ix_in_of ix_in8
  · exact ix_in_of ix_in9
  · exact ix_in_of ix_in10
  · exact ix_in_of ix_in11
theorem ix_nm : ∀ r ∈ ix_cl, ∀ a, a < r.2.2 → ∀ b, b < r.2.2 → a ≠ b → (r.2.1 a).2.1 ≠ (r.2.1 b).2.1 := by
  intro r hr
  simp only [ix_cl, List.mem_cons, List.not_mem_nil, or_false] at hr
  rcases hr with rfl | rfl | rfl | rfl | rfl | rfl | rfl | rfl | rfl | rfl | rfl | rfl
  · exact nmX0
  · exact nmX1
  · exact nmX2
  · exact nmX3
  · exact nmX4
  · exact nmX5
  · exact nmX6
  · exact nmX7
  · exact nmX9
  · exact nmX10
  · exact nmX11
  · exact nmX12
theorem ix_ty : ∀ r ∈ ix_cl, ∃ ty : Nat → FieldType, ∀ k, k < r.2.2 → parseFieldDescriptor (r.2.1 k).2.2.1 = some (ty k) := by
  intro r hr
  simp only [ix_cl, List.mem_cons, List.not_mem_nil, or_false] at hr
  rcases hr with rfl | rfl | rfl | rfl | rfl | rfl | rfl | rfl | rfl | rfl | rfl | rfl
  · exact ⟨_, tyX0_ok⟩
  · exact ⟨_, tyX1_ok⟩
  · exact ⟨_, tyX2_ok⟩
  · exact ⟨_, tyX3_ok⟩
  · exact ⟨_, tyX4_ok⟩
  · exact ⟨_, tyX5_ok⟩
  · exact ⟨_, tyX6_ok⟩
  · exact ⟨_, tyX7_ok⟩
  · exact ⟨_, tyX9_ok⟩
  · exact ⟨_, tyX10_ok⟩
  · exact ⟨_, tyX11_ok⟩
  · exact ⟨_, tyX12_ok⟩
theorem ix_tbm {w : Cond} (h : w ∈ lw_tbl) (h1 : goodWord w = true) : w ∈ ix_tb := List.mem_filter.mpr ⟨h, h1⟩
theorem ix_ntm {w : Cond} (h : w ∈ lw_tbl) (h1 : ix_isn w = true) : w ∈ ix_nt := List.mem_filter.mpr ⟨h, h1⟩
section IXR
variable {p : Program} {l : Launch} {e : Env} {R : Room} {s : State} {m : MethodId} {args : Array Value} {below : List Frame} {meth : Method} {c : Code} {Q : State → Prop} {K : ix_Cx} {nL k n : Nat} {cc : ByteArray} {own : String} {pc : Nat} {L : List (Nat × Value)} {S : List Value} {w : ix_W}
theorem ix_hsame {ref O f d : String} (hts : ∀ w ∈ ix_tb, w.before args s = true) (h : ref = O ∨ Cond.sameField ref O f d ∈ lw_tbl) : ∀ x, s.fieldFound? O f d = some x → s.fieldFound? ref f d = some x := by
  intro x hx
  rcases h with rfl | h
  · exact hx
  · exact u_same (hts _ (ix_tbm h rfl)) x hx
/-- the field's value, whatever its type -/
theorem ix_get0 (X : ix_X p s m args c K cc own nL) {pl ps : Nat} {nest : Bool} {a idx kf t : Nat} {ref : String} {cs : List Nat} (hf : ix_flb pl ps nest own idx ref cs kf t = true) (hc : a < ix_N w ∧ (ix_T w a).1 ∈ cs) (hd : decode cc pc = .ok (.getfield idx, 3)) {v : Value} (hv : ∀ d, ix_ft d = t → ix_fv K w a d kf = v)
    {pc1 : Nat} (hp : pc + 3 = pc1) (kk : ix_G p l e R s m args below meth c Q K nL k n pc1 L (v :: S) w) : ix_G p l e R s m args below meth c Q K nL k n pc L (.ref (K.2.2.1 + a) :: S) w := by
  subst hp
  intro H locs ls hP hz hS hl
  obtain ⟨hx, hb, hml, hown, hts, hO, hN0, hKp⟩ := X
  obtain ⟨hci, r, hr, hk, ht, hl1, hl2, hsm⟩ := ix_flb_spec hf hc.2
  have hrm := List.mem_of_getElem? hr
  have he : (ix_ws K w)[a]? = some (K.2.2.1 + a, .inr ((ix_T w a).1, (List.range r.2.2).map (fun k => ix_fv K w a (r.2.1 k).2.2.1 k))) := by rw [ix_at hc.1, ix_eo rfl hci hr]
  have hv2 : ((List.range r.2.2).map (fun k => ix_fv K w a (r.2.1 k).2.2.1 k))[kf]? = some v := by simp [hk, hv _ ht]
  cases nest with
  | false => exact va_get hx hb hts (fun w hw => ix_tbm (ix_in r hrm w hw).1 (ix_in r hrm w hw).2) hown hO.1 hP a he hr kf hk (hts _ (ix_tbm (hl1 rfl) rfl)) (ix_hsame hts hsm) hv2 hd (kk H locs ls hP hz hS hl)
  | true => exact va_getN hx hb hts (fun w hw => ix_tbm (ix_in r hrm w hw).1 (ix_in r hrm w hw).2) hown hO.1 hP a he hr kf hk (va_Nw.use rfl (hO.2.1 _ (ix_ntm (hl2 rfl) rfl))) (ix_hsame hts hsm) hv2 hd (kk H locs ls hP hz hS hl)
theorem ix_getI (X : ix_X p s m args c K cc own nL) {pl ps : Nat} {nest : Bool} {a idx kf : Nat} {ref : String} {cs : List Nat} (hf : ix_flb pl ps nest own idx ref cs kf 0 = true) (hc : a < ix_N w ∧ (ix_T w a).1 ∈ cs) (hd : decode cc pc = .ok (.getfield idx, 3))
    {pc1 : Nat} (hp : pc + 3 = pc1) (kk : ix_G p l e R s m args below meth c Q K nL k n pc1 L (.int (w.1 a kf) :: S) w) : ix_G p l e R s m args below meth c Q K nL k n pc L (.ref (K.2.2.1 + a) :: S) w := by
  subst hp
  exact ix_get0 X hf hc hd (fun d h => by simp [ix_fv, h]) rfl kk
theorem ix_getJ (X : ix_X p s m args c K cc own nL) {pl ps : Nat} {nest : Bool} {a idx kf : Nat} {ref : String} {cs : List Nat} (hf : ix_flb pl ps nest own idx ref cs kf 1 = true) (hc : a < ix_N w ∧ (ix_T w a).1 ∈ cs) (hd : decode cc pc = .ok (.getfield idx, 3))
    {pc1 : Nat} (hp : pc + 3 = pc1) (kk : ix_G p l e R s m args below meth c Q K nL k n pc1 L (.long (w.2.1 a kf) :: S) w) : ix_G p l e R s m args below meth c Q K nL k n pc L (.ref (K.2.2.1 + a) :: S) w := by
  subst hp
  exact ix_get0 X hf hc hd (fun d h => by simp [ix_fv, h]) rfl kk
theorem ix_getR (X : ix_X p s m args c K cc own nL) {pl ps : Nat} {nest : Bool} {a idx kf b : Nat} {ref : String} {cs : List Nat} (hf : ix_flb pl ps nest own idx ref cs kf 2 = true) (hc : a < ix_N w ∧ (ix_T w a).1 ∈ cs) (hr : w.2.2.1 a kf = some b) (hd : decode cc pc = .ok (.getfield idx, 3))
    {pc1 : Nat} (hp : pc + 3 = pc1) (kk : ix_G p l e R s m args below meth c Q K nL k n pc1 L (.ref (K.2.2.1 + b) :: S) w) : ix_G p l e R s m args below meth c Q K nL k n pc L (.ref (K.2.2.1 + a) :: S) w := by
  subst hp
  exact ix_get0 X hf hc hd (fun d h => by simp [ix_fv, h, ix_rv, hr, va_rf]) rfl kk
end IXR
end
section
section IXS
variable {p : Program} {l : Launch} {e : Env} {R : Room} {s : State} {m : MethodId} {args : Array Value} {below : List Frame} {meth : Method} {c : Code} {Q : State → Prop} {K : ix_Cx} {nL k n : Nat} {cc : ByteArray} {own : String} {pc : Nat} {L : List (Nat × Value)} {S : List Value} {w : ix_W}
theorem ix_iconst (X : ix_X p s m args c K cc own nL) {i : Int} {v : Int32} (hd : decode cc pc = .ok (.iconst i, 1)) (hv : Int32.ofInt i = v) {pc1 : Nat} (hp : pc + 1 = pc1) (kk : ix_G p l e R s m args below meth c Q K nL k n pc1 L (.int v :: S) w) : ix_G p l e R s m args below meth c Q K nL k n pc L (S) w := by
  subst hp
  exact fun H locs ls hP hz hS hl => lv_iconst X.1 X.2.1 hd hv (kk H locs ls hP hz hS hl)
theorem ix_bipush (X : ix_X p s m args c K cc own nL) {i : Int} {v : Int32} (hd : decode cc pc = .ok (.bipush i, 2)) (hv : (Int8.ofInt i).toInt32 = v) {pc1 : Nat} (hp : pc + 2 = pc1) (kk : ix_G p l e R s m args below meth c Q K nL k n pc1 L (.int v :: S) w) : ix_G p l e R s m args below meth c Q K nL k n pc L (S) w := by
  subst hp
  exact fun H locs ls hP hz hS hl => lv_bipush X.1 X.2.1 hd hv (kk H locs ls hP hz hS hl)
theorem ix_sipush (X : ix_X p s m args c K cc own nL) {i : Int} {v : Int32} (hd : decode cc pc = .ok (.sipush i, 3)) (hv : (Int16.ofInt i).toInt32 = v) {pc1 : Nat} (hp : pc + 3 = pc1) (kk : ix_G p l e R s m args below meth c Q K nL k n pc1 L (.int v :: S) w) : ix_G p l e R s m args below meth c Q K nL k n pc L (S) w := by
  subst hp
  exact fun H locs ls hP hz hS hl => lv_sipush X.1 X.2.1 hd hv (kk H locs ls hP hz hS hl)
theorem ix_lconst (X : ix_X p s m args c K cc own nL) {i : Fin 2} {v : Int64} (hd : decode cc pc = .ok (.lconst i, 1)) (hv : Int64.ofNat (i : Nat) = v) {pc1 : Nat} (hp : pc + 1 = pc1) (kk : ix_G p l e R s m args below meth c Q K nL k n pc1 L (.long v :: S) w) : ix_G p l e R s m args below meth c Q K nL k n pc L (S) w := by
  subst hp
  exact fun H locs ls hP hz hS hl => lv_lconst X.1 X.2.1 hd hv (kk H locs ls hP hz hS hl)
theorem ix_iload (X : ix_X p s m args c K cc own nL) {i j : Nat} {x : Int32} (hd : decode cc pc = .ok (.iload i, 2)) (hm : L[j]? = some (i, .int x)) {pc1 : Nat} (hp : pc + 2 = pc1) (kk : ix_G p l e R s m args below meth c Q K nL k n pc1 L (.int x :: S) w) : ix_G p l e R s m args below meth c Q K nL k n pc L (S) w := by
  subst hp
  exact fun H locs ls hP hz hS hl => lv_iload X.1 X.2.1 hd (lv_at hl j hm) (kk H locs ls hP hz hS hl)
theorem ix_iload_n (X : ix_X p s m args c K cc own nL) {f : Fin 4} {i j : Nat} {x : Int32} (hd : decode cc pc = .ok (.iload_n f, 1)) (hi : (f : Nat) = i) (hm : L[j]? = some (i, .int x)) {pc1 : Nat} (hp : pc + 1 = pc1) (kk : ix_G p l e R s m args below meth c Q K nL k n pc1 L (.int x :: S) w) : ix_G p l e R s m args below meth c Q K nL k n pc L (S) w := by
  subst hp
  exact fun H locs ls hP hz hS hl => lv_iload_n X.1 X.2.1 hd hi (lv_at hl j hm) (kk H locs ls hP hz hS hl)
theorem ix_lload (X : ix_X p s m args c K cc own nL) {i j : Nat} {x : Int64} (hd : decode cc pc = .ok (.lload i, 2)) (hm : L[j]? = some (i, .long x)) {pc1 : Nat} (hp : pc + 2 = pc1) (kk : ix_G p l e R s m args below meth c Q K nL k n pc1 L (.long x :: S) w) : ix_G p l e R s m args below meth c Q K nL k n pc L (S) w := by
  subst hp
  exact fun H locs ls hP hz hS hl => lv_lload X.1 X.2.1 hd (lv_at hl j hm) (kk H locs ls hP hz hS hl)
theorem ix_lload_n (X : ix_X p s m args c K cc own nL) {f : Fin 4} {i j : Nat} {x : Int64} (hd : decode cc pc = .ok (.lload_n f, 1)) (hi : (f : Nat) = i) (hm : L[j]? = some (i, .long x)) {pc1 : Nat} (hp : pc + 1 = pc1) (kk : ix_G p l e R s m args below meth c Q K nL k n pc1 L (.long x :: S) w) : ix_G p l e R s m args below meth c Q K nL k n pc L (S) w := by
  subst hp
  exact fun H locs ls hP hz hS hl => lv_lload_n X.1 X.2.1 hd hi (lv_at hl j hm) (kk H locs ls hP hz hS hl)
theorem ix_aload (X : ix_X p s m args c K cc own nL) {i j : Nat} {x : Nat} (hd : decode cc pc = .ok (.aload i, 2)) (hm : L[j]? = some (i, .ref x)) {pc1 : Nat} (hp : pc + 2 = pc1) (kk : ix_G p l e R s m args below meth c Q K nL k n pc1 L (.ref x :: S) w) : ix_G p l e R s m args below meth c Q K nL k n pc L (S) w := by
  subst hp
  exact fun H locs ls hP hz hS hl => lv_aload X.1 X.2.1 hd (lv_at hl j hm) (kk H locs ls hP hz hS hl)
theorem ix_aload_n (X : ix_X p s m args c K cc own nL) {f : Fin 4} {i j : Nat} {x : Nat} (hd : decode cc pc = .ok (.aload_n f, 1)) (hi : (f : Nat) = i) (hm : L[j]? = some (i, .ref x)) {pc1 : Nat} (hp : pc + 1 = pc1) (kk : ix_G p l e R s m args below meth c Q K nL k n pc1 L (.ref x :: S) w) : ix_G p l e R s m args below meth c Q K nL k n pc L (S) w := by
  subst hp
  exact fun H locs ls hP hz hS hl => lv_aload_n X.1 X.2.1 hd hi (lv_at hl j hm) (kk H locs ls hP hz hS hl)
theorem ix_aload_nN (X : ix_X p s m args c K cc own nL) {f : Fin 4} {i j : Nat} (hd : decode cc pc = .ok (.aload_n f, 1)) (hi : (f : Nat) = i) (hm : L[j]? = some (i, .null)) {pc1 : Nat} (hp : pc + 1 = pc1) (kk : ix_G p l e R s m args below meth c Q K nL k n pc1 L (.null :: S) w) : ix_G p l e R s m args below meth c Q K nL k n pc L (S) w := by
  subst hp
  exact fun H locs ls hP hz hS hl => lv_aload_nN X.1 X.2.1 hd hi (lv_at hl j hm) (kk H locs ls hP hz hS hl)
theorem ix_istore (X : ix_X p s m args c K cc own nL) {i : Nat} {x : Int32} {L1 : List (Nat × Value)} (hd : decode cc pc = .ok (.istore i, 2)) (hn : i < nL) (hL : (i, Value.int x) :: L.filter (fun q => !(q.1 == i) && !(q.1 + 1 == i && q.2.category == 2)) = L1) {pc1 : Nat} (hp : pc + 2 = pc1) (kk : ix_G p l e R s m args below meth c Q K nL k n pc1 L1 S w) : ix_G p l e R s m args below meth c Q K nL k n pc L (.int x :: S) w := by
  subst hp
  exact fun H locs ls hP hz hS hl => lv_istore X.1 X.2.1 hd hl hn hL (fun ls1 hl1 => kk H locs ls1 hP hz hS hl1)
theorem ix_istore_n (X : ix_X p s m args c K cc own nL) {f : Fin 4} {i : Nat} {x : Int32} {L1 : List (Nat × Value)} (hd : decode cc pc = .ok (.istore_n f, 1)) (hi : (f : Nat) = i) (hn : i < nL) (hL : (i, Value.int x) :: L.filter (fun q => !(q.1 == i) && !(q.1 + 1 == i && q.2.category == 2)) = L1) {pc1 : Nat} (hp : pc + 1 = pc1) (kk : ix_G p l e R s m args below meth c Q K nL k n pc1 L1 S w) : ix_G p l e R s m args below meth c Q K nL k n pc L (.int x :: S) w := by
  subst hp
  exact fun H locs ls hP hz hS hl => lv_istore_n X.1 X.2.1 hd hi hl hn hL (fun ls1 hl1 => kk H locs ls1 hP hz hS hl1)
theorem ix_lstore (X : ix_X p s m args c K cc own nL) {i : Nat} {x : Int64} {L1 : List (Nat × Value)} (hd : decode cc pc = .ok (.lstore i, 2)) (hn : i + 1 < nL) (hL : (i, Value.long x) :: L.filter (fun q => !(q.1 == i) && (!(q.1 == i + 1) && !(q.1 + 1 == i && q.2.category == 2))) = L1) {pc1 : Nat} (hp : pc + 2 = pc1) (kk : ix_G p l e R s m args below meth c Q K nL k n pc1 L1 S w) : ix_G p l e R s m args below meth c Q K nL k n pc L (.long x :: S) w := by
  subst hp
  exact fun H locs ls hP hz hS hl => lv_lstore X.1 X.2.1 hd hl hn hL (fun ls1 hl1 => kk H locs ls1 hP hz hS hl1)
theorem ix_lstore_n (X : ix_X p s m args c K cc own nL) {f : Fin 4} {i : Nat} {x : Int64} {L1 : List (Nat × Value)} (hd : decode cc pc = .ok (.lstore_n f, 1)) (hi : (f : Nat) = i) (hn : i + 1 < nL) (hL : (i, Value.long x) :: L.filter (fun q => !(q.1 == i) && (!(q.1 == i + 1) && !(q.1 + 1 == i && q.2.category == 2))) = L1) {pc1 : Nat} (hp : pc + 1 = pc1) (kk : ix_G p l e R s m args below meth c Q K nL k n pc1 L1 S w) : ix_G p l e R s m args below meth c Q K nL k n pc L (.long x :: S) w := by
  subst hp
  exact fun H locs ls hP hz hS hl => lv_lstore_n X.1 X.2.1 hd hi hl hn hL (fun ls1 hl1 => kk H locs ls1 hP hz hS hl1)
theorem ix_astore (X : ix_X p s m args c K cc own nL) {i : Nat} {x : Nat} {L1 : List (Nat × Value)} (hd : decode cc pc = .ok (.astore i, 2)) (hn : i < nL) (hL : (i, Value.ref x) :: L.filter (fun q => !(q.1 == i) && !(q.1 + 1 == i && q.2.category == 2)) = L1) {pc1 : Nat} (hp : pc + 2 = pc1) (kk : ix_G p l e R s m args below meth c Q K nL k n pc1 L1 S w) : ix_G p l e R s m args below meth c Q K nL k n pc L (.ref x :: S) w := by
  subst hp
  exact fun H locs ls hP hz hS hl => lv_astore X.1 X.2.1 hd hl hn hL (fun ls1 hl1 => kk H locs ls1 hP hz hS hl1)
theorem ix_astore_n (X : ix_X p s m args c K cc own nL) {f : Fin 4} {i : Nat} {x : Nat} {L1 : List (Nat × Value)} (hd : decode cc pc = .ok (.astore_n f, 1)) (hi : (f : Nat) = i) (hn : i < nL) (hL : (i, Value.ref x) :: L.filter (fun q => !(q.1 == i) && !(q.1 + 1 == i && q.2.category == 2)) = L1) {pc1 : Nat} (hp : pc + 1 = pc1) (kk : ix_G p l e R s m args below meth c Q K nL k n pc1 L1 S w) : ix_G p l e R s m args below meth c Q K nL k n pc L (.ref x :: S) w := by
  subst hp
  exact fun H locs ls hP hz hS hl => lv_astore_n X.1 X.2.1 hd hi hl hn hL (fun ls1 hl1 => kk H locs ls1 hP hz hS hl1)
theorem ix_astore_nN (X : ix_X p s m args c K cc own nL) {f : Fin 4} {i : Nat} {L1 : List (Nat × Value)} (hd : decode cc pc = .ok (.astore_n f, 1)) (hi : (f : Nat) = i) (hn : i < nL) (hL : (i, Value.null) :: L.filter (fun q => !(q.1 == i) && !(q.1 + 1 == i && q.2.category == 2)) = L1) {pc1 : Nat} (hp : pc + 1 = pc1) (kk : ix_G p l e R s m args below meth c Q K nL k n pc1 L1 S w) : ix_G p l e R s m args below meth c Q K nL k n pc L (.null :: S) w := by
  subst hp
  exact fun H locs ls hP hz hS hl => lv_astore_nN X.1 X.2.1 hd hi hl hn hL (fun ls1 hl1 => kk H locs ls1 hP hz hS hl1)
theorem ix_iinc (X : ix_X p s m args c K cc own nL) {i j : Nat} {d : Int} {x v : Int32} {L1 : List (Nat × Value)} (hd : decode cc pc = .ok (.iinc i d, 3)) (hm : L[j]? = some (i, .int x)) (hv : x + Int32.ofInt d = v) (hn : i < nL) (hL : (i, Value.int v) :: L.filter (fun q => !(q.1 == i) && !(q.1 + 1 == i && q.2.category == 2)) = L1) {pc1 : Nat} (hp : pc + 3 = pc1) (kk : ix_G p l e R s m args below meth c Q K nL k n pc1 L1 S w) : ix_G p l e R s m args below meth c Q K nL k n pc L S w := by
  subst hp
  exact fun H locs ls hP hz hS hl => lv_iinc X.1 X.2.1 hd hl hm hv hn hL (fun ls1 hl1 => kk H locs ls1 hP hz hS hl1)
theorem ix_iadd (X : ix_X p s m args c K cc own nL) {x y : Int32} (hd : decode cc pc = .ok (.iadd, 1)) {pc1 : Nat} (hp : pc + 1 = pc1) (kk : ix_G p l e R s m args below meth c Q K nL k n pc1 L (.int (x + y) :: S) w) : ix_G p l e R s m args below meth c Q K nL k n pc L (.int y :: .int x :: S) w := by
  subst hp
  exact fun H locs ls hP hz hS hl => lv_iadd X.1 X.2.1 hd (kk H locs ls hP hz hS hl)
theorem ix_isub (X : ix_X p s m args c K cc own nL) {x y : Int32} (hd : decode cc pc = .ok (.isub, 1)) {pc1 : Nat} (hp : pc + 1 = pc1) (kk : ix_G p l e R s m args below meth c Q K nL k n pc1 L (.int (x - y) :: S) w) : ix_G p l e R s m args below meth c Q K nL k n pc L (.int y :: .int x :: S) w := by
  subst hp
  exact fun H locs ls hP hz hS hl => lv_isub X.1 X.2.1 hd (kk H locs ls hP hz hS hl)
theorem ix_imul (X : ix_X p s m args c K cc own nL) {x y : Int32} (hd : decode cc pc = .ok (.imul, 1)) {pc1 : Nat} (hp : pc + 1 = pc1) (kk : ix_G p l e R s m args below meth c Q K nL k n pc1 L (.int (x * y) :: S) w) : ix_G p l e R s m args below meth c Q K nL k n pc L (.int y :: .int x :: S) w := by
  subst hp
  exact fun H locs ls hP hz hS hl => lv_imul X.1 X.2.1 hd (kk H locs ls hP hz hS hl)
theorem ix_iand (X : ix_X p s m args c K cc own nL) {x y : Int32} (hd : decode cc pc = .ok (.iand, 1)) {pc1 : Nat} (hp : pc + 1 = pc1) (kk : ix_G p l e R s m args below meth c Q K nL k n pc1 L (.int (x &&& y) :: S) w) : ix_G p l e R s m args below meth c Q K nL k n pc L (.int y :: .int x :: S) w := by
  subst hp
  exact fun H locs ls hP hz hS hl => lv_iand X.1 X.2.1 hd (kk H locs ls hP hz hS hl)
theorem ix_ior (X : ix_X p s m args c K cc own nL) {x y : Int32} (hd : decode cc pc = .ok (.ior, 1)) {pc1 : Nat} (hp : pc + 1 = pc1) (kk : ix_G p l e R s m args below meth c Q K nL k n pc1 L (.int (x ||| y) :: S) w) : ix_G p l e R s m args below meth c Q K nL k n pc L (.int y :: .int x :: S) w := by
  subst hp
  exact fun H locs ls hP hz hS hl => lv_ior X.1 X.2.1 hd (kk H locs ls hP hz hS hl)
theorem ix_ixor (X : ix_X p s m args c K cc own nL) {x y : Int32} (hd : decode cc pc = .ok (.ixor, 1)) {pc1 : Nat} (hp : pc + 1 = pc1) (kk : ix_G p l e R s m args below meth c Q K nL k n pc1 L (.int (x ^^^ y) :: S) w) : ix_G p l e R s m args below meth c Q K nL k n pc L (.int y :: .int x :: S) w := by
  subst hp
  exact fun H locs ls hP hz hS hl => lv_ixor X.1 X.2.1 hd (kk H locs ls hP hz hS hl)
theorem ix_ishl (X : ix_X p s m args c K cc own nL) {x y : Int32} (hd : decode cc pc = .ok (.ishl, 1)) {pc1 : Nat} (hp : pc + 1 = pc1) (kk : ix_G p l e R s m args below meth c Q K nL k n pc1 L (.int (x <<< (y &&& 31)) :: S) w) : ix_G p l e R s m args below meth c Q K nL k n pc L (.int y :: .int x :: S) w := by
  subst hp
  exact fun H locs ls hP hz hS hl => lv_ishl X.1 X.2.1 hd (kk H locs ls hP hz hS hl)
theorem ix_ishr (X : ix_X p s m args c K cc own nL) {x y : Int32} (hd : decode cc pc = .ok (.ishr, 1)) {pc1 : Nat} (hp : pc + 1 = pc1) (kk : ix_G p l e R s m args below meth c Q K nL k n pc1 L (.int (x >>> (y &&& 31)) :: S) w) : ix_G p l e R s m args below meth c Q K nL k n pc L (.int y :: .int x :: S) w := by
  subst hp
  exact fun H locs ls hP hz hS hl => lv_ishr X.1 X.2.1 hd (kk H locs ls hP hz hS hl)
theorem ix_ladd (X : ix_X p s m args c K cc own nL) {x y : Int64} (hd : decode cc pc = .ok (.ladd, 1)) {pc1 : Nat} (hp : pc + 1 = pc1) (kk : ix_G p l e R s m args below meth c Q K nL k n pc1 L (.long (x + y) :: S) w) : ix_G p l e R s m args below meth c Q K nL k n pc L (.long y :: .long x :: S) w := by
  subst hp
  exact fun H locs ls hP hz hS hl => lv_ladd X.1 X.2.1 hd (kk H locs ls hP hz hS hl)
theorem ix_lsub (X : ix_X p s m args c K cc own nL) {x y : Int64} (hd : decode cc pc = .ok (.lsub, 1)) {pc1 : Nat} (hp : pc + 1 = pc1) (kk : ix_G p l e R s m args below meth c Q K nL k n pc1 L (.long (x - y) :: S) w) : ix_G p l e R s m args below meth c Q K nL k n pc L (.long y :: .long x :: S) w := by
  subst hp
  exact fun H locs ls hP hz hS hl => lv_lsub X.1 X.2.1 hd (kk H locs ls hP hz hS hl)
theorem ix_lmul (X : ix_X p s m args c K cc own nL) {x y : Int64} (hd : decode cc pc = .ok (.lmul, 1)) {pc1 : Nat} (hp : pc + 1 = pc1) (kk : ix_G p l e R s m args below meth c Q K nL k n pc1 L (.long (x * y) :: S) w) : ix_G p l e R s m args below meth c Q K nL k n pc L (.long y :: .long x :: S) w := by
  subst hp
  exact fun H locs ls hP hz hS hl => lv_lmul X.1 X.2.1 hd (kk H locs ls hP hz hS hl)
theorem ix_land (X : ix_X p s m args c K cc own nL) {x y : Int64} (hd : decode cc pc = .ok (.land, 1)) {pc1 : Nat} (hp : pc + 1 = pc1) (kk : ix_G p l e R s m args below meth c Q K nL k n pc1 L (.long (x &&& y) :: S) w) : ix_G p l e R s m args below meth c Q K nL k n pc L (.long y :: .long x :: S) w := by
  subst hp
  exact fun H locs ls hP hz hS hl => lv_land X.1 X.2.1 hd (kk H locs ls hP hz hS hl)
theorem ix_lor (X : ix_X p s m args c K cc own nL) {x y : Int64} (hd : decode cc pc = .ok (.lor, 1)) {pc1 : Nat} (hp : pc + 1 = pc1) (kk : ix_G p l e R s m args below meth c Q K nL k n pc1 L (.long (x ||| y) :: S) w) : ix_G p l e R s m args below meth c Q K nL k n pc L (.long y :: .long x :: S) w := by
  subst hp
  exact fun H locs ls hP hz hS hl => lv_lor X.1 X.2.1 hd (kk H locs ls hP hz hS hl)
theorem ix_lxor (X : ix_X p s m args c K cc own nL) {x y : Int64} (hd : decode cc pc = .ok (.lxor, 1)) {pc1 : Nat} (hp : pc + 1 = pc1) (kk : ix_G p l e R s m args below meth c Q K nL k n pc1 L (.long (x ^^^ y) :: S) w) : ix_G p l e R s m args below meth c Q K nL k n pc L (.long y :: .long x :: S) w := by
  subst hp
  exact fun H locs ls hP hz hS hl => lv_lxor X.1 X.2.1 hd (kk H locs ls hP hz hS hl)
theorem ix_idiv (X : ix_X p s m args c K cc own nL) {x y : Int32} (hd : decode cc pc = .ok (.idiv, 1)) (hy : ¬ y = 0) {pc1 : Nat} (hp : pc + 1 = pc1) (kk : ix_G p l e R s m args below meth c Q K nL k n pc1 L (.int (x / y) :: S) w) : ix_G p l e R s m args below meth c Q K nL k n pc L (.int y :: .int x :: S) w := by
  subst hp
  exact fun H locs ls hP hz hS hl => lv_idiv X.1 X.2.1 hd hy (kk H locs ls hP hz hS hl)
theorem ix_irem (X : ix_X p s m args c K cc own nL) {x y : Int32} (hd : decode cc pc = .ok (.irem, 1)) (hy : ¬ y = 0) {pc1 : Nat} (hp : pc + 1 = pc1) (kk : ix_G p l e R s m args below meth c Q K nL k n pc1 L (.int (x - x / y * y) :: S) w) : ix_G p l e R s m args below meth c Q K nL k n pc L (.int y :: .int x :: S) w := by
  subst hp
  exact fun H locs ls hP hz hS hl => lv_irem X.1 X.2.1 hd hy (kk H locs ls hP hz hS hl)
theorem ix_ldiv (X : ix_X p s m args c K cc own nL) {x y : Int64} (hd : decode cc pc = .ok (.ldiv, 1)) (hy : ¬ y = 0) {pc1 : Nat} (hp : pc + 1 = pc1) (kk : ix_G p l e R s m args below meth c Q K nL k n pc1 L (.long (x / y) :: S) w) : ix_G p l e R s m args below meth c Q K nL k n pc L (.long y :: .long x :: S) w := by
  subst hp
  exact fun H locs ls hP hz hS hl => lv_ldiv X.1 X.2.1 hd hy (kk H locs ls hP hz hS hl)
theorem ix_ineg (X : ix_X p s m args c K cc own nL) {x : Int32} (hd : decode cc pc = .ok (.ineg, 1)) {pc1 : Nat} (hp : pc + 1 = pc1) (kk : ix_G p l e R s m args below meth c Q K nL k n pc1 L (.int (-x) :: S) w) : ix_G p l e R s m args below meth c Q K nL k n pc L (.int x :: S) w := by
  subst hp
  exact fun H locs ls hP hz hS hl => lv_ineg X.1 X.2.1 hd (kk H locs ls hP hz hS hl)
theorem ix_lneg (X : ix_X p s m args c K cc own nL) {x : Int64} (hd : decode cc pc = .ok (.lneg, 1)) {pc1 : Nat} (hp : pc + 1 = pc1) (kk : ix_G p l e R s m args below meth c Q K nL k n pc1 L (.long (-x) :: S) w) : ix_G p l e R s m args below meth c Q K nL k n pc L (.long x :: S) w := by
  subst hp
  exact fun H locs ls hP hz hS hl => lv_lneg X.1 X.2.1 hd (kk H locs ls hP hz hS hl)
theorem ix_i2l (X : ix_X p s m args c K cc own nL) {x : Int32} (hd : decode cc pc = .ok (.i2l, 1)) {pc1 : Nat} (hp : pc + 1 = pc1) (kk : ix_G p l e R s m args below meth c Q K nL k n pc1 L (.long x.toInt64 :: S) w) : ix_G p l e R s m args below meth c Q K nL k n pc L (.int x :: S) w := by
  subst hp
  exact fun H locs ls hP hz hS hl => lv_i2l X.1 X.2.1 hd rfl (kk H locs ls hP hz hS hl)
theorem ix_l2i (X : ix_X p s m args c K cc own nL) {x : Int64} (hd : decode cc pc = .ok (.l2i, 1)) {pc1 : Nat} (hp : pc + 1 = pc1) (kk : ix_G p l e R s m args below meth c Q K nL k n pc1 L (.int x.toInt32 :: S) w) : ix_G p l e R s m args below meth c Q K nL k n pc L (.long x :: S) w := by
  subst hp
  exact fun H locs ls hP hz hS hl => lv_l2i X.1 X.2.1 hd rfl (kk H locs ls hP hz hS hl)
theorem ix_i2b (X : ix_X p s m args c K cc own nL) {x : Int32} (hd : decode cc pc = .ok (.i2b, 1)) {pc1 : Nat} (hp : pc + 1 = pc1) (kk : ix_G p l e R s m args below meth c Q K nL k n pc1 L (.int x.toInt8.toInt32 :: S) w) : ix_G p l e R s m args below meth c Q K nL k n pc L (.int x :: S) w := by
  subst hp
  exact fun H locs ls hP hz hS hl => lv_i2b X.1 X.2.1 hd rfl (kk H locs ls hP hz hS hl)
theorem ix_i2c (X : ix_X p s m args c K cc own nL) {x : Int32} (hd : decode cc pc = .ok (.i2c, 1)) {pc1 : Nat} (hp : pc + 1 = pc1) (kk : ix_G p l e R s m args below meth c Q K nL k n pc1 L (.int (x.toUInt32 % 65536).toInt32 :: S) w) : ix_G p l e R s m args below meth c Q K nL k n pc L (.int x :: S) w := by
  subst hp
  exact fun H locs ls hP hz hS hl => lv_i2c X.1 X.2.1 hd rfl (kk H locs ls hP hz hS hl)
theorem ix_lshl (X : ix_X p s m args c K cc own nL) {x : Int64} {y : Int32} (hd : decode cc pc = .ok (.lshl, 1)) {pc1 : Nat} (hp : pc + 1 = pc1) (kk : ix_G p l e R s m args below meth c Q K nL k n pc1 L (.long (x <<< (y.toInt64 &&& 63)) :: S) w) : ix_G p l e R s m args below meth c Q K nL k n pc L (.int y :: .long x :: S) w := by
  subst hp
  exact fun H locs ls hP hz hS hl => lv_lshl X.1 X.2.1 hd rfl (kk H locs ls hP hz hS hl)
theorem ix_lshr (X : ix_X p s m args c K cc own nL) {x : Int64} {y : Int32} (hd : decode cc pc = .ok (.lshr, 1)) {pc1 : Nat} (hp : pc + 1 = pc1) (kk : ix_G p l e R s m args below meth c Q K nL k n pc1 L (.long (x >>> (y.toInt64 &&& 63)) :: S) w) : ix_G p l e R s m args below meth c Q K nL k n pc L (.int y :: .long x :: S) w := by
  subst hp
  exact fun H locs ls hP hz hS hl => lv_lshr X.1 X.2.1 hd rfl (kk H locs ls hP hz hS hl)
theorem ix_lushr (X : ix_X p s m args c K cc own nL) {x : Int64} {y : Int32} (hd : decode cc pc = .ok (.lushr, 1)) {pc1 : Nat} (hp : pc + 1 = pc1) (kk : ix_G p l e R s m args below meth c Q K nL k n pc1 L (.long (x.toUInt64 >>> (y.toInt64.toUInt64 &&& Int64.toUInt64 63)).toInt64 :: S) w) : ix_G p l e R s m args below meth c Q K nL k n pc L (.int y :: .long x :: S) w := by
  subst hp
  exact fun H locs ls hP hz hS hl => lv_lushr X.1 X.2.1 hd rfl (kk H locs ls hP hz hS hl)
theorem ix_iushr (X : ix_X p s m args c K cc own nL) {x y : Int32} (hd : decode cc pc = .ok (.iushr, 1)) {pc1 : Nat} (hp : pc + 1 = pc1) (kk : ix_G p l e R s m args below meth c Q K nL k n pc1 L (.int (x.toUInt32 >>> (y.toUInt32 &&& Int32.toUInt32 31)).toInt32 :: S) w) : ix_G p l e R s m args below meth c Q K nL k n pc L (.int y :: .int x :: S) w := by
  subst hp
  exact fun H locs ls hP hz hS hl => lv_iushr X.1 X.2.1 hd rfl (kk H locs ls hP hz hS hl)
theorem ix_lcmp (X : ix_X p s m args c K cc own nL) {x y : Int64} (hd : decode cc pc = .ok (.lcmp, 1)) {pc1 : Nat} (hp : pc + 1 = pc1) (kk : ix_G p l e R s m args below meth c Q K nL k n pc1 L (.int (lg_cmp x y) :: S) w) : ix_G p l e R s m args below meth c Q K nL k n pc L (.long y :: .long x :: S) w := by
  subst hp
  exact fun H locs ls hP hz hS hl => W.lcmp X.1 X.2.1 hd (kk H locs ls hP hz hS hl)
theorem ix_dup (X : ix_X p s m args c K cc own nL) {v : Value} (hd : decode cc pc = .ok (.dup, 1)) (hv : v.category = 1) {pc1 : Nat} (hp : pc + 1 = pc1) (kk : ix_G p l e R s m args below meth c Q K nL k n pc1 L (v :: v :: S) w) : ix_G p l e R s m args below meth c Q K nL k n pc L (v :: S) w := by
  subst hp
  exact fun H locs ls hP hz hS hl => lv_dup X.1 X.2.1 hd hv (kk H locs ls hP hz hS hl)
theorem ix_pop (X : ix_X p s m args c K cc own nL) {v : Value} (hd : decode cc pc = .ok (.pop, 1)) (hv : v.category = 1) {pc1 : Nat} (hp : pc + 1 = pc1) (kk : ix_G p l e R s m args below meth c Q K nL k n pc1 L (S) w) : ix_G p l e R s m args below meth c Q K nL k n pc L (v :: S) w := by
  subst hp
  exact fun H locs ls hP hz hS hl => lv_pop X.1 X.2.1 hd hv (kk H locs ls hP hz hS hl)
theorem ix_dup2 (X : ix_X p s m args c K cc own nL) {u v : Value} (hd : decode cc pc = .ok (.dup2, 1)) (hu : u.category = 1) (hv : v.category = 1) {pc1 : Nat} (hp : pc + 1 = pc1) (kk : ix_G p l e R s m args below meth c Q K nL k n pc1 L (u :: v :: u :: v :: S) w) : ix_G p l e R s m args below meth c Q K nL k n pc L (u :: v :: S) w := by
  subst hp
  exact fun H locs ls hP hz hS hl => lv_dup2_11 X.1 X.2.1 hd hu hv (kk H locs ls hP hz hS hl)
theorem ix_null (X : ix_X p s m args c K cc own nL) (hd : decode cc pc = .ok (.aconst_null, 1)) {pc1 : Nat} (hp : pc + 1 = pc1) (kk : ix_G p l e R s m args below meth c Q K nL k n pc1 L (.null :: S) w) : ix_G p l e R s m args below meth c Q K nL k n pc L (S) w := by
  subst hp
  exact fun H locs ls hP hz hS hl => lv_null X.1 X.2.1 hd (kk H locs ls hP hz hS hl)
theorem ix_ldc (X : ix_X p s m args c K cc own nL) {i pl : Nat} {v : Int32} (hd : decode cc pc = .ok (.ldc i, 2)) (hw : tables_1[pl]? = some (Cond.constant own i v)) {pc1 : Nat} (hp : pc + 2 = pc1) (kk : ix_G p l e R s m args below meth c Q K nL k n pc1 L (.int v :: S) w) : ix_G p l e R s m args below meth c Q K nL k n pc L S w := by
  subst hp
  exact fun H locs ls hP hz hS hl => lv_ldc X.1 X.2.1 X.2.2.2.1 (X.2.2.2.2.1 _ (ix_tbm (ix_wm hw) rfl)) hd (kk H locs ls hP hz hS hl)
theorem ix_ldcw (X : ix_X p s m args c K cc own nL) {i pl : Nat} {v : Int32} (hd : decode cc pc = .ok (.ldc_w i, 3)) (hw : tables_1[pl]? = some (Cond.constant own i v)) {pc1 : Nat} (hp : pc + 3 = pc1) (kk : ix_G p l e R s m args below meth c Q K nL k n pc1 L (.int v :: S) w) : ix_G p l e R s m args below meth c Q K nL k n pc L S w := by
  subst hp
  exact fun H locs ls hP hz hS hl => lv_ldcw X.1 X.2.1 X.2.2.2.1 (X.2.2.2.2.1 _ (ix_tbm (ix_wm hw) rfl)) hd (kk H locs ls hP hz hS hl)
theorem ix_ldc2 (X : ix_X p s m args c K cc own nL) {i pl : Nat} {v : Int64} (hd : decode cc pc = .ok (.ldc2_w i, 3)) (hw : tables_1[pl]? = some (Cond.constantLong own i v)) {pc1 : Nat} (hp : pc + 3 = pc1) (kk : ix_G p l e R s m args below meth c Q K nL k n pc1 L (.long v :: S) w) : ix_G p l e R s m args below meth c Q K nL k n pc L S w := by
  subst hp
  exact fun H locs ls hP hz hS hl => lv_ldc2 X.1 X.2.1 X.2.2.2.1 (X.2.2.2.2.1 _ (ix_tbm (ix_wm hw) rfl)) hd (kk H locs ls hP hz hS hl)
theorem ix_if_eq (X : ix_X p s m args c K cc own nL) {x : Int32} {off : Int} {tgt : Nat} (hd : decode cc pc = .ok (.ifCond .eq off, 3)) (ht : (pc : Int) + off = (tgt : Int)) {pc1 : Nat} (hp : pc + 3 = pc1) (kt : x = 0 → ix_G p l e R s m args below meth c Q K nL k n tgt L S w) (kf : ¬ x = 0 → ix_G p l e R s m args below meth c Q K nL k n pc1 L S w) : ix_G p l e R s m args below meth c Q K nL k n pc L (.int x :: S) w := by
  subst hp
  exact fun H locs ls hP hz hS hl => lv_if_eq X.1 X.2.1 hd ht (fun h => kt h H locs ls hP hz hS hl) (fun h => kf h H locs ls hP hz hS hl)
theorem ix_if_ne (X : ix_X p s m args c K cc own nL) {x : Int32} {off : Int} {tgt : Nat} (hd : decode cc pc = .ok (.ifCond .ne off, 3)) (ht : (pc : Int) + off = (tgt : Int)) {pc1 : Nat} (hp : pc + 3 = pc1) (kt : ¬ x = 0 → ix_G p l e R s m args below meth c Q K nL k n tgt L S w) (kf : x = 0 → ix_G p l e R s m args below meth c Q K nL k n pc1 L S w) : ix_G p l e R s m args below meth c Q K nL k n pc L (.int x :: S) w := by
  subst hp
  exact fun H locs ls hP hz hS hl => lv_if_ne X.1 X.2.1 hd ht (fun h => kt h H locs ls hP hz hS hl) (fun h => kf h H locs ls hP hz hS hl)
theorem ix_if_lt (X : ix_X p s m args c K cc own nL) {x : Int32} {off : Int} {tgt : Nat} (hd : decode cc pc = .ok (.ifCond .lt off, 3)) (ht : (pc : Int) + off = (tgt : Int)) {pc1 : Nat} (hp : pc + 3 = pc1) (kt : x < 0 → ix_G p l e R s m args below meth c Q K nL k n tgt L S w) (kf : ¬ x < 0 → ix_G p l e R s m args below meth c Q K nL k n pc1 L S w) : ix_G p l e R s m args below meth c Q K nL k n pc L (.int x :: S) w := by
  subst hp
  exact fun H locs ls hP hz hS hl => lv_if_lt X.1 X.2.1 hd ht (fun h => kt h H locs ls hP hz hS hl) (fun h => kf h H locs ls hP hz hS hl)
theorem ix_if_ge (X : ix_X p s m args c K cc own nL) {x : Int32} {off : Int} {tgt : Nat} (hd : decode cc pc = .ok (.ifCond .ge off, 3)) (ht : (pc : Int) + off = (tgt : Int)) {pc1 : Nat} (hp : pc + 3 = pc1) (kt : 0 ≤ x → ix_G p l e R s m args below meth c Q K nL k n tgt L S w) (kf : ¬ 0 ≤ x → ix_G p l e R s m args below meth c Q K nL k n pc1 L S w) : ix_G p l e R s m args below meth c Q K nL k n pc L (.int x :: S) w := by
  subst hp
  exact fun H locs ls hP hz hS hl => lv_if_ge X.1 X.2.1 hd ht (fun h => kt h H locs ls hP hz hS hl) (fun h => kf h H locs ls hP hz hS hl)
theorem ix_if_gt (X : ix_X p s m args c K cc own nL) {x : Int32} {off : Int} {tgt : Nat} (hd : decode cc pc = .ok (.ifCond .gt off, 3)) (ht : (pc : Int) + off = (tgt : Int)) {pc1 : Nat} (hp : pc + 3 = pc1) (kt : 0 < x → ix_G p l e R s m args below meth c Q K nL k n tgt L S w) (kf : ¬ 0 < x → ix_G p l e R s m args below meth c Q K nL k n pc1 L S w) : ix_G p l e R s m args below meth c Q K nL k n pc L (.int x :: S) w := by
  subst hp
  exact fun H locs ls hP hz hS hl => lv_if_gt X.1 X.2.1 hd ht (fun h => kt h H locs ls hP hz hS hl) (fun h => kf h H locs ls hP hz hS hl)
theorem ix_if_le (X : ix_X p s m args c K cc own nL) {x : Int32} {off : Int} {tgt : Nat} (hd : decode cc pc = .ok (.ifCond .le off, 3)) (ht : (pc : Int) + off = (tgt : Int)) {pc1 : Nat} (hp : pc + 3 = pc1) (kt : x ≤ 0 → ix_G p l e R s m args below meth c Q K nL k n tgt L S w) (kf : ¬ x ≤ 0 → ix_G p l e R s m args below meth c Q K nL k n pc1 L S w) : ix_G p l e R s m args below meth c Q K nL k n pc L (.int x :: S) w := by
  subst hp
  exact fun H locs ls hP hz hS hl => lv_if_le X.1 X.2.1 hd ht (fun h => kt h H locs ls hP hz hS hl) (fun h => kf h H locs ls hP hz hS hl)
theorem ix_icmp_eq (X : ix_X p s m args c K cc own nL) {x y : Int32} {off : Int} {tgt : Nat} (hd : decode cc pc = .ok (.if_icmp .eq off, 3)) (ht : (pc : Int) + off = (tgt : Int)) {pc1 : Nat} (hp : pc + 3 = pc1) (kt : x = y → ix_G p l e R s m args below meth c Q K nL k n tgt L S w) (kf : ¬ x = y → ix_G p l e R s m args below meth c Q K nL k n pc1 L S w) : ix_G p l e R s m args below meth c Q K nL k n pc L (.int y :: .int x :: S) w := by
  subst hp
  exact fun H locs ls hP hz hS hl => lv_icmp_eq X.1 X.2.1 hd ht (fun h => kt h H locs ls hP hz hS hl) (fun h => kf h H locs ls hP hz hS hl)
theorem ix_icmp_ne (X : ix_X p s m args c K cc own nL) {x y : Int32} {off : Int} {tgt : Nat} (hd : decode cc pc = .ok (.if_icmp .ne off, 3)) (ht : (pc : Int) + off = (tgt : Int)) {pc1 : Nat} (hp : pc + 3 = pc1) (kt : ¬ x = y → ix_G p l e R s m args below meth c Q K nL k n tgt L S w) (kf : x = y → ix_G p l e R s m args below meth c Q K nL k n pc1 L S w) : ix_G p l e R s m args below meth c Q K nL k n pc L (.int y :: .int x :: S) w := by
  subst hp
  exact fun H locs ls hP hz hS hl => lv_icmp_ne X.1 X.2.1 hd ht (fun h => kt h H locs ls hP hz hS hl) (fun h => kf h H locs ls hP hz hS hl)
theorem ix_icmp_lt (X : ix_X p s m args c K cc own nL) {x y : Int32} {off : Int} {tgt : Nat} (hd : decode cc pc = .ok (.if_icmp .lt off, 3)) (ht : (pc : Int) + off = (tgt : Int)) {pc1 : Nat} (hp : pc + 3 = pc1) (kt : x < y → ix_G p l e R s m args below meth c Q K nL k n tgt L S w) (kf : ¬ x < y → ix_G p l e R s m args below meth c Q K nL k n pc1 L S w) : ix_G p l e R s m args below meth c Q K nL k n pc L (.int y :: .int x :: S) w := by
  subst hp
  exact fun H locs ls hP hz hS hl => lv_icmp_lt X.1 X.2.1 hd ht (fun h => kt h H locs ls hP hz hS hl) (fun h => kf h H locs ls hP hz hS hl)
theorem ix_icmp_ge (X : ix_X p s m args c K cc own nL) {x y : Int32} {off : Int} {tgt : Nat} (hd : decode cc pc = .ok (.if_icmp .ge off, 3)) (ht : (pc : Int) + off = (tgt : Int)) {pc1 : Nat} (hp : pc + 3 = pc1) (kt : y ≤ x → ix_G p l e R s m args below meth c Q K nL k n tgt L S w) (kf : ¬ y ≤ x → ix_G p l e R s m args below meth c Q K nL k n pc1 L S w) : ix_G p l e R s m args below meth c Q K nL k n pc L (.int y :: .int x :: S) w := by
  subst hp
  exact fun H locs ls hP hz hS hl => lv_icmp_ge X.1 X.2.1 hd ht (fun h => kt h H locs ls hP hz hS hl) (fun h => kf h H locs ls hP hz hS hl)
theorem ix_icmp_gt (X : ix_X p s m args c K cc own nL) {x y : Int32} {off : Int} {tgt : Nat} (hd : decode cc pc = .ok (.if_icmp .gt off, 3)) (ht : (pc : Int) + off = (tgt : Int)) {pc1 : Nat} (hp : pc + 3 = pc1) (kt : y < x → ix_G p l e R s m args below meth c Q K nL k n tgt L S w) (kf : ¬ y < x → ix_G p l e R s m args below meth c Q K nL k n pc1 L S w) : ix_G p l e R s m args below meth c Q K nL k n pc L (.int y :: .int x :: S) w := by
  subst hp
  exact fun H locs ls hP hz hS hl => lv_icmp_gt X.1 X.2.1 hd ht (fun h => kt h H locs ls hP hz hS hl) (fun h => kf h H locs ls hP hz hS hl)
theorem ix_icmp_le (X : ix_X p s m args c K cc own nL) {x y : Int32} {off : Int} {tgt : Nat} (hd : decode cc pc = .ok (.if_icmp .le off, 3)) (ht : (pc : Int) + off = (tgt : Int)) {pc1 : Nat} (hp : pc + 3 = pc1) (kt : x ≤ y → ix_G p l e R s m args below meth c Q K nL k n tgt L S w) (kf : ¬ x ≤ y → ix_G p l e R s m args below meth c Q K nL k n pc1 L S w) : ix_G p l e R s m args below meth c Q K nL k n pc L (.int y :: .int x :: S) w := by
  subst hp
  exact fun H locs ls hP hz hS hl => lv_icmp_le X.1 X.2.1 hd ht (fun h => kt h H locs ls hP hz hS hl) (fun h => kf h H locs ls hP hz hS hl)
theorem ix_goto (X : ix_X p s m args c K cc own nL) {off : Int} {tgt : Nat} (hd : decode cc pc = .ok (.goto off, 3)) (ht : (pc : Int) + off = (tgt : Int)) (kk : ix_G p l e R s m args below meth c Q K nL k n tgt L S w) : ix_G p l e R s m args below meth c Q K nL k n pc L S w :=
  fun H locs ls hP hz hS hl => lv_goto X.1 X.2.1 hd ht (kk H locs ls hP hz hS hl)
theorem ix_swin (X : ix_X p s m args c K cc own nL) {dflt lo hi off : Int} {offs : Array Int} {len tgt : Nat} {x : Int32} (hd : decode cc pc = .ok (.tableswitch dflt lo hi offs, len)) (h1 : ¬ x.toInt < lo) (h2 : ¬ hi < x.toInt) (ho : offs[(x.toInt - lo).toNat]? = some off) (ht : (pc : Int) + off = (tgt : Int)) (kk : ix_G p l e R s m args below meth c Q K nL k n tgt L S w) : ix_G p l e R s m args below meth c Q K nL k n pc L (.int x :: S) w :=
  fun H locs ls hP hz hS hl => lv_tableIn X.1 X.2.1 hd h1 h2 ho ht (kk H locs ls hP hz hS hl)
theorem ix_swout (X : ix_X p s m args c K cc own nL) {dflt lo hi : Int} {offs : Array Int} {len tgt : Nat} {x : Int32} (hd : decode cc pc = .ok (.tableswitch dflt lo hi offs, len)) (h : x.toInt < lo ∨ hi < x.toInt) (ht : (pc : Int) + dflt = (tgt : Int)) (kk : ix_G p l e R s m args below meth c Q K nL k n tgt L S w) : ix_G p l e R s m args below meth c Q K nL k n pc L (.int x :: S) w :=
  fun H locs ls hP hz hS hl => lv_tableOut X.1 X.2.1 hd h ht (kk H locs ls hP hz hS hl)
theorem ix_ifnull (X : ix_X p s m args c K cc own nL) {x : Nat} {off : Int} (hd : decode cc pc = .ok (.ifnull off, 3)) {pc1 : Nat} (hp : pc + 3 = pc1) (kk : ix_G p l e R s m args below meth c Q K nL k n pc1 L S w) : ix_G p l e R s m args below meth c Q K nL k n pc L (.ref x :: S) w := by
  subst hp
  exact fun H locs ls hP hz hS hl => lv_ifnull X.1 X.2.1 hd (kk H locs ls hP hz hS hl)
theorem ix_ifnullN (X : ix_X p s m args c K cc own nL) {off : Int} {tgt : Nat} (hd : decode cc pc = .ok (.ifnull off, 3)) (ht : (pc : Int) + off = (tgt : Int)) (kk : ix_G p l e R s m args below meth c Q K nL k n tgt L S w) : ix_G p l e R s m args below meth c Q K nL k n pc L (.null :: S) w :=
  fun H locs ls hP hz hS hl => lv_ifnullN X.1 X.2.1 hd ht (kk H locs ls hP hz hS hl)
theorem ix_ifnonnull (X : ix_X p s m args c K cc own nL) {x : Nat} {off : Int} {tgt : Nat} (hd : decode cc pc = .ok (.ifnonnull off, 3)) (ht : (pc : Int) + off = (tgt : Int)) (kk : ix_G p l e R s m args below meth c Q K nL k n tgt L S w) : ix_G p l e R s m args below meth c Q K nL k n pc L (.ref x :: S) w :=
  fun H locs ls hP hz hS hl => lv_ifnonnull X.1 X.2.1 hd ht (kk H locs ls hP hz hS hl)
theorem ix_ifnonnullN (X : ix_X p s m args c K cc own nL) {off : Int} (hd : decode cc pc = .ok (.ifnonnull off, 3)) {pc1 : Nat} (hp : pc + 3 = pc1) (kk : ix_G p l e R s m args below meth c Q K nL k n pc1 L S w) : ix_G p l e R s m args below meth c Q K nL k n pc L (.null :: S) w := by
  subst hp
  exact fun H locs ls hP hz hS hl => lv_ifnonnullN X.1 X.2.1 hd (kk H locs ls hP hz hS hl)
theorem ix_aI {a t : Nat} (ha : a < ix_N w) (ht : (ix_T w a).1 = t) (h1 : 20 ≤ t) (h2 : t < 23) : (ix_ws K w)[a]? = some (K.2.2.1 + a, .inl (K.2.1 (t - 20), ((ix_T w a).2, .inl (w.1 a)))) := by
  rw [ix_at ha, ix_ei (t := t) (n := (ix_T w a).2) (by rw [← ht]) h1]
  simp only [ix_c]
  rw [if_neg (by omega), if_pos h2]
theorem ix_aJ {a : Nat} (ha : a < ix_N w) (ht : (ix_T w a).1 = 23) : (ix_ws K w)[a]? = some (K.2.2.1 + a, .inl (K.2.1 3, ((ix_T w a).2, .inr (.inl (w.2.1 a))))) := by
  rw [ix_at ha, ix_ei (t := 23) (n := (ix_T w a).2) (by rw [← ht]) (by decide)]
  rfl
theorem ix_aR {a t : Nat} (ha : a < ix_N w) (ht : (ix_T w a).1 = t) (h1 : 24 ≤ t) : (ix_ws K w)[a]? = some (K.2.2.1 + a, .inl (K.2.1 (t - 20), ((ix_T w a).2, .inr (.inr (.inr (.inr (fun i => (w.2.2.1 a i).map (fun a => K.2.2.1 + a)))))))) := by
  rw [ix_at ha, ix_ei (t := t) (n := (ix_T w a).2) (by rw [← ht]) (by omega)]
  simp only [ix_c]
  rw [if_neg (by omega), if_neg (by omega)]
theorem ix_iald (X : ix_X p s m args c K cc own nL) {a : Nat} {i : Int32} (ha : a < ix_N w) (ht : (ix_T w a).1 = 20) (hi : vp_in i (ix_T w a).2) (hd : decode cc pc = .ok (.iaload, 1)) {pc1 : Nat} (hp : pc + 1 = pc1) (kk : ix_G p l e R s m args below meth c Q K nL k n pc1 L (.int (w.1 a i.toNatClampNeg) :: S) w) : ix_G p l e R s m args below meth c Q K nL k n pc L (.int i :: .ref (K.2.2.1 + a) :: S) w := by
  subst hp
  exact fun H locs ls hP hz hS hl => va_iald X.1 X.2.1 X.2.2.2.2.2.1.1 hP a 0 (ix_aI ha ht (by decide) (by decide)) rfl hi hd (kk H locs ls hP hz hS hl)
theorem ix_bald (X : ix_X p s m args c K cc own nL) {a : Nat} {i : Int32} (ha : a < ix_N w) (ht : (ix_T w a).1 = 21) (hi : vp_in i (ix_T w a).2) (hd : decode cc pc = .ok (.baload, 1)) {pc1 : Nat} (hp : pc + 1 = pc1) (kk : ix_G p l e R s m args below meth c Q K nL k n pc1 L (.int (w.1 a i.toNatClampNeg) :: S) w) : ix_G p l e R s m args below meth c Q K nL k n pc L (.int i :: .ref (K.2.2.1 + a) :: S) w := by
  subst hp
  exact fun H locs ls hP hz hS hl => va_bald X.1 X.2.1 X.2.2.2.2.2.1.1 hP a 1 (ix_aI ha ht (by decide) (by decide)) rfl hi hd (kk H locs ls hP hz hS hl)
theorem ix_zald (X : ix_X p s m args c K cc own nL) {a : Nat} {i : Int32} (ha : a < ix_N w) (ht : (ix_T w a).1 = 22) (hi : vp_in i (ix_T w a).2) (hd : decode cc pc = .ok (.baload, 1)) {pc1 : Nat} (hp : pc + 1 = pc1) (kk : ix_G p l e R s m args below meth c Q K nL k n pc1 L (.int (w.1 a i.toNatClampNeg) :: S) w) : ix_G p l e R s m args below meth c Q K nL k n pc L (.int i :: .ref (K.2.2.1 + a) :: S) w := by
  subst hp
  exact fun H locs ls hP hz hS hl => va_zald X.1 X.2.1 X.2.2.2.2.2.1.1 hP a 2 (ix_aI ha ht (by decide) (by decide)) rfl hi hd (kk H locs ls hP hz hS hl)
theorem ix_lald (X : ix_X p s m args c K cc own nL) {a : Nat} {i : Int32} (ha : a < ix_N w) (ht : (ix_T w a).1 = 23) (hi : vp_in i (ix_T w a).2) (hd : decode cc pc = .ok (.laload, 1)) {pc1 : Nat} (hp : pc + 1 = pc1) (kk : ix_G p l e R s m args below meth c Q K nL k n pc1 L (.long (w.2.1 a i.toNatClampNeg) :: S) w) : ix_G p l e R s m args below meth c Q K nL k n pc L (.int i :: .ref (K.2.2.1 + a) :: S) w := by
  subst hp
  exact fun H locs ls hP hz hS hl => va_lald X.1 X.2.1 X.2.2.2.2.2.1.1 hP a 3 (ix_aJ ha ht) rfl hi hd (kk H locs ls hP hz hS hl)
theorem ix_iset {a t j : Nat} {x : Int32} (ha : a < ix_N w) (ht : (ix_T w a).1 = t) (h1 : 20 ≤ t) (h2 : t < 23) : (ix_ws K w).set a (K.2.2.1 + a, .inl (K.2.1 (t - 20), ((ix_T w a).2, .inl (upd (w.1 a) j x)))) = ix_ws K (ix_sI w a j x) := by
  have hE : ∀ b, b ≠ a → ix_e K (ix_sI w a j x) b = ix_e K w b := fun b hb => ix_e_congr (ix_up_ne hb) rfl rfl rfl
  rw [← ix_set (w' := ix_sI w a j x) ha rfl hE, ix_ei (w := ix_sI w a j x) (t := t) (n := (ix_T w a).2) (by rw [← ht]; rfl) h1]
  simp only [ix_c]
  rw [if_neg (by omega), if_pos h2]
  congr 6
  funext j'
  by_cases h : j' = j
  · subst h
    simp [upd, ix_sI, ix_up]
  · simp [upd, ix_sI, ix_up, h]
theorem ix_jset {a j : Nat} {x : Int64} (ha : a < ix_N w) (ht : (ix_T w a).1 = 23) : (ix_ws K w).set a (K.2.2.1 + a, .inl (K.2.1 3, ((ix_T w a).2, .inr (.inl (vp_updL (w.2.1 a) j x))))) = ix_ws K (ix_sJ w a j x) := by
  have hE : ∀ b, b ≠ a → ix_e K (ix_sJ w a j x) b = ix_e K w b := fun b hb => ix_e_congr rfl (ix_up_ne hb) rfl rfl
  rw [← ix_set (w' := ix_sJ w a j x) ha rfl hE, ix_ei (w := ix_sJ w a j x) (t := 23) (n := (ix_T w a).2) (by rw [← ht]; rfl) (by decide)]
  have h2 : vp_updL (w.2.1 a) j x = (ix_sJ w a j x).2.1 a := by
    funext j'
    by_cases h : j' = j
    · subst h
      simp [vp_updL, ix_sJ, ix_up]
    · simp [vp_updL, ix_sJ, ix_up, h]
  rw [h2]
  rfl
theorem ix_iast (X : ix_X p s m args c K cc own nL) {a : Nat} {i x : Int32} {w1 : ix_W} (ha : a < ix_N w) (ht : (ix_T w a).1 = 20) (hi : vp_in i (ix_T w a).2) (hd : decode cc pc = .ok (.iastore, 1)) (hw : ix_sI w a i.toNatClampNeg (x) = w1) {pc1 : Nat} (hp : pc + 1 = pc1) (kk : ix_G p l e R s m args below meth c Q K nL k n pc1 L S w1) : ix_G p l e R s m args below meth c Q K nL k n pc L (.int x :: .int i :: .ref (K.2.2.1 + a) :: S) w := by
  subst hp
  subst hw
  intro H locs ls hP hz hS hl
  have hA := ix_aI (K := K) ha ht (by decide) (by decide)
  refine W.iast X.1 X.2.1 (hP a _ hA) ((X.2.2.2.2.2.1.1.2 0 _ rfl).1 _ (fun j => .int (w.1 a j))) (fun q => by cases q) (by show ¬ (i < 0 ∨ (arrV _ _ _).slots.size ≤ _); rw [arrV_size]; exact hi) rfl rfl hd fun H1 e1 z oq => ?_
  refine kk H1 _ ls ?_ (z.trans hz) (hS.put z oq (Nat.le_add_right _ _)) hl
  rw [← ix_iset ha ht (by decide) (by decide)]
  refine hP.set ix_D hA ?_ oq
  show H1[K.2.2.1 + a]? = some (vp_cell _ _)
  rw [e1, vp_cell_i, vp_cell_i, arrV_store]
  congr 2
  funext q
  by_cases hq : q = i.toNatClampNeg
  · subst hq
    simp [updV, upd, vp_nar, narrow]
  · simp [updV, upd, hq]
theorem ix_bast (X : ix_X p s m args c K cc own nL) {a : Nat} {i x : Int32} {w1 : ix_W} (ha : a < ix_N w) (ht : (ix_T w a).1 = 21) (hi : vp_in i (ix_T w a).2) (hd : decode cc pc = .ok (.bastore, 1)) (hw : ix_sI w a i.toNatClampNeg (vp_nar .byte x) = w1) {pc1 : Nat} (hp : pc + 1 = pc1) (kk : ix_G p l e R s m args below meth c Q K nL k n pc1 L S w1) : ix_G p l e R s m args below meth c Q K nL k n pc L (.int x :: .int i :: .ref (K.2.2.1 + a) :: S) w := by
  subst hp
  subst hw
  intro H locs ls hP hz hS hl
  have hA := ix_aI (K := K) ha ht (by decide) (by decide)
  refine W.bast X.1 X.2.1 (hP a _ hA) ((X.2.2.2.2.2.1.1.2 1 _ rfl).1 _ (fun j => .int (w.1 a j))) (fun q => by cases q) (by show ¬ (i < 0 ∨ (arrV _ _ _).slots.size ≤ _); rw [arrV_size]; exact hi) rfl rfl hd fun H1 e1 z oq => ?_
  refine kk H1 _ ls ?_ (z.trans hz) (hS.put z oq (Nat.le_add_right _ _)) hl
  rw [← ix_iset ha ht (by decide) (by decide)]
  refine hP.set ix_D hA ?_ oq
  show H1[K.2.2.1 + a]? = some (vp_cell _ _)
  rw [e1, vp_cell_i, vp_cell_i, arrV_store]
  congr 2
  funext q
  by_cases hq : q = i.toNatClampNeg
  · subst hq
    simp [updV, upd, vp_nar, narrow]
  · simp [updV, upd, hq]
theorem ix_zast (X : ix_X p s m args c K cc own nL) {a : Nat} {i x : Int32} {w1 : ix_W} (ha : a < ix_N w) (ht : (ix_T w a).1 = 22) (hi : vp_in i (ix_T w a).2) (hd : decode cc pc = .ok (.bastore, 1)) (hw : ix_sI w a i.toNatClampNeg (vp_nar .boolean x) = w1) {pc1 : Nat} (hp : pc + 1 = pc1) (kk : ix_G p l e R s m args below meth c Q K nL k n pc1 L S w1) : ix_G p l e R s m args below meth c Q K nL k n pc L (.int x :: .int i :: .ref (K.2.2.1 + a) :: S) w := by
  subst hp
  subst hw
  intro H locs ls hP hz hS hl
  have hA := ix_aI (K := K) ha ht (by decide) (by decide)
  refine W.zast X.1 X.2.1 (hP a _ hA) ((X.2.2.2.2.2.1.1.2 2 _ rfl).1 _ (fun j => .int (w.1 a j))) (fun q => by cases q) (by show ¬ (i < 0 ∨ (arrV _ _ _).slots.size ≤ _); rw [arrV_size]; exact hi) rfl rfl hd fun H1 e1 z oq => ?_
  refine kk H1 _ ls ?_ (z.trans hz) (hS.put z oq (Nat.le_add_right _ _)) hl
  rw [← ix_iset ha ht (by decide) (by decide)]
  refine hP.set ix_D hA ?_ oq
  show H1[K.2.2.1 + a]? = some (vp_cell _ _)
  rw [e1, vp_cell_i, vp_cell_i, arrV_store]
  congr 2
  funext q
  by_cases hq : q = i.toNatClampNeg
  · subst hq
    simp [updV, upd, vp_nar, narrow]
  · simp [updV, upd, hq]
theorem ix_last (X : ix_X p s m args c K cc own nL) {a : Nat} {i : Int32} {x : Int64} {w1 : ix_W} (ha : a < ix_N w) (ht : (ix_T w a).1 = 23) (hi : vp_in i (ix_T w a).2) (hd : decode cc pc = .ok (.lastore, 1)) (hw : ix_sJ w a i.toNatClampNeg x = w1) {pc1 : Nat} (hp : pc + 1 = pc1) (kk : ix_G p l e R s m args below meth c Q K nL k n pc1 L S w1) : ix_G p l e R s m args below meth c Q K nL k n pc L (.long x :: .int i :: .ref (K.2.2.1 + a) :: S) w := by
  subst hp
  subst hw
  intro H locs ls hP hz hS hl
  have hA := ix_aJ (K := K) ha ht
  refine W.last X.1 X.2.1 (hP a _ hA) ((X.2.2.2.2.2.1.1.2 3 _ rfl).1 _ (fun j => .long (w.2.1 a j))) (fun q => by cases q) (by show ¬ (i < 0 ∨ (arrV _ _ _).slots.size ≤ _); rw [arrV_size]; exact hi) rfl rfl hd fun H1 e1 z oq => ?_
  refine kk H1 _ ls ?_ (z.trans hz) (hS.put z oq (Nat.le_add_right _ _)) hl
  rw [← ix_jset ha ht]
  refine hP.set ix_D hA ?_ oq
  show H1[K.2.2.1 + a]? = some (vp_cell _ _)
  rw [e1, vp_cell_l, vp_cell_l, arrV_store]
  congr 2
  funext q
  by_cases hq : q = i.toNatClampNeg
  · subst hq
    simp [updV, vp_updL]
  · simp [updV, vp_updL, hq]
theorem ix_alen (X : ix_X p s m args c K cc own nL) {a t n0 : Nat} (ha : a < ix_N w) (ht : ix_T w a = (t, n0)) (h1 : 20 ≤ t) (h2 : t < 26) (hd : decode cc pc = .ok (.arraylength, 1)) {pc1 : Nat} (hp : pc + 1 = pc1) (kk : ix_G p l e R s m args below meth c Q K nL k n pc1 L (.int (nI n0) :: S) w) : ix_G p l e R s m args below meth c Q K nL k n pc L (.ref (K.2.2.1 + a) :: S) w := by
  subst hp
  intro H locs ls hP hz hS hl
  have hh : (ix_tys K)[t - 20]? = some (K.2.1 (t - 20), ((ix_tys K).getD (t - 20) (0, .int)).2) := by
    rcases (show t = 20 ∨ t = 21 ∨ t = 22 ∨ t = 23 ∨ t = 24 ∨ t = 25 by omega) with rfl | rfl | rfl | rfl | rfl | rfl <;> rfl
  refine va_alen X.1 X.2.1 X.2.2.2.2.2.1.1 hP a (t - 20) (by rw [ix_at ha, ix_ei ht h1]) hh (v := nI n0) rfl hd (kk H locs ls hP hz hS hl)
/-- which words a putfield needs: as ix_flb, with the descriptor d and whether the field is final -/
def ix_fpb (pl ps : Nat) (nest : Bool) (own : String) (idx : Nat) (ref : String) (cs : List Nat) (k : Nat) (d : String) (fin : Bool) : Bool := ix_flb pl ps nest own idx ref cs k (ix_ft d) && cs.all (fun ci => match ix_cl[ci]? with
  | none => false
  | some r => decide ((r.2.1 k).2.2.1 = d) && decide ((r.2.1 k).2.2.2 = fin) && (!fin || decide ((r.2.1 k).1 = own)))
theorem ix_fpb_spec {pl ps : Nat} {nest : Bool} {own : String} {idx : Nat} {ref : String} {cs : List Nat} {k ci : Nat} {d : String} {fin : Bool} (h : ix_fpb pl ps nest own idx ref cs k d fin = true) (hc : ci ∈ cs) : ci < 20 ∧ ∃ r, ix_cl[ci]? = some r ∧ k < r.2.2 ∧ (r.2.1 k).2.2.1 = d ∧ (nest = false → Cond.fieldLink own idx ref (r.2.1 k).2.1 (r.2.1 k).2.2.1 ∈ lw_tbl) ∧ (nest = true → Cond.fieldLinkNest own idx ref (r.2.1 k).2.1 (r.2.1 k).2.2.1 "ClauseCourt" ∈ lw_tbl) ∧ (ref = (r.2.1 k).1 ∨ Cond.sameField ref (r.2.1 k).1 (r.2.1 k).2.1 (r.2.1 k).2.2.1 ∈ lw_tbl) ∧ (r.2.1 k).2.2.2 = fin ∧ (fin = true → (r.2.1 k).1 = own) := by
  unfold ix_fpb at h
  rw [Bool.and_eq_true] at h
  obtain ⟨h1, r, hr, h2, h3, h4, h5, h6⟩ := ix_flb_spec h.1 hc
  have h7 := List.all_eq_true.mp h.2 ci hc
  rw [hr] at h7
  simp only [Bool.and_eq_true, Bool.or_eq_true, decide_eq_true_eq, Bool.not_eq_true'] at h7
  obtain ⟨⟨g1, g2⟩, g3⟩ := h7
  refine ⟨h1, r, hr, h2, g1, h4, h5, h6, g2, fun hf => ?_⟩
  rcases g3 with g | g
  · rw [hf] at g; cases g
  · exact g
theorem ix_put0 (X : ix_X p s m args c K cc own nL) {pl ps : Nat} {nest fin : Bool} {a idx kf : Nat} {ref d : String} {cs : List Nat} {v : Value} {w1 : ix_W} (hf : ix_fpb pl ps nest own idx ref cs kf d fin = true) (hfi : fin = true → nest = false ∧ meth.name = "<init>") (hc : a < ix_N w ∧ (ix_T w a).1 ∈ cs) (hd : decode cc pc = .ok (.putfield idx, 3)) {ty : FieldType} (hty : parseFieldDescriptor d = some ty) (hn : narrow ty v = v) (hfit : fits ty v = true)
    (hN : ix_N w1 = ix_N w) (hE : ∀ b, b ≠ a → ix_e K w1 b = ix_e K w b) (hT : ix_T w1 a = ix_T w a) (h1 : ix_fv K w1 a d kf = v) (h2 : ∀ j dj, j ≠ kf → ix_fv K w1 a dj j = ix_fv K w a dj j)
    {pc1 : Nat} (hp : pc + 3 = pc1) (kk : ix_G p l e R s m args below meth c Q K nL k n pc1 L S w1) : ix_G p l e R s m args below meth c Q K nL k n pc L (v :: .ref (K.2.2.1 + a) :: S) w := by
  subst hp
  intro H locs ls hP hz hS0 hl
  obtain ⟨hx, hb, hml, hown, hts, hO, hN0, hKp⟩ := X
  obtain ⟨hci, r, hr, hk, hde, hl1, hl2, hsm, hfin, hdecl⟩ := ix_fpb_spec hf hc.2
  have hrm := List.mem_of_getElem? hr
  have hin : ∀ w ∈ u_ws r.1 r.2.1 r.2.2, w ∈ ix_tb := fun w hw => ix_tbm (ix_in r hrm w hw).1 (ix_in r hrm w hw).2
  obtain ⟨ty0, hty0⟩ := ix_ty r hrm
  have hap := va_apart (own := own) hts hin ty0 hty0 (ix_nm r hrm) hO.1 hr
  have he : (ix_ws K w)[a]? = some (K.2.2.1 + a, .inr ((ix_T w a).1, (List.range r.2.2).map (fun k => ix_fv K w a (r.2.1 k).2.2.1 k))) := by rw [ix_at hc.1, ix_eo rfl hci hr]
  obtain ⟨r', g1, cell, q1, q2, q3, q4⟩ := hP a _ he
  have hrr : r' = r := Option.some.inj (g1.symm.trans hr)
  subst hrr
  obtain ⟨hS, hfc, kC, hkC, hkind⟩ := hO.1.1 _ _ hr
  obtain ⟨cf, kfl, fi, f, hi, hsl⟩ := hS kf hk
  have hlay := hts _ (hin _ (u_in_lay hk))
  unfold u_lay at hlay
  have hst := (u_facts hfc hkC (u_lays hts hin hk) hi).1
  have hgo : ∀ (H' : Heap) , H'[K.2.2.1 + a]? = some (cell.setSlot f.slot v) → H'.size = H.size → (∀ q : Nat, q ≠ K.2.2.1 + a → H'[q]? = H[q]?) → W p l e R s m args below meth c H' (locs ++ [⟨K.2.2.1 + a, f.slot⟩]) k n Q (F0 m (pc + 3) ls S) := by
    intro H' e1 e2 e3
    refine kk H' _ ls ?_ (e2.trans (by rw [hN]; exact hz)) (hS0.put e2 e3 (Nat.le_add_right _ _)) hl
    rw [← ix_oset (w' := w1) (v := v) hc.1 hN hE hT rfl hci hr hk (by rw [hde]; exact h1) (fun j hj => h2 j _ hj)]
    rw [hsl] at e1
    exact hP.set ix_D he ⟨_, hr, t_OB.to (V := updV (vp_V _) kf v) ⟨_, e1, q2, q3, t_set q4 hap hk v⟩ (fun j _ => vp_updV_set (by simpa using hk) v j)⟩ e3
  cases fin with
  | false =>
    rw [if_neg (by rw [hfin]; decide)] at hlay
    have h6 := u_store hfc hkC hkind hlay hi (by rw [hde]; exact hty) hn hfit
    cases nest with
    | false => exact W.putK hx hb (f := f) ⟨hown, hts _ (ix_tbm (hl1 rfl) rfl), ⟨_, _, _, ix_hsame hts hsm _ hi⟩, hst⟩ (by rw [q2]; exact h6) q1 q3 (by rw [hsl]; exact k2_hasslot (q4 kf hk)) rfl rfl hd fun H' e1 e2 e3 => hgo H' e1 e2 e3
    | true => exact va_WputK hx hb (f := f) hown (va_Nw.use rfl (hO.2.1 _ (ix_ntm (hl2 rfl) rfl))) (ix_hsame hts hsm _ hi) hst (by rw [q2]; exact h6) q1 q3 (by rw [hsl]; exact k2_hasslot (q4 kf hk)) rfl rfl hd fun H' e1 e2 e3 => hgo H' e1 e2 e3
  | true =>
    rw [if_pos hfin] at hlay
    obtain ⟨hnest, hin2⟩ := hfi rfl
    subst hnest
    have hcf : m.cls = cf := by
      obtain ⟨_, _, c', _, _, _, -, -, hf', -, -, -, hown2, -⟩ := Cond.laysFinal_spec hlay
      have e1 : c' = cf := by have := hi.symm.trans hf'; simp at this; exact this.1.symm
      rw [hdecl rfl] at hown2
      rw [← e1]; exact Option.some.inj (hown.symm.trans hown2)
    have h6 := u_fits hfc hkC hkind (Or.inr hlay) hi (by rw [hde]; exact hty) hn hfit
    exact W.putFinK hx hb hown (hts _ (ix_tbm (hl1 rfl) rfl)) (ix_hsame hts hsm _ hi) hst hcf hin2 (by rw [q2]; exact h6) q1 q3 (by rw [hsl]; exact k2_hasslot (q4 kf hk)) rfl rfl hd fun H' e1 e2 e3 => hgo H' e1 e2 e3
theorem ix_sI_o {a kf : Nat} {x : Int32} : (∀ b, b ≠ a → ix_e K (ix_sI w a kf x) b = ix_e K w b) ∧ (∀ d, ix_ft d = 0 → ix_fv K (ix_sI w a kf x) a d kf = .int x) ∧ ∀ j dj, j ≠ kf → ix_fv K (ix_sI w a kf x) a dj j = ix_fv K w a dj j := by
  refine ⟨fun b hb => ix_e_congr (ix_up_ne hb) rfl rfl rfl, fun d hd => ?_, fun j dj hj => ?_⟩
  · simp [ix_fv, hd, ix_sI, ix_up]
  · simp [ix_fv, ix_sI, ix_up, hj]
theorem ix_sJ_o {a kf : Nat} {x : Int64} : (∀ b, b ≠ a → ix_e K (ix_sJ w a kf x) b = ix_e K w b) ∧ (∀ d, ix_ft d = 1 → ix_fv K (ix_sJ w a kf x) a d kf = .long x) ∧ ∀ j dj, j ≠ kf → ix_fv K (ix_sJ w a kf x) a dj j = ix_fv K w a dj j := by
  refine ⟨fun b hb => ix_e_congr rfl (ix_up_ne hb) rfl rfl, fun d hd => ?_, fun j dj hj => ?_⟩
  · simp [ix_fv, hd, ix_sJ, ix_up]
  · simp [ix_fv, ix_sJ, ix_up, hj]
theorem ix_sR_o {a kf : Nat} {x : Option Nat} : (∀ b, b ≠ a → ix_e K (ix_sR w a kf x) b = ix_e K w b) ∧ (∀ d, ix_ft d = 2 → ix_fv K (ix_sR w a kf x) a d kf = ix_rv K x) ∧ ∀ j dj, j ≠ kf → ix_fv K (ix_sR w a kf x) a dj j = ix_fv K w a dj j := by
  refine ⟨fun b hb => ix_e_congr rfl rfl (ix_up_ne hb) rfl, fun d hd => ?_, fun j dj hj => ?_⟩
  · simp [ix_fv, hd, ix_sR, ix_up]
  · simp [ix_fv, ix_sR, ix_up, hj]
theorem ix_putI (X : ix_X p s m args c K cc own nL) {pl ps : Nat} {nest fin : Bool} {a idx kf : Nat} {ref : String} {cs : List Nat} {x : Int32} {w1 : ix_W} (hf : ix_fpb pl ps nest own idx ref cs kf "I" fin = true) (hfi : fin = true → nest = false ∧ meth.name = "<init>") (hc : a < ix_N w ∧ (ix_T w a).1 ∈ cs) (hd : decode cc pc = .ok (.putfield idx, 3)) (hw : ix_sI w a kf x = w1) {pc1 : Nat} (hp : pc + 3 = pc1) (kk : ix_G p l e R s m args below meth c Q K nL k n pc1 L S w1) : ix_G p l e R s m args below meth c Q K nL k n pc L (.int x :: .ref (K.2.2.1 + a) :: S) w := by
  subst hp
  subst hw
  exact ix_put0 (w1 := ix_sI w a kf x) X hf hfi hc hd (ty := .int) (by decide +kernel) rfl rfl rfl ix_sI_o.1 rfl (ix_sI_o.2.1 _ (by decide +kernel)) ix_sI_o.2.2 rfl kk
theorem ix_putZ (X : ix_X p s m args c K cc own nL) {pl ps : Nat} {nest fin : Bool} {a idx kf : Nat} {ref : String} {cs : List Nat} {x : Int32} {w1 : ix_W} (hf : ix_fpb pl ps nest own idx ref cs kf "Z" fin = true) (hfi : fin = true → nest = false ∧ meth.name = "<init>") (hc : a < ix_N w ∧ (ix_T w a).1 ∈ cs) (hd : decode cc pc = .ok (.putfield idx, 3)) (hz : x = 0 ∨ x = 1) (hw : ix_sI w a kf x = w1) {pc1 : Nat} (hp : pc + 3 = pc1) (kk : ix_G p l e R s m args below meth c Q K nL k n pc1 L S w1) : ix_G p l e R s m args below meth c Q K nL k n pc L (.int x :: .ref (K.2.2.1 + a) :: S) w := by
  subst hp
  subst hw
  exact ix_put0 (w1 := ix_sI w a kf x) X hf hfi hc hd (ty := .boolean) (by decide +kernel) (by rcases hz with rfl | rfl <;> rfl) (by rcases hz with rfl | rfl <;> rfl) rfl ix_sI_o.1 rfl (ix_sI_o.2.1 _ (by decide +kernel)) ix_sI_o.2.2 rfl kk
theorem ix_putJ (X : ix_X p s m args c K cc own nL) {pl ps : Nat} {nest fin : Bool} {a idx kf : Nat} {ref : String} {cs : List Nat} {x : Int64} {w1 : ix_W} (hf : ix_fpb pl ps nest own idx ref cs kf "J" fin = true) (hfi : fin = true → nest = false ∧ meth.name = "<init>") (hc : a < ix_N w ∧ (ix_T w a).1 ∈ cs) (hd : decode cc pc = .ok (.putfield idx, 3)) (hw : ix_sJ w a kf x = w1) {pc1 : Nat} (hp : pc + 3 = pc1) (kk : ix_G p l e R s m args below meth c Q K nL k n pc1 L S w1) : ix_G p l e R s m args below meth c Q K nL k n pc L (.long x :: .ref (K.2.2.1 + a) :: S) w := by
  subst hp
  subst hw
  exact ix_put0 (w1 := ix_sJ w a kf x) X hf hfi hc hd (ty := .long) (by decide +kernel) rfl rfl rfl ix_sJ_o.1 rfl (ix_sJ_o.2.1 _ (by decide +kernel)) ix_sJ_o.2.2 rfl kk
theorem ix_putR (X : ix_X p s m args c K cc own nL) {pl ps : Nat} {nest fin : Bool} {a idx kf : Nat} {ref : String} {cs : List Nat} {d : String} {b : Nat} {w1 : ix_W} (hf : ix_fpb pl ps nest own idx ref cs kf d fin = true) (hfi : fin = true → nest = false ∧ meth.name = "<init>") (hc : a < ix_N w ∧ (ix_T w a).1 ∈ cs) (hd : decode cc pc = .ok (.putfield idx, 3)) {ty : FieldType} (hty : parseFieldDescriptor d = some ty) (hft : ix_ft d = 2) (hn : narrow ty (.ref (K.2.2.1 + b)) = .ref (K.2.2.1 + b)) (hfit : fits ty (.ref (K.2.2.1 + b)) = true) (hw : ix_sR w a kf (some b) = w1) {pc1 : Nat} (hp : pc + 3 = pc1) (kk : ix_G p l e R s m args below meth c Q K nL k n pc1 L S w1) : ix_G p l e R s m args below meth c Q K nL k n pc L (.ref (K.2.2.1 + b) :: .ref (K.2.2.1 + a) :: S) w := by
  subst hp
  subst hw
  exact ix_put0 (w1 := ix_sR w a kf (some b)) X hf hfi hc hd hty hn hfit rfl ix_sR_o.1 rfl (ix_sR_o.2.1 _ hft) ix_sR_o.2.2 rfl kk
end IXS
end
section
/-! CONTRACTS BY MODELS: a method at a world w and arguments av returns rv and leaves the world w1 -/
def ix_Pre (K : ix_Cx) (av : List Value) (w : ix_W) : Array Value → State → Prop := va_Pc av (fun U => va_P K.1 ix_cl (ix_ws K w) U.heap ∧ U.heap.size = K.2.2.1 + ix_N w ∧ ix_O K U)
def ix_Post (K : ix_Cx) (rv : Option Value) (w1 : ix_W) : Array Value → State → Outcome → State → Prop := fun _ st oc t => oc = .returned rv ∧ va_P K.1 ix_cl (ix_ws K w1) t.heap ∧ t.heap.size = K.2.2.1 + ix_N w1 ∧ va_F (ix_A K) st t
abbrev ix_rm (fr lo mc ms : Nat) : Room := { frames := fr, cells := mc, slots := ms, locals := lo }
def ix_M (l : Launch) (K : ix_Cx) (y : MethodName) (cc : ByteArray) (maxL : Nat) (ret : Option FieldType) (fr lo mc ms : Nat) (av : List Value) (w : ix_W) (rv : Option Value) (w1 : ix_W) : Prop :=
  Met l y (.code y cc maxL ret :: ix_tb) (ix_rm fr lo mc ms) (ix_Pre K av w) (ix_Post K rv w1) mc ms (ix_A K)
def ix_mf (y : MethodName) (cc : ByteArray) (maxL : Nat) (ret : Option FieldType) (n : Nat) : Prop := Cond.code y cc maxL ret ∈ lw_tbl ∧ Cond.initialized y.cls ∈ lw_tbl ∧ (y.cls ≠ "java/lang/invoke/MethodHandle" ∧ y.cls ≠ "java/lang/invoke/VarHandle") ∧ (parseMethodDescriptor y.desc).map (fun d => d.parameters.length) = some n ∧ plainName y.cls = true
theorem ix_met {l : Launch} {K : ix_Cx} {y : MethodName} {cc : ByteArray} {maxL : Nat} {ret : Option FieldType} {fr lo mc ms n : Nat} {av : List Value} {w w1 : ix_W} {rv : Option Value} (hm : ix_mf y cc maxL ret n) (hKp : ix_Kp K) (hle : (lg_sl av).length ≤ maxL)
    (body : ∀ (p : Program) (e : Env) (s : State) (m : MethodId) (args : Array Value) (below : List Frame) (meth : Method) (c : Code), meth.sig.returnType = ret → meth.locks = false → meth.name = y.name → ix_X p s m args c K cc y.cls maxL →
      ix_G p l e (ix_rm fr lo mc ms) s m args below meth c (MQ below (ix_Post K rv w1) args s mc ms (ix_A K)) K maxL 0 0 0 (lv_args 0 av) [] w) : ix_M l K y cc maxL ret fr lo mc ms av w rv w1 := by
  refine Met.ofW (cc := cc) (maxL := maxL) (ret := ret) hm.2.2.2.2 rfl ?_
  intro p e s m args below meth c s₁ B hml hv
  obtain ⟨rfl, hP, hz, hO⟩ := hv
  have hts := atoms_spec (ws := .code y cc maxL ret :: ix_tb) B.pre
  rw [lg_entry_eq]
  exact body p e s m _ below meth c B.returns B.notSynchronized (name_of_methodNamed B.named B.method).1 ⟨B.exec, B.bytes, hml, findClass_of_methodNamed B.named, fun w hw => hts w (List.mem_cons_of_mem _ hw), hO, by rw [hz]; exact Nat.le_add_right _ _, hKp⟩ s.heap [] _ hP hz va_S.rf (lv_entry av hle)
section IXC
variable {p : Program} {l : Launch} {e : Env} {R : Room} {s : State} {m : MethodId} {args : Array Value} {below : List Frame} {meth : Method} {c : Code} {Q : State → Prop} {K : ix_Cx} {nL k n : Nat} {cc : ByteArray} {own : String} {pc : Nat} {L : List (Nat × Value)} {S : List Value} {w : ix_W}
theorem ix_iret (X : ix_X p s m args c K cc own nL) (hr : meth.sig.returnType = some .int) (hlocks : meth.locks = false) {v : Int32} {rv : Option Value} {w1 : ix_W} (he : rv = some (.int v) ∧ w1 = w) (hd : decode cc pc = .ok (.ireturn, 1)) : ix_G p l e R s m args below meth c (MQ below (ix_Post K rv w1) args s k n (ix_A K)) K nL k n pc L [.int v] w := by
  obtain ⟨rfl, rfl⟩ := he
  exact fun H locs ls hP hz hS hl => W.iret X.1 X.2.1 hr (fun t ht _ => ⟨rfl, by rw [ht]; exact hP, by rw [ht]; exact hz, hS.F ht⟩) hS.2.2 hd
theorem ix_zret (X : ix_X p s m args c K cc own nL) (hr : meth.sig.returnType = some .boolean) (hlocks : meth.locks = false) {v : Int32} {rv : Option Value} {w1 : ix_W} (hv : v = 0 ∨ v = 1) (he : rv = some (.int v) ∧ w1 = w) (hd : decode cc pc = .ok (.ireturn, 1)) : ix_G p l e R s m args below meth c (MQ below (ix_Post K rv w1) args s k n (ix_A K)) K nL k n pc L [.int v] w := by
  obtain ⟨rfl, rfl⟩ := he
  exact fun H locs ls hP hz hS hl => W.zret X.1 X.2.1 hr (by rcases hv with rfl | rfl <;> rfl) (fun t ht _ => ⟨rfl, by rw [ht]; exact hP, by rw [ht]; exact hz, hS.F ht⟩) hS.2.2 hd
theorem ix_lret (X : ix_X p s m args c K cc own nL) (hr : meth.sig.returnType = some .long) (hlocks : meth.locks = false) {v : Int64} {rv : Option Value} {w1 : ix_W} (he : rv = some (.long v) ∧ w1 = w) (hd : decode cc pc = .ok (.lreturn, 1)) : ix_G p l e R s m args below meth c (MQ below (ix_Post K rv w1) args s k n (ix_A K)) K nL k n pc L [.long v] w := by
  obtain ⟨rfl, rfl⟩ := he
  exact fun H locs ls hP hz hS hl => W.lret X.1 X.2.1 hr (fun t ht _ => ⟨rfl, by rw [ht]; exact hP, by rw [ht]; exact hz, hS.F ht⟩) hS.2.2 hd
theorem ix_vret (X : ix_X p s m args c K cc own nL) (hr : meth.sig.returnType = none) (hlocks : meth.locks = false) {rv : Option Value} {w1 : ix_W} (he : rv = none ∧ w1 = w) (hd : decode cc pc = .ok (.return_, 1)) : ix_G p l e R s m args below meth c (MQ below (ix_Post K rv w1) args s k n (ix_A K)) K nL k n pc L [] w := by
  obtain ⟨rfl, rfl⟩ := he
  exact fun H locs ls hP hz hS hl => W.vret X.1 X.2.1 hr (fun t ht _ => ⟨rfl, by rw [ht]; exact hP, by rw [ht]; exact hz, hS.F ht⟩) hS.2.2 hd
theorem ix_aret (X : ix_X p s m args c K cc own nL) {rt : FieldType} (hr : meth.sig.returnType = some rt) (hrt : (∃ n, rt = .object n) ∨ ∃ t, rt = .array t) (hlocks : meth.locks = false) {v : Option Nat} {rv : Option Value} {w1 : ix_W} (he : rv = some (ix_rv K v) ∧ w1 = w) (hd : decode cc pc = .ok (.areturn, 1)) : ix_G p l e R s m args below meth c (MQ below (ix_Post K rv w1) args s k n (ix_A K)) K nL k n pc L [ix_rv K v] w := by
  obtain ⟨rfl, rfl⟩ := he
  exact fun H locs ls hP hz hS hl => W.aret X.1 X.2.1 hr hrt (by cases v with
    | none => exact Or.inl rfl
    | some a => exact Or.inr ⟨_, rfl⟩) (fun t ht _ => ⟨rfl, by rw [ht]; exact hP, by rw [ht]; exact hz, hS.F ht⟩) hS.2.2 hd
theorem ix_widen {k1 n1 : Nat} (h1 : k ≤ k1) (h2 : n ≤ n1) (kk : ix_G p l e R s m args below meth c Q K nL k1 n1 pc L S w) : ix_G p l e R s m args below meth c Q K nL k n pc L S w :=
  fun H locs ls hP hz hS hl => W.widen h1 h2 (kk H locs ls hP hz hS hl)
/-- behind a call -/
theorem ix_call0 {mc ms : Nat} {rv : Option Value} {w1 : ix_W} {rest st0 : List Value} {a : Array Value}
    (hr : ∀ (H : Heap) (locs : List Loc) (ls : Array Slot), va_P K.1 ix_cl (ix_ws K w) H → H.size = K.2.2.1 + ix_N w → va_S (ix_A K) s.heap H locs → ls.size = nL → va_Run p l e R s m args below meth c H locs k n mc ms (F0 m pc ls st0) rest (ix_Post K rv w1 a) (ix_A K))
    {pc1 : Nat} (hp : pc + 3 = pc1) (kk : ix_G p l e R s m args below meth c Q K nL (k + mc) (n + ms) pc1 L (rv.toList ++ rest) w1) : ix_G p l e R s m args below meth c Q K nL k n pc L st0 w := by
  subst hp
  intro H locs ls hP hz hS hl T hT X
  obtain ⟨v, st₀, t, T', L', h0, X', hL, e1, e2, ⟨hv, hP1, hz1, hF⟩, st⟩ := hr H locs ls hP hz hS hl.1 T hT X
  cases hv
  obtain ⟨t2, a1, b1⟩ := kk T'.heap (locs ++ L') ls (by rw [e1]; exact hP1) (by rw [e1]; exact hz1) ⟨Nat.le_trans hS.1 (by rw [e1, ← h0]; exact hF.1), fun q h1 h2 => by rw [e1, hF.2 q (by rw [h0]; exact Nat.lt_of_lt_of_le h1 hS.1) h2, h0]; exact hS.2.1 q h1 h2, fun q hq => by
      rcases List.mem_append.mp hq with h | h
      · exact hS.2.2 q h
      · exact hL q h⟩ hl T' rfl X'
  exact ⟨t2, st t2 a1, b1⟩
theorem ix_blind (hKp : ix_Kp K) {av : List Value} : FrameBlind (ix_Pre K av w) := by
  intro a U g mk h
  obtain ⟨h1, h2, h3, h4, h5, h6⟩ := h
  refine ⟨h1, h2, h3, va_K.moved (u := U) (U := U.calling g mk a) (Vm.Alike.refl U.vm) h4, fun w hw => ?_, ?_⟩
  · exact va_Nw.same (u := U) (U := U.calling g mk a) (ix_isn_on (List.mem_filter.mp hw).2) rfl (h5 w hw)
  · exact hKp U (U.calling g mk a) (State.WarmedH.refl U) (fun _ _ => rfl) h6
/-- what a call needs of its callee's words -/
theorem ix_words (X : ix_X p s m args c K cc own nL) {y : MethodName} {cc2 : ByteArray} {maxL : Nat} {ret : Option FieldType} (hc : Cond.code y cc2 maxL ret ∈ lw_tbl) : ∀ w ∈ (Cond.code y cc2 maxL ret :: ix_tb), ∀ (a' : Array Value) (U : State), s.WarmedH U.vm → w.before a' U = true := by
  intro w hw a' U hW
  have h1 : w ∈ ix_tb := by
    rcases List.mem_cons.mp hw with rfl | h
    · exact ix_tbm hc rfl
    · exact h
  exact word_at hW (good_of_word (List.mem_filter.mp h1).2) (X.2.2.2.2.1 w h1)
theorem ix_pre (X : ix_X p s m args c K cc own nL) {H : Heap} {locs : List Loc} (hP : va_P K.1 ix_cl (ix_ws K w) H) (hz : H.size = K.2.2.1 + ix_N w) (hS : va_S (ix_A K) s.heap H locs) (av : List Value) : ∀ U : State, U.heap = H → s.WarmedH U.vm → ix_Pre K av w av.toArray U := by
  intro U hU hW
  refine ⟨rfl, by rw [hU]; exact hP, by rw [hU]; exact hz, ix_O_moved X.2.2.2.2.2.2.2 hW (fun q hq => ?_) X.2.2.2.2.2.1⟩
  rw [hU]
  exact hS.2.1 q (Nat.lt_of_lt_of_le hq X.2.2.2.2.2.2.1) (Nat.not_le.mpr hq)
theorem ix_cb (X : ix_X p s m args c K cc own nL) {y : MethodName} {cc2 : ByteArray} {maxL idx N : Nat} {ret : Option FieldType} {fr lo mc ms : Nat} (hm : ix_mf y cc2 maxL ret N) (hl : Cond.methodLink own idx y ∈ lw_tbl) (hR : fr + 1 ≤ R.frames ∧ 8 + (maxL + 11) + lo ≤ R.locals) : CallB R s args own idx y cc2 maxL ret (Cond.code y cc2 maxL ret :: ix_tb) (ix_rm fr lo mc ms) mc ms N := by
  refine ⟨rfl, rfl, hR.1, hR.2, ix_words X hm.1, List.mem_cons_self, X.2.2.2.2.1 _ (ix_tbm hm.1 rfl), X.2.2.2.2.1 _ (ix_tbm hm.2.1 rfl), hm.2.2.1, fun sig h => ?_, X.2.2.2.2.1 _ (ix_tbm hl rfl)⟩
  have h2 := hm.2.2.2.1
  rw [h] at h2
  exact (Option.some.inj h2).symm
/-- invokestatic -/
theorem ix_callS (X : ix_X p s m args c K cc own nL) {y : MethodName} {cc2 : ByteArray} {maxL idx N pl : Nat} {ret : Option FieldType} {fr lo mc ms : Nat} {rv : Option Value} {w1 : ix_W} {As rest : List Value} (hm : ix_mf y cc2 maxL ret N) (hst : Cond.static y ∈ lw_tbl) (hl : tables_1[pl]? = some (Cond.methodLink own idx y)) (hR : fr + 1 ≤ R.frames ∧ 8 + (maxL + 11) + lo ≤ R.locals) (hf : k + mc ≤ R.cells ∧ n + ms ≤ R.slots) (hN : As.length = N) (hrm : (rest.map fun v => v.category).sum ≤ 8) (hd : decode cc pc = .ok (.invokestatic idx, 3)) (hM : ix_M l K y cc2 maxL ret fr lo mc ms As w rv w1)
    (hS : As.reverse ++ rest = S) {pc1 : Nat} (hp : pc + 3 = pc1) (kk : ix_G p l e R s m args below meth c Q K nL (k + mc) (n + ms) pc1 L (rv.toList ++ rest) w1) : ix_G p l e R s m args below meth c Q K nL k n pc L S w := by
  subst hp
  subst hS
  refine ix_call0 (a := As.toArray) (fun H locs ls hP hz hS hls => ?_) rfl kk
  exact va_runS ⟨X.1, X.2.1, X.2.2.1, X.2.2.2.1, X.2.2.2.2.1⟩ hM ⟨ix_cb X hm (ix_wm hl) hR, X.2.2.2.2.1 _ (ix_tbm hst rfl)⟩ ⟨ix_blind X.2.2.2.2.2.2.2, ix_pre X hP hz hS As⟩ rfl hN hls rfl (lv_room hrm) hd hf
/-- invokevirtual of a method that the receiver's own class has -/
theorem ix_callV (X : ix_X p s m args c K cc own nL) {y : MethodName} {cc2 : ByteArray} {maxL idx N pl b ci : Nat} {ret : Option FieldType} {fr lo mc ms : Nat} {rv : Option Value} {w1 : ix_W} {As rest : List Value} {T : u_T} {nf : Nat} (hm : ix_mf y cc2 maxL ret N) (hi : Cond.instanceMethod y ∈ lw_tbl) (hs : Cond.selects y.cls y y ∈ lw_tbl) (hcl : ix_cl[ci]? = some (y.cls, T, nf)) (hci : ci < 20) (hl : tables_1[pl]? = some (Cond.methodLink own idx y)) (hR : fr + 1 ≤ R.frames ∧ 8 + (maxL + 11) + lo ≤ R.locals) (hf : k + mc ≤ R.cells ∧ n + ms ≤ R.slots) (hN : As.length = N) (hrm : (rest.map fun v => v.category).sum ≤ 8) (hd : decode cc pc = .ok (.invokevirtual idx, 3)) (hb : b < ix_N w ∧ (ix_T w b).1 = ci) (hM : ix_M l K y cc2 maxL ret fr lo mc ms (.ref (K.2.2.1 + b) :: As) w rv w1)
    (hS : As.reverse ++ .ref (K.2.2.1 + b) :: rest = S) {pc1 : Nat} (hp : pc + 3 = pc1) (kk : ix_G p l e R s m args below meth c Q K nL (k + mc) (n + ms) pc1 L (rv.toList ++ rest) w1) : ix_G p l e R s m args below meth c Q K nL k n pc L S w := by
  subst hp
  subst hS
  refine ix_call0 (a := (Value.ref (K.2.2.1 + b) :: As).toArray) (fun H locs ls hP hz hS hls => ?_) rfl kk
  have he : (ix_ws K w)[b]? = some (K.2.2.1 + b, .inr (ci, (List.range nf).map (fun k => ix_fv K w b (T k).2.2.1 k))) := by rw [ix_at hb.1, ix_eo hb.2 hci hcl]
  exact va_runV (C := y.cls) ⟨X.1, X.2.1, X.2.2.1, X.2.2.2.1, X.2.2.2.2.1⟩ hM ⟨ix_cb X hm (ix_wm hl) hR, X.2.2.2.2.1 _ (ix_tbm hi rfl), X.2.2.2.2.1 _ (ix_tbm hs rfl)⟩ ⟨ix_blind X.2.2.2.2.2.2.2, va_recv X.2.2.2.2.2.1.1 hP hcl he, ix_pre X hP hz hS _⟩ rfl hN hls rfl (lv_room hrm) hd hf
/-- invokespecial of a constructor -/
theorem ix_callI (X : ix_X p s m args c K cc own nL) {y : MethodName} {cc2 : ByteArray} {maxL idx N pl b : Nat} {fr lo mc ms : Nat} {rv : Option Value} {w1 : ix_W} {As rest : List Value} (hm : ix_mf y cc2 maxL none N) (hi : Cond.instanceMethod y ∈ lw_tbl) (hy : y.name = "<init>") (hl : tables_1[pl]? = some (Cond.methodLink own idx y)) (hR : fr + 1 ≤ R.frames ∧ 8 + (maxL + 11) + lo ≤ R.locals) (hf : k + mc ≤ R.cells ∧ n + ms ≤ R.slots) (hN : As.length = N) (hrm : (rest.map fun v => v.category).sum ≤ 8) (hd : decode cc pc = .ok (.invokespecial idx, 3)) (hM : ix_M l K y cc2 maxL none fr lo mc ms (.ref (K.2.2.1 + b) :: As) w rv w1)
    (hS : As.reverse ++ .ref (K.2.2.1 + b) :: rest = S) {pc1 : Nat} (hp : pc + 3 = pc1) (kk : ix_G p l e R s m args below meth c Q K nL (k + mc) (n + ms) pc1 L (rv.toList ++ rest) w1) : ix_G p l e R s m args below meth c Q K nL k n pc L S w := by
  subst hp
  subst hS
  refine ix_call0 (a := (Value.ref (K.2.2.1 + b) :: As).toArray) (fun H locs ls hP hz hS hls => ?_) rfl kk
  exact va_runI ⟨X.1, X.2.1, X.2.2.1, X.2.2.2.1, X.2.2.2.2.1⟩ hM ⟨ix_cb X hm (ix_wm hl) hR, hy, X.2.2.2.2.1 _ (ix_tbm hi rfl)⟩ ⟨ix_blind X.2.2.2.2.2.2.2, ix_pre X hP hz hS _⟩ rfl hN hls rfl (lv_room hrm) hd hf
end IXC
end
section
/-! THE WORDS OF THE MODELS: checks, forks, names, loops; z: what a method without new cells leaves (references, kinds, how many), d: ints and longs -/
abbrev ix_Z : Type := (Nat → Nat → Option Nat) × (Nat → Nat × Nat) × Nat
abbrev ix_D2 : Type := (Nat → Nat → Int32) × (Nat → Nat → Int64)
def ix_w (z : ix_Z) (d : ix_D2) : ix_W := (d.1, d.2, z)
def ix_di (d : ix_D2) (a k : Nat) (v : Int32) : ix_D2 := (ix_up d.1 a k v, d.2)
def ix_dj (d : ix_D2) (a k : Nat) (v : Int64) : ix_D2 := (d.1, ix_up d.2 a k v)
noncomputable def ix_ck {α : Type} (P : Prop) (k : Option α) : Option α := @ite _ P (Classical.propDecidable P) k none
noncomputable def ix_if {α : Type} (P : Prop) (a b : α) : α := @ite _ P (Classical.propDecidable P) a b
def ix_lt {α β : Type} (a : α) (k : α → β) : β := k a
def ix_fix {τ : Type} (B : τ → τ) (bot : τ) : Nat → τ
  | 0 => bot
  | f + 1 => B (ix_fix B bot f)
/-- a cell that is there and of one of these kinds -/
def ix_ok (z : ix_Z) (cs : List Nat) (a : Nat) : Prop := a < z.2.2 ∧ (z.2.1 a).1 ∈ cs
/-- an array of kind t with a place i -/
def ix_ix (z : ix_Z) (t a : Nat) (i : Int32) : Prop := a < z.2.2 ∧ (z.2.1 a).1 = t ∧ vp_in i (z.2.1 a).2
def ix_n (i : Int32) : Nat := i.toNatClampNeg
theorem ix_ck_some {α : Type} {P : Prop} {k : Option α} {r : α} (h : ix_ck P k = some r) : P ∧ k = some r := by
  unfold ix_ck at h
  split at h
  · exact ⟨by assumption, h⟩
  · cases h
theorem ix_ck_pos {α : Type} {P : Prop} {k : Option α} (h : P) : ix_ck P k = k := if_pos h
theorem ix_if_pos {α : Type} {P : Prop} {a b : α} (h : P) : ix_if P a b = a := if_pos h
theorem ix_if_neg {α : Type} {P : Prop} {a b : α} (h : ¬ P) : ix_if P a b = b := if_neg h
theorem ix_lt_ex {α β : Type} {a : α} {k : α → Option β} {r : β} (h : ix_lt a k = some r) : ∃ x, x = a ∧ k x = some r := ⟨a, rfl, h⟩
theorem ix_bd_ex {α β : Type} {a : Option α} {k : α → Option β} {r : β} (h : a.bind k = some r) : ∃ x, a = some x ∧ k x = some r := Option.bind_eq_some_iff.mp h
theorem ix_r2 {α β : Type} {a a' : α} {b b' : β} {f : α → Option Value} {g : β → ix_W} (h : some (a, b) = some (a', b')) : f a' = f a ∧ g b' = g b := by
  cases h
  exact ⟨rfl, rfl⟩
theorem ix_r1 {β : Type} {b b' : β} {g : β → ix_W} (h : some b = some b') : (none : Option Value) = none ∧ g b' = g b := by
  cases h
  exact ⟨rfl, rfl⟩
section IXM
variable {p : Program} {l : Launch} {e : Env} {R : Room} {s : State} {m : MethodId} {args : Array Value} {below : List Frame} {meth : Method} {c : Code} {Q : State → Prop} {K : ix_Cx} {nL k n : Nat} {cc : ByteArray} {own : String} {pc : Nat} {L : List (Nat × Value)} {S : List Value} {w : ix_W}
theorem ix_nmi {x v : Int32} (h : x = v) (kk : ix_G p l e R s m args below meth c Q K nL k n pc L (.int x :: S) w) : ix_G p l e R s m args below meth c Q K nL k n pc L (.int v :: S) w := h ▸ kk
theorem ix_nml {x v : Int64} (h : x = v) (kk : ix_G p l e R s m args below meth c Q K nL k n pc L (.long x :: S) w) : ix_G p l e R s m args below meth c Q K nL k n pc L (.long v :: S) w := h ▸ kk
theorem ix_sub {L1 : List (Nat × Value)} (ks : List Nat) (h : lv_pick L ks = L1) (kk : ix_G p l e R s m args below meth c Q K nL k n pc L1 S w) : ix_G p l e R s m args below meth c Q K nL k n pc L S w :=
  fun H locs ls hP hz hS hl => kk H locs ls hP hz hS (lv_sub hl ks h)
/-- by its table of instructions -/
def ix_tab (cc : ByteArray) (t : List (Nat × Instr × Nat)) : Prop := ∀ q ∈ t, decode cc q.1 = .ok (q.2.1, q.2.2)
theorem ix_tb_at {cc : ByteArray} {t : List (Nat × Instr × Nat)} (h : ix_tab cc t) (j : Nat) {pc len : Nat} {i : Instr} (hj : t[j]? = some (pc, i, len)) : decode cc pc = .ok (i, len) := h (pc, i, len) (List.mem_of_getElem? hj)
end IXM
end
section
theorem ix_wI {z : ix_Z} {d d1 : ix_D2} {a k : Nat} {v : Int32} (h : d1 = ix_di d a k v) : ix_sI (ix_w z d) a k v = ix_w z d1 := by
  subst h
  rfl
theorem ix_wJ {z : ix_Z} {d d1 : ix_D2} {a k : Nat} {v : Int64} (h : d1 = ix_dj d a k v) : ix_sJ (ix_w z d) a k v = ix_w z d1 := by
  subst h
  rfl
theorem ix_ift {α : Type} {P : Prop} {a b : Option α} {r : α} (q : P) (h : ix_if P a b = some r) : a = some r := (ix_if_pos q).symm.trans h
theorem ix_iff {α : Type} {P : Prop} {a b : Option α} {r : α} (q : ¬ P) (h : ix_if P a b = some r) : b = some r := (ix_if_neg q).symm.trans h
def ix_bd2 {α β γ : Type} (a : Option (α × β)) (k : α → β → Option γ) : Option γ := a.bind (fun t => k t.1 t.2)
theorem ix_bd2_ex {α β γ : Type} {a : Option (α × β)} {k : α → β → Option γ} {r : γ} (h : ix_bd2 a k = some r) : ∃ x y, a = some (x, y) ∧ k x y = some r := by
  obtain ⟨⟨x, y⟩, h1, h2⟩ := Option.bind_eq_some_iff.mp h
  exact ⟨x, y, h1, h2⟩
def ix_bd1 {β γ : Type} (a : Option β) (k : β → Option γ) : Option γ := a.bind k
theorem ix_bd1_ex {β γ : Type} {a : Option β} {k : β → Option γ} {r : γ} (h : ix_bd1 a k = some r) : ∃ y, a = some y ∧ k y = some r := Option.bind_eq_some_iff.mp h
section IXZ
variable {p : Program} {l : Launch} {e : Env} {R : Room} {s : State} {m : MethodId} {args : Array Value} {below : List Frame} {meth : Method} {c : Code} {Q : State → Prop} {K : ix_Cx} {nL k n : Nat} {cc : ByteArray} {own : String} {pc : Nat} {L : List (Nat × Value)} {S : List Value} {z : ix_Z} {d : ix_D2}
theorem iz_getI (X : ix_X p s m args c K cc own nL) {pl ps : Nat} {nest : Bool} {a idx kf : Nat} {ref : String} {cs : List Nat} (hf : ix_flb pl ps nest own idx ref cs kf 0 = true) (hc : ix_ok z cs a) (hd : decode cc pc = .ok (.getfield idx, 3)) {pc1 : Nat} (hp : pc + 3 = pc1) (kk : ix_G p l e R s m args below meth c Q K nL k n pc1 L (.int (d.1 a kf) :: S) (ix_w z d)) : ix_G p l e R s m args below meth c Q K nL k n pc L (.ref (K.2.2.1 + a) :: S) (ix_w z d) := ix_getI X hf hc hd hp kk
theorem iz_getJ (X : ix_X p s m args c K cc own nL) {pl ps : Nat} {nest : Bool} {a idx kf : Nat} {ref : String} {cs : List Nat} (hf : ix_flb pl ps nest own idx ref cs kf 1 = true) (hc : ix_ok z cs a) (hd : decode cc pc = .ok (.getfield idx, 3)) {pc1 : Nat} (hp : pc + 3 = pc1) (kk : ix_G p l e R s m args below meth c Q K nL k n pc1 L (.long (d.2 a kf) :: S) (ix_w z d)) : ix_G p l e R s m args below meth c Q K nL k n pc L (.ref (K.2.2.1 + a) :: S) (ix_w z d) := ix_getJ X hf hc hd hp kk
theorem iz_getR (X : ix_X p s m args c K cc own nL) {pl ps : Nat} {nest : Bool} {a idx kf : Nat} {ref : String} {cs : List Nat} {b : Nat} (hf : ix_flb pl ps nest own idx ref cs kf 2 = true) (hc : ix_ok z cs a) (hr : z.1 a kf = some b) (hd : decode cc pc = .ok (.getfield idx, 3)) {pc1 : Nat} (hp : pc + 3 = pc1) (kk : ix_G p l e R s m args below meth c Q K nL k n pc1 L (.ref (K.2.2.1 + b) :: S) (ix_w z d)) : ix_G p l e R s m args below meth c Q K nL k n pc L (.ref (K.2.2.1 + a) :: S) (ix_w z d) := ix_getR X hf hc hr hd hp kk
theorem iz_putI (X : ix_X p s m args c K cc own nL) {pl ps : Nat} {nest : Bool} {a idx kf : Nat} {ref : String} {cs : List Nat} {x : Int32} {d1 : ix_D2} (hf : ix_fpb pl ps nest own idx ref cs kf "I" false = true) (hc : ix_ok z cs a) (hd : decode cc pc = .ok (.putfield idx, 3)) (hw : d1 = ix_di d a kf x) {pc1 : Nat} (hp : pc + 3 = pc1) (kk : ix_G p l e R s m args below meth c Q K nL k n pc1 L S (ix_w z d1)) : ix_G p l e R s m args below meth c Q K nL k n pc L (.int x :: .ref (K.2.2.1 + a) :: S) (ix_w z d) := ix_putI X hf (fun h => by cases h) hc hd (ix_wI hw) hp kk
theorem iz_putZ (X : ix_X p s m args c K cc own nL) {pl ps : Nat} {nest : Bool} {a idx kf : Nat} {ref : String} {cs : List Nat} {x : Int32} {d1 : ix_D2} (hf : ix_fpb pl ps nest own idx ref cs kf "Z" false = true) (hc : ix_ok z cs a) (hd : decode cc pc = .ok (.putfield idx, 3)) (hz : x = 0 ∨ x = 1) (hw : d1 = ix_di d a kf x) {pc1 : Nat} (hp : pc + 3 = pc1) (kk : ix_G p l e R s m args below meth c Q K nL k n pc1 L S (ix_w z d1)) : ix_G p l e R s m args below meth c Q K nL k n pc L (.int x :: .ref (K.2.2.1 + a) :: S) (ix_w z d) := ix_putZ X hf (fun h => by cases h) hc hd hz (ix_wI hw) hp kk
theorem iz_putJ (X : ix_X p s m args c K cc own nL) {pl ps : Nat} {nest : Bool} {a idx kf : Nat} {ref : String} {cs : List Nat} {x : Int64} {d1 : ix_D2} (hf : ix_fpb pl ps nest own idx ref cs kf "J" false = true) (hc : ix_ok z cs a) (hd : decode cc pc = .ok (.putfield idx, 3)) (hw : d1 = ix_dj d a kf x) {pc1 : Nat} (hp : pc + 3 = pc1) (kk : ix_G p l e R s m args below meth c Q K nL k n pc1 L S (ix_w z d1)) : ix_G p l e R s m args below meth c Q K nL k n pc L (.long x :: .ref (K.2.2.1 + a) :: S) (ix_w z d) := ix_putJ X hf (fun h => by cases h) hc hd (ix_wJ hw) hp kk
theorem iz_iald (X : ix_X p s m args c K cc own nL) {a : Nat} {i : Int32} (hi : ix_ix z 20 a i) (hd : decode cc pc = .ok (.iaload, 1)) {pc1 : Nat} (hp : pc + 1 = pc1) (kk : ix_G p l e R s m args below meth c Q K nL k n pc1 L (.int (d.1 a (ix_n i)) :: S) (ix_w z d)) : ix_G p l e R s m args below meth c Q K nL k n pc L (.int i :: .ref (K.2.2.1 + a) :: S) (ix_w z d) := ix_iald X hi.1 hi.2.1 hi.2.2 hd hp kk
theorem iz_bald (X : ix_X p s m args c K cc own nL) {a : Nat} {i : Int32} (hi : ix_ix z 21 a i) (hd : decode cc pc = .ok (.baload, 1)) {pc1 : Nat} (hp : pc + 1 = pc1) (kk : ix_G p l e R s m args below meth c Q K nL k n pc1 L (.int (d.1 a (ix_n i)) :: S) (ix_w z d)) : ix_G p l e R s m args below meth c Q K nL k n pc L (.int i :: .ref (K.2.2.1 + a) :: S) (ix_w z d) := ix_bald X hi.1 hi.2.1 hi.2.2 hd hp kk
theorem iz_zald (X : ix_X p s m args c K cc own nL) {a : Nat} {i : Int32} (hi : ix_ix z 22 a i) (hd : decode cc pc = .ok (.baload, 1)) {pc1 : Nat} (hp : pc + 1 = pc1) (kk : ix_G p l e R s m args below meth c Q K nL k n pc1 L (.int (d.1 a (ix_n i)) :: S) (ix_w z d)) : ix_G p l e R s m args below meth c Q K nL k n pc L (.int i :: .ref (K.2.2.1 + a) :: S) (ix_w z d) := ix_zald X hi.1 hi.2.1 hi.2.2 hd hp kk
theorem iz_lald (X : ix_X p s m args c K cc own nL) {a : Nat} {i : Int32} (hi : ix_ix z 23 a i) (hd : decode cc pc = .ok (.laload, 1)) {pc1 : Nat} (hp : pc + 1 = pc1) (kk : ix_G p l e R s m args below meth c Q K nL k n pc1 L (.long (d.2 a (ix_n i)) :: S) (ix_w z d)) : ix_G p l e R s m args below meth c Q K nL k n pc L (.int i :: .ref (K.2.2.1 + a) :: S) (ix_w z d) := ix_lald X hi.1 hi.2.1 hi.2.2 hd hp kk
theorem iz_iast (X : ix_X p s m args c K cc own nL) {a : Nat} {i x : Int32} {d1 : ix_D2} (hi : ix_ix z 20 a i) (hd : decode cc pc = .ok (.iastore, 1)) (hw : d1 = ix_di d a (ix_n i) (x)) {pc1 : Nat} (hp : pc + 1 = pc1) (kk : ix_G p l e R s m args below meth c Q K nL k n pc1 L S (ix_w z d1)) : ix_G p l e R s m args below meth c Q K nL k n pc L (.int x :: .int i :: .ref (K.2.2.1 + a) :: S) (ix_w z d) := ix_iast X hi.1 hi.2.1 hi.2.2 hd (ix_wI hw) hp kk
theorem iz_bast (X : ix_X p s m args c K cc own nL) {a : Nat} {i x : Int32} {d1 : ix_D2} (hi : ix_ix z 21 a i) (hd : decode cc pc = .ok (.bastore, 1)) (hw : d1 = ix_di d a (ix_n i) (vp_nar .byte x)) {pc1 : Nat} (hp : pc + 1 = pc1) (kk : ix_G p l e R s m args below meth c Q K nL k n pc1 L S (ix_w z d1)) : ix_G p l e R s m args below meth c Q K nL k n pc L (.int x :: .int i :: .ref (K.2.2.1 + a) :: S) (ix_w z d) := ix_bast X hi.1 hi.2.1 hi.2.2 hd (ix_wI hw) hp kk
theorem iz_zast (X : ix_X p s m args c K cc own nL) {a : Nat} {i x : Int32} {d1 : ix_D2} (hi : ix_ix z 22 a i) (hd : decode cc pc = .ok (.bastore, 1)) (hw : d1 = ix_di d a (ix_n i) (vp_nar .boolean x)) {pc1 : Nat} (hp : pc + 1 = pc1) (kk : ix_G p l e R s m args below meth c Q K nL k n pc1 L S (ix_w z d1)) : ix_G p l e R s m args below meth c Q K nL k n pc L (.int x :: .int i :: .ref (K.2.2.1 + a) :: S) (ix_w z d) := ix_zast X hi.1 hi.2.1 hi.2.2 hd (ix_wI hw) hp kk
theorem iz_last (X : ix_X p s m args c K cc own nL) {a : Nat} {i : Int32} {x : Int64} {d1 : ix_D2} (hi : ix_ix z 23 a i) (hd : decode cc pc = .ok (.lastore, 1)) (hw : d1 = ix_dj d a (ix_n i) x) {pc1 : Nat} (hp : pc + 1 = pc1) (kk : ix_G p l e R s m args below meth c Q K nL k n pc1 L S (ix_w z d1)) : ix_G p l e R s m args below meth c Q K nL k n pc L (.long x :: .int i :: .ref (K.2.2.1 + a) :: S) (ix_w z d) := ix_last X hi.1 hi.2.1 hi.2.2 hd (ix_wJ hw) hp kk
theorem iz_alen (X : ix_X p s m args c K cc own nL) {a : Nat} (ha : a < z.2.2 ∧ 20 ≤ (z.2.1 a).1 ∧ (z.2.1 a).1 < 26) (hd : decode cc pc = .ok (.arraylength, 1)) {pc1 : Nat} (hp : pc + 1 = pc1) (kk : ix_G p l e R s m args below meth c Q K nL k n pc1 L (.int (nI (z.2.1 a).2) :: S) (ix_w z d)) : ix_G p l e R s m args below meth c Q K nL k n pc L (.ref (K.2.2.1 + a) :: S) (ix_w z d) := ix_alen X (t := (z.2.1 a).1) (n0 := (z.2.1 a).2) ha.1 rfl ha.2.1 ha.2.2 hd hp kk
end IXZ
end
section
/-- as ix_met, with the heap's size at the start -/
theorem ix_met2 {l : Launch} {K : ix_Cx} {y : MethodName} {cc : ByteArray} {maxL : Nat} {ret : Option FieldType} {fr lo mc ms n : Nat} {av : List Value} {w w1 : ix_W} {rv : Option Value} (hm : ix_mf y cc maxL ret n) (hKp : ix_Kp K) (hle : (lg_sl av).length ≤ maxL)
    (body : ∀ (p : Program) (e : Env) (s : State) (m : MethodId) (args : Array Value) (below : List Frame) (meth : Method) (c : Code), meth.sig.returnType = ret → meth.locks = false → meth.name = y.name → s.heap.size + 0 = K.2.2.1 + ix_N w → ix_X p s m args c K cc y.cls maxL →
      ix_G p l e (ix_rm fr lo mc ms) s m args below meth c (MQ below (ix_Post K rv w1) args s mc ms (ix_A K)) K maxL 0 0 0 (lv_args 0 av) [] w) : ix_M l K y cc maxL ret fr lo mc ms av w rv w1 := by
  refine Met.ofW (cc := cc) (maxL := maxL) (ret := ret) hm.2.2.2.2 rfl ?_
  intro p e s m args below meth c s₁ B hml hv
  obtain ⟨rfl, hP, hz, hO⟩ := hv
  have hts := atoms_spec (ws := .code y cc maxL ret :: ix_tb) B.pre
  rw [lg_entry_eq]
  exact body p e s m _ below meth c B.returns B.notSynchronized (name_of_methodNamed B.named B.method).1 hz ⟨B.exec, B.bytes, hml, findClass_of_methodNamed B.named, fun w hw => hts w (List.mem_cons_of_mem _ hw), hO, by rw [hz]; exact Nat.le_add_right _ _, hKp⟩ s.heap [] _ hP hz va_S.rf (lv_entry av hle)
def ix_cpI (d : ix_D2) (src dst sp dp n : Nat) : ix_D2 := (fun a k => if a = dst ∧ dp ≤ k ∧ k < dp + n then d.1 src (sp + (k - dp)) else d.1 a k, d.2)
def ix_cpJ (d : ix_D2) (src dst sp dp n : Nat) : ix_D2 := (d.1, fun a k => if a = dst ∧ dp ≤ k ∧ k < dp + n then d.2 src (sp + (k - dp)) else d.2 a k)
/-- what a copy of cnt places asks -/
def ix_cpk (z : ix_Z) (t src : Nat) (sp : Int32) (dst : Nat) (dp cnt : Int32) : Prop := src < z.2.2 ∧ (z.2.1 src).1 = t ∧ dst < z.2.2 ∧ (z.2.1 dst).1 = t ∧ ¬ sp < 0 ∧ ¬ dp < 0 ∧ ¬ cnt < 0 ∧ ix_n sp + ix_n cnt ≤ (z.2.1 src).2 ∧ ix_n dp + ix_n cnt ≤ (z.2.1 dst).2
/-- a choice by a reference that may be null -/
def ix_on {α : Type} (r : Option Nat) (A : Option α) (B : Nat → Option α) : Option α := match r with
  | none => A
  | some b => B b
section IXB
variable {p : Program} {l : Launch} {e : Env} {R : Room} {s : State} {m : MethodId} {args : Array Value} {below : List Frame} {meth : Method} {c : Code} {Q : State → Prop} {K : ix_Cx} {nL k n : Nat} {cc : ByteArray} {own : String} {pc : Nat} {L : List (Nat × Value)} {S : List Value} {z : ix_Z} {d : ix_D2}
theorem ix_ge {w : ix_W} {H : Heap} (hP : va_P K.1 ix_cl (ix_ws K w) H) (hN : 0 < ix_N w) : K.2.2.1 + ix_N w ≤ H.size := by
  have h := (hP (ix_N w - 1) _ (ix_at (K := K) (w := w) (a := ix_N w - 1) (by omega))).lt
  have h2 : K.2.2.1 + (ix_N w - 1) < H.size := h
  omega
theorem iz_aald (X : ix_X p s m args c K cc own nL) {a t : Nat} {i : Int32} (ht : t = 24 ∨ t = 25) (hi : ix_ix z t a i) (hd : decode cc pc = .ok (.aaload, 1)) {pc1 : Nat} (hp : pc + 1 = pc1) (kk : ix_G p l e R s m args below meth c Q K nL k n pc1 L (ix_rv K (z.1 a (ix_n i)) :: S) (ix_w z d)) : ix_G p l e R s m args below meth c Q K nL k n pc L (.int i :: .ref (K.2.2.1 + a) :: S) (ix_w z d) := by
  subst hp
  intro H locs ls hP hz hS hl
  have hA := ix_aR (K := K) (w := ix_w z d) hi.1 hi.2.1 (by omega)
  have hlt : i.toNatClampNeg < (z.2.1 a).2 := Nat.not_le.mp fun q => hi.2.2 (Or.inr q)
  have hty : ∃ ty, (ix_tys K)[t - 20]? = some (K.2.1 (t - 20), ty) ∧ ty.isReference = true := by
    rcases ht with rfl | rfl
    · exact ⟨_, rfl, rfl⟩
    · exact ⟨_, rfl, rfl⟩
  obtain ⟨ty, hty, hrf⟩ := hty
  exact W.aald (v := ix_rv K (z.1 a (ix_n i))) (ty := ty) X.1 X.2.1 (hP a _ hA) ((X.2.2.2.2.2.1.1.2 _ _ hty).1 _ (fun j => va_rf ((z.1 a j).map (fun a => K.2.2.1 + a)))) hrf (fun q => by cases q) (by show ¬ (i < 0 ∨ (arrV _ _ _).slots.size ≤ _); rw [arrV_size]; exact hi.2.2) (arrV_read (K.2.1 (t - 20)) (fun j => va_rf ((z.1 a j).map (fun a => K.2.2.1 + a))) hlt) rfl rfl hd (kk H locs ls hP hz hS hl)
theorem ix_cset {w w1 : ix_W} {a t : Nat} {g : Nat → Int32} (ha : a < ix_N w) (ht : (ix_T w a).1 = t) (h1 : 20 ≤ t) (h2 : t < 23) (hN : ix_N w1 = ix_N w) (hT : ix_T w1 = ix_T w) (hJ : w1.2.1 = w.2.1) (hR : w1.2.2.1 = w.2.2.1) (hb : ∀ b, b ≠ a → w1.1 b = w.1 b) (hg : w1.1 a = g) : (ix_ws K w).set a (K.2.2.1 + a, .inl (K.2.1 (t - 20), ((ix_T w a).2, .inl g))) = ix_ws K w1 := by
  rw [← ix_set (w' := w1) ha hN (fun b hne => ix_e_congr (hb b hne) (by rw [hJ]) (by rw [hR]) (by rw [hT])), ix_ei (w := w1) (t := t) (n := (ix_T w a).2) (by rw [hT, ← ht]) h1]
  simp only [ix_c]
  rw [if_neg (by omega), if_pos h2, hg]
theorem ix_csetJ {w w1 : ix_W} {a : Nat} {g : Nat → Int64} (ha : a < ix_N w) (ht : (ix_T w a).1 = 23) (hN : ix_N w1 = ix_N w) (hT : ix_T w1 = ix_T w) (hI : w1.1 = w.1) (hR : w1.2.2.1 = w.2.2.1) (hb : ∀ b, b ≠ a → w1.2.1 b = w.2.1 b) (hg : w1.2.1 a = g) : (ix_ws K w).set a (K.2.2.1 + a, .inl (K.2.1 3, ((ix_T w a).2, .inr (.inl g)))) = ix_ws K w1 := by
  rw [← ix_set (w' := w1) ha hN (fun b hne => ix_e_congr (by rw [hI]) (hb b hne) (by rw [hR]) (by rw [hT])), ix_ei (w := w1) (t := 23) (n := (ix_T w a).2) (by rw [hT, ← ht]) (by decide)]
  rw [← hg]
  rfl
theorem iz_copyI (X : ix_X p s m args c K cc own nL) (hsz : s.heap.size + k = K.2.2.1 + z.2.2) {src dst idx pl t : Nat} {sp dp cnt : Int32} {d1 : ix_D2} (h20 : t = 20 ∨ t = 21 ∧ ∀ i, i < ix_n cnt → fits .byte (.int (d.1 src (ix_n sp + i))) = true) (hl0 : tables_1[pl]? = some (Cond.methodLink own idx arraycopyName)) (hk : ix_cpk z t src sp dst dp cnt) (hfr : 1 ≤ R.frames) (hlo : (S.map fun v => v.category).sum + 18 ≤ R.locals) (hd : decode cc pc = .ok (.invokestatic idx, 3)) (hw : d1 = ix_cpI d src dst (ix_n sp) (ix_n dp) (ix_n cnt)) {pc1 : Nat} (hp : pc + 3 = pc1)
    (kk : ix_G p l e R s m args below meth c Q K nL k n pc1 L S (ix_w z d1)) : ix_G p l e R s m args below meth c Q K nL k n pc L (.int cnt :: .int dp :: .ref (K.2.2.1 + dst) :: .int sp :: .ref (K.2.2.1 + src) :: S) (ix_w z d) := by
  subst hp
  subst hw
  intro H locs ls hP hz hS hl
  obtain ⟨g1, g2, g3, g4, g5, g6, g7, g8, g9⟩ := hk
  have h2 : 20 ≤ t ∧ t < 23 := by rcases h20 with h | ⟨h, -⟩ <;> omega
  have ha := ix_aI (K := K) (w := ix_w z d) g1 g2 h2.1 h2.2
  have hb := ix_aI (K := K) (w := ix_w z d) g3 g4 h2.1 h2.2
  have hty : ∃ ty, (ix_tys K)[t - 20]? = some (K.2.1 (t - 20), ty) ∧ refKind ty = false ∧ ∀ i, i < cnt.toNatClampNeg → fits ty (.int (d.1 src (sp.toNatClampNeg + i))) = true := by
    rcases h20 with rfl | ⟨rfl, h⟩
    · exact ⟨_, rfl, rfl, fun _ _ => rfl⟩
    · exact ⟨_, rfl, rfl, h⟩
  obtain ⟨ty, ht, hpr, hft⟩ := hty
  refine va_copyi X.1 X.2.1 (X.2.2.1.trans hl.1.symm) X.2.2.2.1 (X.2.2.2.2.1 _ (ix_tbm (ix_wm hl0) rfl)) (X.2.2.2.2.1 _ (ix_tbm (ix_wm (i := 442) (by decide +kernel)) rfl)) (X.2.2.2.2.1 _ (ix_tbm (ix_wm (i := 441) (by decide +kernel)) rfl)) (X.2.2.2.2.1 _ (ix_tbm (ix_wm (i := 9) (by decide +kernel)) rfl)) X.2.2.2.2.2.1.1 hP ix_D hS src dst (t - 20) (t - 20) ha hb ht ht hpr g5 g6 g7 g8 g9 hft hfr hlo hd (fun H1 locs1 hP1 hD1 hS1 => ?_)
  rw [ix_cset (w := ix_w z d) (w1 := ix_w z (ix_cpI d src dst (ix_n sp) (ix_n dp) (ix_n cnt))) g3 g4 h2.1 h2.2 rfl rfl rfl rfl (fun b hne => by funext k'; simp [ix_w, ix_cpI, hne]) (by funext k'; simp [ix_w, ix_cpI, va_cpy, ix_n])] at hP1
  intro T hT X2
  have e1 : H1.size ≤ s.heap.size + k := by rw [← hT]; exact X2.heapSize
  have e2 := ix_ge hP1 (Nat.lt_of_le_of_lt (Nat.zero_le _) g1)
  exact kk H1 locs1 ls hP1 (Nat.le_antisymm (by rw [hsz] at e1; exact e1) e2) hS1 hl T hT X2
theorem iz_copyJ (X : ix_X p s m args c K cc own nL) (hsz : s.heap.size + k = K.2.2.1 + z.2.2) {src dst idx pl : Nat} {sp dp cnt : Int32} {d1 : ix_D2} (hl0 : tables_1[pl]? = some (Cond.methodLink own idx arraycopyName)) (hk : ix_cpk z 23 src sp dst dp cnt) (hfr : 1 ≤ R.frames) (hlo : (S.map fun v => v.category).sum + 18 ≤ R.locals) (hd : decode cc pc = .ok (.invokestatic idx, 3)) (hw : d1 = ix_cpJ d src dst (ix_n sp) (ix_n dp) (ix_n cnt)) {pc1 : Nat} (hp : pc + 3 = pc1)
    (kk : ix_G p l e R s m args below meth c Q K nL k n pc1 L S (ix_w z d1)) : ix_G p l e R s m args below meth c Q K nL k n pc L (.int cnt :: .int dp :: .ref (K.2.2.1 + dst) :: .int sp :: .ref (K.2.2.1 + src) :: S) (ix_w z d) := by
  subst hp
  subst hw
  intro H locs ls hP hz hS hl
  obtain ⟨g1, g2, g3, g4, g5, g6, g7, g8, g9⟩ := hk
  have ha := ix_aJ (K := K) (w := ix_w z d) g1 g2
  have hb := ix_aJ (K := K) (w := ix_w z d) g3 g4
  refine va_copyl X.1 X.2.1 (X.2.2.1.trans hl.1.symm) X.2.2.2.1 (X.2.2.2.2.1 _ (ix_tbm (ix_wm hl0) rfl)) (X.2.2.2.2.1 _ (ix_tbm (ix_wm (i := 442) (by decide +kernel)) rfl)) (X.2.2.2.2.1 _ (ix_tbm (ix_wm (i := 441) (by decide +kernel)) rfl)) (X.2.2.2.2.1 _ (ix_tbm (ix_wm (i := 9) (by decide +kernel)) rfl)) X.2.2.2.2.2.1.1 hP ix_D hS src dst 3 3 ha hb rfl rfl rfl g5 g6 g7 g8 g9 (fun _ _ => rfl) hfr hlo hd (fun H1 locs1 hP1 hD1 hS1 => ?_)
  rw [ix_csetJ (w := ix_w z d) (w1 := ix_w z (ix_cpJ d src dst (ix_n sp) (ix_n dp) (ix_n cnt))) g3 g4 rfl rfl rfl rfl (fun b hne => by funext k'; simp [ix_w, ix_cpJ, hne]) (by funext k'; simp [ix_w, ix_cpJ, va_cpy, ix_n])] at hP1
  intro T hT X2
  have e1 : H1.size ≤ s.heap.size + k := by rw [← hT]; exact X2.heapSize
  have e2 := ix_ge hP1 (Nat.lt_of_le_of_lt (Nat.zero_le _) g1)
  exact kk H1 locs1 ls hP1 (Nat.le_antisymm (by rw [hsz] at e1; exact e1) e2) hS1 hl T hT X2
/-- invokevirtual of a method that the reference's class has from elsewhere, or that the receiver's class has anew -/
theorem ix_callU (X : ix_X p s m args c K cc own nL) {x y : MethodName} {owner C : String} {cc2 : ByteArray} {maxL idx N pl b ci : Nat} {ret : Option FieldType} {fr lo mc ms : Nat} {rv : Option Value} {w w1 : ix_W} {As rest : List Value} {T : u_T} {nf : Nat} (hm : ix_mf y cc2 maxL ret N) (hi : Cond.instanceMethod y ∈ lw_tbl) (hsl : Cond.selects C x y ∈ lw_tbl) (hsm : Cond.sameMethod x.cls owner x.name x.desc ∈ lw_tbl) (hdc : Cond.declares ⟨owner, x.name, x.desc⟩ ∈ lw_tbl ∨ Cond.instanceMethod ⟨owner, x.name, x.desc⟩ ∈ lw_tbl ∧ ∃ b0 m0 r0, Cond.code ⟨owner, x.name, x.desc⟩ b0 m0 r0 ∈ lw_tbl) (how : owner ≠ "java/lang/invoke/MethodHandle" ∧ owner ≠ "java/lang/invoke/VarHandle") (hxd : (parseMethodDescriptor x.desc).map (fun d => d.parameters.length) = some N)
    (hcl : ix_cl[ci]? = some (C, T, nf)) (hci : ci < 20) (hl : tables_1[pl]? = some (Cond.methodLink own idx x)) (hR : fr + 1 ≤ R.frames ∧ 8 + (maxL + 11) + lo ≤ R.locals) (hf : k + mc ≤ R.cells ∧ n + ms ≤ R.slots) (hN : As.length = N) (hrm : (rest.map fun v => v.category).sum ≤ 8) (hd : decode cc pc = .ok (.invokevirtual idx, 3)) (hb : b < ix_N w ∧ (ix_T w b).1 = ci) (hM : ix_M l K y cc2 maxL ret fr lo mc ms (.ref (K.2.2.1 + b) :: As) w rv w1)
    (hS : As.reverse ++ .ref (K.2.2.1 + b) :: rest = S) {pc1 : Nat} (hp : pc + 3 = pc1) (kk : ix_G p l e R s m args below meth c Q K nL (k + mc) (n + ms) pc1 L (rv.toList ++ rest) w1) : ix_G p l e R s m args below meth c Q K nL k n pc L S w := by
  subst hS
  refine ix_call0 (a := (Value.ref (K.2.2.1 + b) :: As).toArray) (fun H locs ls hP hz hS hls => ?_) hp kk
  have he : (ix_ws K w)[b]? = some (K.2.2.1 + b, .inr (ci, (List.range nf).map (fun k => ix_fv K w b (T k).2.2.1 k))) := by rw [ix_at hb.1, ix_eo hb.2 hci hcl]
  have hts := X.2.2.2.2.1
  have hD : va_Decl s ⟨owner, x.name, x.desc⟩ := by
    rcases hdc with h | ⟨h, b0, m0, r0, h2⟩
    · exact va_Decl.abs (X.2.2.2.2.2.1.2.1 _ (ix_ntm h rfl))
    · exact va_Decl.of (hts _ (ix_tbm h rfl)) (hts _ (ix_tbm h2 rfl))
  exact va_runU (C := C) (owner := owner) (x := x) ⟨X.1, X.2.1, X.2.2.1, X.2.2.2.1, hts⟩ hM ⟨⟨rfl, rfl, hR.1, hR.2, ix_words X hm.1, List.mem_cons_self⟩, hts _ (ix_tbm hm.1 rfl), hts _ (ix_tbm hm.2.1 rfl), how, (fun sig h => by rw [h] at hxd; exact (Option.some.inj hxd).symm), hts _ (ix_tbm (ix_wm hl) rfl), hts _ (ix_tbm hsm rfl), hD, hts _ (ix_tbm hsl rfl), hts _ (ix_tbm hi rfl)⟩ ⟨ix_blind X.2.2.2.2.2.2.2, va_recv X.2.2.2.2.2.1.1 hP hcl he, ix_pre X hP hz hS _⟩ rfl hN hls rfl (lv_room hrm) hd hf
/-- super.method(..) of the class just above -/
theorem ix_callSU (X : ix_X p s m args c K cc own nL) {y : MethodName} {C : String} {cc2 : ByteArray} {maxL idx N pl b ci : Nat} {ret : Option FieldType} {fr lo mc ms : Nat} {rv : Option Value} {w w1 : ix_W} {As rest : List Value} {T : u_T} {nf : Nat} (hm : ix_mf y cc2 maxL ret N) (hi : Cond.instanceMethod y ∈ lw_tbl) (hsm : Cond.sameMethod y.cls y.cls y.name y.desc ∈ lw_tbl) (hsu : Cond.superclass own y.cls ∈ lw_tbl) (hy : y.name ≠ "<init>")
    (hcl : ix_cl[ci]? = some (C, T, nf)) (hci : ci < 20) (hl : tables_1[pl]? = some (Cond.methodLink own idx y)) (hR : fr + 1 ≤ R.frames ∧ 8 + (maxL + 11) + lo ≤ R.locals) (hf : k + mc ≤ R.cells ∧ n + ms ≤ R.slots) (hN : As.length = N) (hrm : (rest.map fun v => v.category).sum ≤ 8) (hd : decode cc pc = .ok (.invokespecial idx, 3)) (hb : b < ix_N w ∧ (ix_T w b).1 = ci) (hM : ix_M l K y cc2 maxL ret fr lo mc ms (.ref (K.2.2.1 + b) :: As) w rv w1)
    (hS : As.reverse ++ .ref (K.2.2.1 + b) :: rest = S) {pc1 : Nat} (hp : pc + 3 = pc1) (kk : ix_G p l e R s m args below meth c Q K nL (k + mc) (n + ms) pc1 L (rv.toList ++ rest) w1) : ix_G p l e R s m args below meth c Q K nL k n pc L S w := by
  subst hS
  refine ix_call0 (a := (Value.ref (K.2.2.1 + b) :: As).toArray) (fun H locs ls hP hz hS hls => ?_) hp kk
  have he : (ix_ws K w)[b]? = some (K.2.2.1 + b, .inr (ci, (List.range nf).map (fun k => ix_fv K w b (T k).2.2.1 k))) := by rw [ix_at hb.1, ix_eo hb.2 hci hcl]
  have hts := X.2.2.2.2.1
  have hxd := hm.2.2.2.1
  exact va_runSU (C := C) (X.2.2.2.2.2.1.1.1 ci _ hcl).2 ⟨X.1, X.2.1, X.2.2.1, X.2.2.2.1, hts⟩ hM ⟨⟨rfl, rfl, hR.1, hR.2, ix_words X hm.1, List.mem_cons_self⟩, hts _ (ix_tbm (ix_wm hl) rfl), hts _ (ix_tbm hsm rfl), hts _ (ix_tbm hsu rfl), hts _ (ix_tbm hi rfl), hts _ (ix_tbm hm.2.1 rfl), hts _ (ix_tbm hm.1 rfl), hy, (fun sig h => by rw [h] at hxd; exact (Option.some.inj hxd).symm)⟩ ⟨ix_blind X.2.2.2.2.2.2.2, va_recv X.2.2.2.2.2.1.1 hP hcl he, ix_pre X hP hz hS _⟩ rfl hN hls rfl (lv_room hrm) hd hf
/-- Object.<init> -/
theorem ix_objI (X : ix_X p s m args c K cc own nL) {w : ix_W} {a idx pl : Nat} (hl : tables_1[pl]? = some (Cond.methodLink own idx Lib.objectInit)) (hfr : 1 ≤ R.frames) (hlo : (S.map fun v => v.category).sum + 12 ≤ R.locals) (hd : decode cc pc = .ok (.invokespecial idx, 3)) {pc1 : Nat} (hp : pc + 3 = pc1) (kk : ix_G p l e R s m args below meth c Q K nL k n pc1 L S w) : ix_G p l e R s m args below meth c Q K nL k n pc L (.ref a :: S) w := by
  subst hp
  intro H locs ls hP hz hS hl1
  exact W.objInit X.1 X.2.1 X.2.2.2.1 (X.2.2.2.2.1 _ (ix_tbm (ix_wm hl) rfl)) (X.2.2.2.2.1 _ (ix_tbm (ix_wm (i := 30) (by decide +kernel)) rfl)) (X.2.2.2.2.1 _ (ix_tbm (ix_wm (i := 31) (by decide +kernel)) rfl)) rfl (hl1.1.trans X.2.2.1.symm) rfl hd hfr (by show 2 * 0 + _ + _ ≤ _; omega) (kk H locs ls hP hz hS hl1)
/-- a new cell of kind t with len places -/
def ix_zn (z : ix_Z) (t len : Nat) : ix_Z := (fun a k => if a = z.2.2 then none else z.1 a k, fun a => if a = z.2.2 then (t, len) else z.2.1 a, z.2.2 + 1)
def ix_dn (d : ix_D2) (N : Nat) : ix_D2 := (fun a k => if a = N then 0 else d.1 a k, fun a k => if a = N then 0 else d.2 a k)
theorem ix_ws_al {t len : Nat} : ix_ws K (ix_w (ix_zn z t len) (ix_dn d z.2.2)) = ix_ws K (ix_w z d) ++ [(K.2.2.1 + z.2.2, ix_e K (ix_w (ix_zn z t len) (ix_dn d z.2.2)) z.2.2)] := by
  unfold ix_ws
  rw [show ix_N (ix_w (ix_zn z t len) (ix_dn d z.2.2)) = z.2.2 + 1 from rfl, show ix_N (ix_w z d) = z.2.2 from rfl, List.range_succ, List.map_append]
  congr 1
  apply List.map_congr_left
  intro a ha
  have hne : a ≠ z.2.2 := Nat.ne_of_lt (List.mem_range.mp ha)
  rw [ix_e_congr (w := ix_w z d) (w' := ix_w (ix_zn z t len) (ix_dn d z.2.2)) (by funext k'; simp [ix_w, ix_dn, hne]) (by funext k'; simp [ix_w, ix_dn, hne]) (by funext k'; simp [ix_w, ix_zn, hne]) (by simp [ix_T, ix_w, ix_zn, hne])]
end IXB
end
section
def ix_dv (d : String) : Value := if ix_ft d = 0 then .int 0 else if ix_ft d = 1 then .long 0 else .null
theorem ix_dvok : ∀ r ∈ ix_cl, ∀ k, k < r.2.2 → (parseFieldDescriptor (r.2.1 k).2.2.1).map defaultValue = some (ix_dv (r.2.1 k).2.2.1) := by decide +kernel
def ix_zr (z : ix_Z) (a k : Nat) (v : Option Nat) : ix_Z := (ix_up z.1 a k v, z.2)
theorem ix_r3 {α β γ : Type} {a a' : α} {b b' : β} {c c' : γ} {f : α → Option Value} {g : β → γ → ix_W} (h : some (a, b, c) = some (a', b', c')) : f a' = f a ∧ g b' c' = g b c := by
  cases h
  exact ⟨rfl, rfl⟩
theorem ix_r2v {β γ : Type} {b b' : β} {c c' : γ} {g : β → γ → ix_W} (h : some (b, c) = some (b', c')) : (none : Option Value) = none ∧ g b' c' = g b c := by
  cases h
  exact ⟨rfl, rfl⟩
def ix_bd3 {α β γ δ : Type} (a : Option (α × β × γ)) (k : α → β → γ → Option δ) : Option δ := a.bind (fun t => k t.1 t.2.1 t.2.2)
theorem ix_bd3_ex {α β γ δ : Type} {a : Option (α × β × γ)} {k : α → β → γ → Option δ} {r : δ} (h : ix_bd3 a k = some r) : ∃ x y z, a = some (x, y, z) ∧ k x y z = some r := by
  obtain ⟨⟨x, y, z⟩, h1, h2⟩ := Option.bind_eq_some_iff.mp h
  exact ⟨x, y, z, h1, h2⟩
theorem ix_c20 {K : ix_Cx} {w : ix_W} {a : Nat} : ix_c K w a 20 = .inl (w.1 a) := by simp [ix_c]
theorem ix_c21 {K : ix_Cx} {w : ix_W} {a : Nat} : ix_c K w a 21 = .inl (w.1 a) := by simp [ix_c]
theorem ix_c22 {K : ix_Cx} {w : ix_W} {a : Nat} : ix_c K w a 22 = .inl (w.1 a) := by simp [ix_c]
theorem ix_c23 {K : ix_Cx} {w : ix_W} {a : Nat} : ix_c K w a 23 = .inr (.inl (w.2.1 a)) := by simp [ix_c]
theorem ix_c24 {K : ix_Cx} {w : ix_W} {a : Nat} : ix_c K w a 24 = .inr (.inr (.inr (.inr (fun i => (w.2.2.1 a i).map (fun a => K.2.2.1 + a))))) := by simp [ix_c]
theorem ix_c25 {K : ix_Cx} {w : ix_W} {a : Nat} : ix_c K w a 25 = .inr (.inr (.inr (.inr (fun i => (w.2.2.1 a i).map (fun a => K.2.2.1 + a))))) := by simp [ix_c]
section IXA
variable {p : Program} {l : Launch} {e : Env} {R : Room} {s : State} {m : MethodId} {args : Array Value} {below : List Frame} {meth : Method} {c : Code} {Q : State → Prop} {K : ix_Cx} {nL k n : Nat} {cc : ByteArray} {own : String} {pc : Nat} {L : List (Nat × Value)} {S : List Value} {z : ix_Z} {d : ix_D2}
theorem ix_grow {H H1 : Heap} {t len : Nat} (hP : va_P K.1 ix_cl (ix_ws K (ix_w z d)) H) (hz : H.size = K.2.2.1 + z.2.2) (o1 : ∀ q, q < H.size → H1[q]? = H[q]?) (he : va_at K.1 ix_cl (K.2.2.1 + z.2.2, ix_e K (ix_w (ix_zn z t len) (ix_dn d z.2.2)) z.2.2) H1) : va_P K.1 ix_cl (ix_ws K (ix_w (ix_zn z t len) (ix_dn d z.2.2))) H1 := by
  rw [ix_ws_al]
  refine (hP.kept (fun k x hx => o1 x.1 ((hP k x hx).lt))).app (fun k x hx => ?_)
  have hk : k < 1 := (List.getElem?_eq_some_iff.mp hx).1
  rw [show k = 0 by omega] at hx
  cases hx
  exact he
theorem ix_S_grow {H H1 : Heap} {locs : List Loc} (hS : va_S (ix_A K) s.heap H locs) (z1 : H1.size = H.size + 1) (o1 : ∀ q, q < H.size → H1[q]? = H[q]?) : va_S (ix_A K) s.heap H1 locs :=
  ⟨Nat.le_trans hS.1 (by omega), fun x h1 h2 => (o1 x (Nat.lt_of_lt_of_le h1 hS.1)).trans (hS.2.1 x h1 h2), hS.2.2⟩
theorem iz_new (X : ix_X p s m args c K cc own nL) {ci idx pl pi pj N : Nat} {C : String} {T : u_T} {z1 : ix_Z} {d1 : ix_D2} (hcl : ix_cl[ci]? = some (C, T, N)) (hci : ci < 20) (h1 : tables_1[pl]? = some (Cond.classLink own idx C)) (h2 : tables_1[pi]? = some (Cond.instantiable C N)) (h3 : tables_1[pj]? = some (Cond.initialized C)) (hc : k + 1 ≤ R.cells) (hs : n + N ≤ R.slots) (hd : decode cc pc = .ok (.new idx, 3)) (hz1 : z1 = ix_zn z ci N) (hd1 : d1 = ix_dn d z.2.2) {pc1 : Nat} (hp : pc + 3 = pc1)
    (kk : ix_G p l e R s m args below meth c Q K nL (k + 1) (n + N) pc1 L (.ref (K.2.2.1 + z.2.2) :: S) (ix_w z1 d1)) : ix_G p l e R s m args below meth c Q K nL k n pc L S (ix_w z d) := by
  subst hp
  subst hz1
  subst hd1
  intro H locs ls hP hz hS hl
  obtain ⟨hx, hb, hml, hown, hts, hO, hN0, hKp⟩ := X
  have hKn := hO.1.1 ci _ hcl
  have hrm := List.mem_of_getElem? hcl
  have hin : ∀ w ∈ u_ws C T N, w ∈ ix_tb := fun w hw => ix_tbm (ix_in _ hrm w hw).1 (ix_in _ hrm w hw).2
  obtain ⟨ty, hty⟩ := ix_ty _ hrm
  have hz' : H.size = K.2.2.1 + z.2.2 := hz
  refine W.newcK hx hb hown (hts _ (ix_tbm (ix_wm h1) rfl)) (hts _ (ix_tbm (ix_wm h2) rfl)) (hts _ (ix_tbm (ix_wm h3) rfl)) rfl hd hc hs hKn.2.1 hz' fun H1 kC hkC e1 zz o1 => ?_
  refine kk H1 locs ls (ix_grow hP hz' (fun q hq => o1 q (hz' ▸ hq)) ?_) (zz.trans rfl) (ix_S_grow hS (by rw [hz']; exact zz) (fun q hq => o1 q (hz' ▸ hq))) hl
  rw [ix_eo (ci := ci) (by simp [ix_T, ix_w, ix_zn]) hci hcl]
  refine ⟨_, hcl, (u_born ty hts hin hKn hkC e1 hty).to (fun j hj => ?_)⟩
  have h5 := ix_dvok _ hrm j hj
  have h6 := hty j hj
  rw [h6] at h5
  have h7 : defaultValue (ty j) = ix_dv (T j).2.2.1 := Option.some.inj h5
  rw [h7]
  simp only [vp_V, List.getD_eq_getElem?_getD, List.getElem?_map, List.getElem?_range hj, Option.map_some, Option.getD_some]
  simp [ix_dv, ix_fv, ix_w, ix_zn, ix_dn, ix_rv, va_rf]
theorem iz_newa_int (X : ix_X p s m args c K cc own nL) {len : Int32} {pl : Nat} {z1 : ix_Z} {d1 : ix_D2} (h1 : tables_1[pl]? = some (Cond.arrayClass .int)) (hn : ¬ len < 0) (hB : ix_n len ≤ 60000) (hc : k + 1 ≤ R.cells) (hs : n + ix_n len ≤ R.slots) (hd : decode cc pc = .ok (.newarray .int, 2)) (hz1 : z1 = ix_zn z 20 (ix_n len)) (hd1 : d1 = ix_dn d z.2.2) {pc1 : Nat} (hp : pc + 2 = pc1)
    (kk : ix_G p l e R s m args below meth c Q K nL (k + 1) (n + ix_n len) pc1 L (.ref (K.2.2.1 + z.2.2) :: S) (ix_w z1 d1)) : ix_G p l e R s m args below meth c Q K nL k n pc L (.int len :: S) (ix_w z d) := by
  subst hp
  subst hz1
  subst hd1
  intro H locs ls hP hz hS hl
  obtain ⟨hx, hb, hml, hown, hts, hO, hN0, hKp⟩ := X
  have hz' : H.size = K.2.2.1 + z.2.2 := hz
  refine va_newaK hx hb (atype := .int) (hts _ (ix_tbm (ix_wm h1) rfl)) rfl hd rfl hn rfl (by show ix_n len * _ ≤ _; simp only [newarray.typeOf, componentBytes]; omega) hc hs hz' fun H1 cA e1 zz o1 hAr hNm => ?_
  have hcA : K.2.1 0 = cA := by
    have h := (hO.1.2 0 _ rfl).2
    exact Option.some.inj (Eq.trans (Eq.symm h) hNm)
  refine kk H1 locs ls (ix_grow hP hz' (fun q hq => o1 q (hz' ▸ hq)) ?_) (zz.trans rfl) (ix_S_grow hS (by rw [hz']; exact zz) (fun q hq => o1 q (hz' ▸ hq))) hl
  rw [ix_ei (t := 20) (n := ix_n len) (by simp [ix_T, ix_w, ix_zn]) (by decide)]
  show H1[K.2.2.1 + z.2.2]? = some (vp_cell (K.2.1 0) (ix_n len, ix_c K (ix_w (ix_zn z 20 (ix_n len)) (ix_dn d z.2.2)) z.2.2 20))
  rw [e1, hcA, ix_c20, vp_cell_i]
  congr 1
  show arrV cA (ix_n len) _ = arrV cA (ix_n len) _
  congr 1
  funext j
  show defaultValue .int = _
  simp [ix_w, ix_dn, defaultValue]
theorem iz_newa_byte (X : ix_X p s m args c K cc own nL) {len : Int32} {pl : Nat} {z1 : ix_Z} {d1 : ix_D2} (h1 : tables_1[pl]? = some (Cond.arrayClass .byte)) (hn : ¬ len < 0) (hB : ix_n len ≤ 60000) (hc : k + 1 ≤ R.cells) (hs : n + ix_n len ≤ R.slots) (hd : decode cc pc = .ok (.newarray .byte, 2)) (hz1 : z1 = ix_zn z 21 (ix_n len)) (hd1 : d1 = ix_dn d z.2.2) {pc1 : Nat} (hp : pc + 2 = pc1)
    (kk : ix_G p l e R s m args below meth c Q K nL (k + 1) (n + ix_n len) pc1 L (.ref (K.2.2.1 + z.2.2) :: S) (ix_w z1 d1)) : ix_G p l e R s m args below meth c Q K nL k n pc L (.int len :: S) (ix_w z d) := by
  subst hp
  subst hz1
  subst hd1
  intro H locs ls hP hz hS hl
  obtain ⟨hx, hb, hml, hown, hts, hO, hN0, hKp⟩ := X
  have hz' : H.size = K.2.2.1 + z.2.2 := hz
  refine va_newaK hx hb (atype := .byte) (hts _ (ix_tbm (ix_wm h1) rfl)) rfl hd rfl hn rfl (by show ix_n len * _ ≤ _; simp only [newarray.typeOf, componentBytes]; omega) hc hs hz' fun H1 cA e1 zz o1 hAr hNm => ?_
  have hcA : K.2.1 1 = cA := by
    have h := (hO.1.2 1 _ rfl).2
    exact Option.some.inj (Eq.trans (Eq.symm h) hNm)
  refine kk H1 locs ls (ix_grow hP hz' (fun q hq => o1 q (hz' ▸ hq)) ?_) (zz.trans rfl) (ix_S_grow hS (by rw [hz']; exact zz) (fun q hq => o1 q (hz' ▸ hq))) hl
  rw [ix_ei (t := 21) (n := ix_n len) (by simp [ix_T, ix_w, ix_zn]) (by decide)]
  show H1[K.2.2.1 + z.2.2]? = some (vp_cell (K.2.1 1) (ix_n len, ix_c K (ix_w (ix_zn z 21 (ix_n len)) (ix_dn d z.2.2)) z.2.2 21))
  rw [e1, hcA, ix_c21, vp_cell_i]
  congr 1
  show arrV cA (ix_n len) _ = arrV cA (ix_n len) _
  congr 1
  funext j
  show defaultValue .byte = _
  simp [ix_w, ix_dn, defaultValue]
theorem iz_newa_boolean (X : ix_X p s m args c K cc own nL) {len : Int32} {pl : Nat} {z1 : ix_Z} {d1 : ix_D2} (h1 : tables_1[pl]? = some (Cond.arrayClass .boolean)) (hn : ¬ len < 0) (hB : ix_n len ≤ 60000) (hc : k + 1 ≤ R.cells) (hs : n + ix_n len ≤ R.slots) (hd : decode cc pc = .ok (.newarray .boolean, 2)) (hz1 : z1 = ix_zn z 22 (ix_n len)) (hd1 : d1 = ix_dn d z.2.2) {pc1 : Nat} (hp : pc + 2 = pc1)
    (kk : ix_G p l e R s m args below meth c Q K nL (k + 1) (n + ix_n len) pc1 L (.ref (K.2.2.1 + z.2.2) :: S) (ix_w z1 d1)) : ix_G p l e R s m args below meth c Q K nL k n pc L (.int len :: S) (ix_w z d) := by
  subst hp
  subst hz1
  subst hd1
  intro H locs ls hP hz hS hl
  obtain ⟨hx, hb, hml, hown, hts, hO, hN0, hKp⟩ := X
  have hz' : H.size = K.2.2.1 + z.2.2 := hz
  refine va_newaK hx hb (atype := .boolean) (hts _ (ix_tbm (ix_wm h1) rfl)) rfl hd rfl hn rfl (by show ix_n len * _ ≤ _; simp only [newarray.typeOf, componentBytes]; omega) hc hs hz' fun H1 cA e1 zz o1 hAr hNm => ?_
  have hcA : K.2.1 2 = cA := by
    have h := (hO.1.2 2 _ rfl).2
    exact Option.some.inj (Eq.trans (Eq.symm h) hNm)
  refine kk H1 locs ls (ix_grow hP hz' (fun q hq => o1 q (hz' ▸ hq)) ?_) (zz.trans rfl) (ix_S_grow hS (by rw [hz']; exact zz) (fun q hq => o1 q (hz' ▸ hq))) hl
  rw [ix_ei (t := 22) (n := ix_n len) (by simp [ix_T, ix_w, ix_zn]) (by decide)]
  show H1[K.2.2.1 + z.2.2]? = some (vp_cell (K.2.1 2) (ix_n len, ix_c K (ix_w (ix_zn z 22 (ix_n len)) (ix_dn d z.2.2)) z.2.2 22))
  rw [e1, hcA, ix_c22, vp_cell_i]
  congr 1
  show arrV cA (ix_n len) _ = arrV cA (ix_n len) _
  congr 1
  funext j
  show defaultValue .boolean = _
  simp [ix_w, ix_dn, defaultValue]
theorem iz_newa_long (X : ix_X p s m args c K cc own nL) {len : Int32} {pl : Nat} {z1 : ix_Z} {d1 : ix_D2} (h1 : tables_1[pl]? = some (Cond.arrayClass .long)) (hn : ¬ len < 0) (hB : ix_n len ≤ 60000) (hc : k + 1 ≤ R.cells) (hs : n + ix_n len ≤ R.slots) (hd : decode cc pc = .ok (.newarray .long, 2)) (hz1 : z1 = ix_zn z 23 (ix_n len)) (hd1 : d1 = ix_dn d z.2.2) {pc1 : Nat} (hp : pc + 2 = pc1)
    (kk : ix_G p l e R s m args below meth c Q K nL (k + 1) (n + ix_n len) pc1 L (.ref (K.2.2.1 + z.2.2) :: S) (ix_w z1 d1)) : ix_G p l e R s m args below meth c Q K nL k n pc L (.int len :: S) (ix_w z d) := by
  subst hp
  subst hz1
  subst hd1
  intro H locs ls hP hz hS hl
  obtain ⟨hx, hb, hml, hown, hts, hO, hN0, hKp⟩ := X
  have hz' : H.size = K.2.2.1 + z.2.2 := hz
  refine va_newaK hx hb (atype := .long) (hts _ (ix_tbm (ix_wm h1) rfl)) rfl hd rfl hn rfl (by show ix_n len * _ ≤ _; simp only [newarray.typeOf, componentBytes]; omega) hc hs hz' fun H1 cA e1 zz o1 hAr hNm => ?_
  have hcA : K.2.1 3 = cA := by
    have h := (hO.1.2 3 _ rfl).2
    exact Option.some.inj (Eq.trans (Eq.symm h) hNm)
  refine kk H1 locs ls (ix_grow hP hz' (fun q hq => o1 q (hz' ▸ hq)) ?_) (zz.trans rfl) (ix_S_grow hS (by rw [hz']; exact zz) (fun q hq => o1 q (hz' ▸ hq))) hl
  rw [ix_ei (t := 23) (n := ix_n len) (by simp [ix_T, ix_w, ix_zn]) (by decide)]
  show H1[K.2.2.1 + z.2.2]? = some (vp_cell (K.2.1 3) (ix_n len, ix_c K (ix_w (ix_zn z 23 (ix_n len)) (ix_dn d z.2.2)) z.2.2 23))
  rw [e1, hcA, ix_c23, vp_cell_l]
  congr 1
  show arrV cA (ix_n len) _ = arrV cA (ix_n len) _
  congr 1
  funext j
  show defaultValue .long = _
  simp [ix_w, ix_dn, defaultValue]
theorem iz_anew (X : ix_X p s m args c K cc own nL) {len : Int32} {pl pq idx : Nat} {z1 : ix_Z} {d1 : ix_D2} (h1 : tables_1[pl]? = some (Cond.classLink own idx RX8)) (h2 : va_AO RX8 s) (hn : ¬ len < 0) (hB : ix_n len ≤ 60000) (hc : k + 1 ≤ R.cells) (hs : n + ix_n len ≤ R.slots) (hd : decode cc pc = .ok (.anewarray idx, 3)) (hz1 : z1 = ix_zn z 24 (ix_n len)) (hd1 : d1 = ix_dn d z.2.2) {pc1 : Nat} (hp : pc + 3 = pc1)
    (kk : ix_G p l e R s m args below meth c Q K nL (k + 1) (n + ix_n len) pc1 L (.ref (K.2.2.1 + z.2.2) :: S) (ix_w z1 d1)) : ix_G p l e R s m args below meth c Q K nL k n pc L (.int len :: S) (ix_w z d) := by
  subst hp
  subst hz1
  subst hd1
  intro H locs ls hP hz hS hl
  obtain ⟨hx, hb, hml, hown, hts, hO, hN0, hKp⟩ := X
  have hz' : H.size = K.2.2.1 + z.2.2 := hz
  refine W.anew hx hb hown (hts _ (ix_tbm (ix_wm h1) rfl)) (va_AO.use h2) rfl hd rfl hn (by show ix_n len * 4 ≤ _; omega) hc hs fun cA kA comp f1 f2 f3 f4 => ?_
  have hcA : K.2.1 4 = cA := by
    obtain ⟨-, -, -, -, -, h⟩ := (hO.1.2 4 _ rfl).2
    exact Option.some.inj (Eq.trans (Eq.symm h) f1)
  have e1 : (H.push ({ cls := cA, slots := Array.replicate len.toNatClampNeg .null, vm := .none } : Cell))[K.2.2.1 + z.2.2]? = some (arrV cA (ix_n len) (fun _ => .null)) := by
    rw [← hz', Array.getElem?_push_size]
    congr 1
    exact (arrV_new cA _ _)
  have zz : (H.push ({ cls := cA, slots := Array.replicate len.toNatClampNeg .null, vm := .none } : Cell)).size = H.size + 1 := by simp
  have o1 : ∀ q, q < H.size → (H.push ({ cls := cA, slots := Array.replicate len.toNatClampNeg .null, vm := .none } : Cell))[q]? = H[q]? := fun q hq => by
    rw [Array.getElem?_push, if_neg (by omega)]
  rw [hz']
  refine kk _ locs ls (ix_grow hP hz' o1 ?_) (zz.trans (by rw [hz']; rfl)) (ix_S_grow hS zz o1) hl
  rw [ix_ei (t := 24) (n := ix_n len) (by simp [ix_T, ix_w, ix_zn]) (by decide)]
  show _ = some (vp_cell (K.2.1 4) (ix_n len, ix_c K (ix_w (ix_zn z 24 (ix_n len)) (ix_dn d z.2.2)) z.2.2 24))
  rw [e1, hcA, ix_c24, vp_cell_q]
  congr 1
  show arrV cA (ix_n len) _ = arrV cA (ix_n len) _
  congr 1
  funext j
  simp [ix_w, ix_zn, va_rf]
theorem ix_wR {a kf : Nat} {v : Option Nat} {z1 : ix_Z} (h : z1 = ix_zr z a kf v) : ix_sR (ix_w z d) a kf v = ix_w z1 d := by
  subst h
  rfl
theorem iz_putR (X : ix_X p s m args c K cc own nL) {pl ps : Nat} {nest fin : Bool} {a idx kf b : Nat} {ref ds : String} {cs : List Nat} {z1 : ix_Z} (hf : ix_fpb pl ps nest own idx ref cs kf ds fin = true) (hfi : fin = true → nest = false ∧ meth.name = "<init>") (hc : ix_ok z cs a) {ty : FieldType} (hty : parseFieldDescriptor ds = some ty) (hft : ix_ft ds = 2) (hrt : (∃ n, ty = .object n) ∨ ∃ t, ty = .array t) (hd : decode cc pc = .ok (.putfield idx, 3)) (hw : z1 = ix_zr z a kf (some b)) {pc1 : Nat} (hp : pc + 3 = pc1)
    (kk : ix_G p l e R s m args below meth c Q K nL k n pc1 L S (ix_w z1 d)) : ix_G p l e R s m args below meth c Q K nL k n pc L (.ref (K.2.2.1 + b) :: .ref (K.2.2.1 + a) :: S) (ix_w z d) :=
  ix_putR X hf hfi hc hd hty hft (by rcases hrt with ⟨_, rfl⟩ | ⟨_, rfl⟩ <;> rfl) (by rcases hrt with ⟨_, rfl⟩ | ⟨_, rfl⟩ <;> rfl) (ix_wR hw) hp kk
theorem iz_putIF (X : ix_X p s m args c K cc own nL) {pl ps : Nat} {a idx kf : Nat} {ref : String} {cs : List Nat} {x : Int32} {d1 : ix_D2} (hf : ix_fpb pl ps false own idx ref cs kf "I" true = true) (hin : meth.name = "<init>") (hc : ix_ok z cs a) (hd : decode cc pc = .ok (.putfield idx, 3)) (hw : d1 = ix_di d a kf x) {pc1 : Nat} (hp : pc + 3 = pc1) (kk : ix_G p l e R s m args below meth c Q K nL k n pc1 L S (ix_w z d1)) : ix_G p l e R s m args below meth c Q K nL k n pc L (.int x :: .ref (K.2.2.1 + a) :: S) (ix_w z d) := ix_putI X hf (fun _ => ⟨rfl, hin⟩) hc hd (ix_wI hw) hp kk
theorem iz_putZF (X : ix_X p s m args c K cc own nL) {pl ps : Nat} {a idx kf : Nat} {ref : String} {cs : List Nat} {x : Int32} {d1 : ix_D2} (hf : ix_fpb pl ps false own idx ref cs kf "Z" true = true) (hin : meth.name = "<init>") (hc : ix_ok z cs a) (hd : decode cc pc = .ok (.putfield idx, 3)) (hz : x = 0 ∨ x = 1) (hw : d1 = ix_di d a kf x) {pc1 : Nat} (hp : pc + 3 = pc1) (kk : ix_G p l e R s m args below meth c Q K nL k n pc1 L S (ix_w z d1)) : ix_G p l e R s m args below meth c Q K nL k n pc L (.int x :: .ref (K.2.2.1 + a) :: S) (ix_w z d) := ix_putZ X hf (fun _ => ⟨rfl, hin⟩) hc hd hz (ix_wI hw) hp kk
end IXA
end
section
/-! WHAT ELSE IS KNOWN OF THE START: array classes, casts that fail -/
def ix_ncl : List (String × String) := [(RX6, RX3), (RX3, RX0), (RX6, RX0), (RX10, RX0), (RX3, RX5), (RX0, RX5), (RX6, RX5), (RX10, RX5), (RX3, RX6), (RX0, RX6), (RX5, RX6), (RX10, RX6), (RX3, RX10), (RX0, RX10), (RX5, RX10), (RX6, RX10)]
def ix_F (U : State) : Prop := va_AO RX8 U ∧ (∀ q ∈ ix_ncl, va_Nc q.1 q.2 U) ∧ (Cond.arrayOver (.array .int)).before #[] U = true
def ix_Fc (K : ix_Cx) : Prop := ∀ U : State, K.2.2.2 U → ix_F U
theorem ix_on_n {α : Type} {A : Option α} {B : Nat → Option α} {r : α} (h : ix_on none A B = some r) : A = some r := h
theorem ix_on_s {α : Type} {A : Option α} {B : Nat → Option α} {b : Nat} {r : α} (h : ix_on (some b) A B = some r) : B b = some r := h
section IXI
variable {p : Program} {l : Launch} {e : Env} {R : Room} {s : State} {m : MethodId} {args : Array Value} {below : List Frame} {meth : Method} {c : Code} {Q : State → Prop} {K : ix_Cx} {nL k n : Nat} {cc : ByteArray} {own : String} {pc : Nat} {L : List (Nat × Value)} {S : List Value} {z : ix_Z} {d : ix_D2} {w : ix_W}
theorem ix_rvs {r : Option Nat} {b : Nat} (h : r = some b) (kk : ix_G p l e R s m args below meth c Q K nL k n pc L (.ref (K.2.2.1 + b) :: S) w) : ix_G p l e R s m args below meth c Q K nL k n pc L (ix_rv K r :: S) w := by
  subst h
  exact kk
theorem ix_rvn {r : Option Nat} (h : r = none) (kk : ix_G p l e R s m args below meth c Q K nL k n pc L (.null :: S) w) : ix_G p l e R s m args below meth c Q K nL k n pc L (ix_rv K r :: S) w := by
  subst h
  exact kk
/-- instanceof: the receiver's class ci has the name C; T is above it, or C itself, or not -/
theorem ix_inY (X : ix_X p s m args c K cc own nL) {a ci idx pl nf : Nat} {C T : String} {TT : u_T} (hcl : ix_cl[ci]? = some (C, TT, nf)) (hci : ci < 20) (h1 : tables_1[pl]? = some (Cond.classLink own idx T)) (h2 : Cond.castable C T ∈ lw_tbl) (ha : a < ix_N w ∧ (ix_T w a).1 = ci) (hd : decode cc pc = .ok (.instanceof idx, 3)) {pc1 : Nat} (hp : pc + 3 = pc1) (kk : ix_G p l e R s m args below meth c Q K nL k n pc1 L (.int 1 :: S) w) : ix_G p l e R s m args below meth c Q K nL k n pc L (.ref (K.2.2.1 + a) :: S) w := by
  subst hp
  intro H locs ls hP hz hS hl
  have he : (ix_ws K w)[a]? = some (K.2.2.1 + a, .inr (ci, (List.range nf).map (fun k => ix_fv K w a (TT k).2.2.1 k))) := by rw [ix_at ha.1, ix_eo ha.2 hci hcl]
  exact va_instY X.1 X.2.1 X.2.2.2.1 (X.2.2.2.2.1 _ (ix_tbm (ix_wm h1) rfl)) (X.2.2.2.2.2.1.2.1 _ (ix_ntm h2 rfl)) (va_recv X.2.2.2.2.2.1.1 hP hcl he) hd (kk H locs ls hP hz hS hl)
theorem ix_inN (X : ix_X p s m args c K cc own nL) (hF : ix_Fc K) {a ci idx pl nf : Nat} {C T : String} {TT : u_T} (hcl : ix_cl[ci]? = some (C, TT, nf)) (hci : ci < 20) (h1 : tables_1[pl]? = some (Cond.classLink own idx T)) (h2 : (C, T) ∈ ix_ncl) (ha : a < ix_N w ∧ (ix_T w a).1 = ci) (hd : decode cc pc = .ok (.instanceof idx, 3)) {pc1 : Nat} (hp : pc + 3 = pc1) (kk : ix_G p l e R s m args below meth c Q K nL k n pc1 L (.int 0 :: S) w) : ix_G p l e R s m args below meth c Q K nL k n pc L (.ref (K.2.2.1 + a) :: S) w := by
  subst hp
  intro H locs ls hP hz hS hl
  have he : (ix_ws K w)[a]? = some (K.2.2.1 + a, .inr (ci, (List.range nf).map (fun k => ix_fv K w a (TT k).2.2.1 k))) := by rw [ix_at ha.1, ix_eo ha.2 hci hcl]
  exact va_instNo X.1 X.2.1 X.2.2.2.1 (X.2.2.2.2.1 _ (ix_tbm (ix_wm h1) rfl)) ((hF s X.2.2.2.2.2.1.2.2).2.1 _ h2) (va_recv X.2.2.2.2.2.1.1 hP hcl he) hd (kk H locs ls hP hz hS hl)
end IXI
end
section
/-! Math's four, as rows -/
def ix_abs (x : Int32) : Int32 := if 0 ≤ x then x else 0 - x
def ix_min (x y : Int32) : Int32 := if y < x then y else x
def ix_max (x y : Int32) : Int32 := if x < y then y else x
def ix_maxl (x y : Int64) : Int64 := if y < x then x else y
section IXJ
variable {p : Program} {l : Launch} {e : Env} {R : Room} {s : State} {m : MethodId} {args : Array Value} {below : List Frame} {meth : Method} {c : Code} {Q : State → Prop} {K : ix_Cx} {nL k n : Nat} {cc : ByteArray} {own : String} {pc : Nat} {L : List (Nat × Value)} {S : List Value} {w : ix_W}
theorem ix_mabs (X : ix_X p s m args c K cc own nL) {idx pl : Nat} {x : Int32} (hl : tables_1[pl]? = some (Cond.methodLink own idx Lib.Math.abs.name)) (hfr : 1 ≤ R.frames) (hlo : (S.map fun v => v.category).sum + 13 ≤ R.locals) (hf : k ≤ R.cells ∧ n ≤ R.slots) (hd : decode cc pc = .ok (.invokestatic idx, 3)) {pc1 : Nat} (hp : pc + 3 = pc1) (kk : ix_G p l e R s m args below meth c Q K nL k n pc1 L (.int (ix_abs x) :: S) w) : ix_G p l e R s m args below meth c Q K nL k n pc L (.int x :: S) w := by
  subst hp
  intro H locs ls hP hz hS hl1
  exact va_mabs X.1 X.2.1 (X.2.2.1.trans hl1.1.symm) X.2.2.2.1 (X.2.2.2.2.1 _ (ix_tbm (ix_wm hl) rfl)) (X.2.2.2.2.1 _ (ix_tbm (ix_wm (i := 480) (by decide +kernel)) rfl)) (X.2.2.2.2.1 _ (ix_tbm (ix_wm (i := 10) (by decide +kernel)) rfl)) (X.2.2.2.2.1 _ (ix_tbm (ix_wm (i := 481) (by decide +kernel)) rfl)) hfr hlo hf.1 hf.2 hd (kk H locs ls hP hz hS hl1)
theorem ix_mmin (X : ix_X p s m args c K cc own nL) {idx pl : Nat} {x y : Int32} (hl : tables_1[pl]? = some (Cond.methodLink own idx Lib.Math.min.name)) (hfr : 1 ≤ R.frames) (hlo : (S.map fun v => v.category).sum + 13 ≤ R.locals) (hf : k ≤ R.cells ∧ n ≤ R.slots) (hd : decode cc pc = .ok (.invokestatic idx, 3)) {pc1 : Nat} (hp : pc + 3 = pc1) (kk : ix_G p l e R s m args below meth c Q K nL k n pc1 L (.int (ix_min x y) :: S) w) : ix_G p l e R s m args below meth c Q K nL k n pc L (.int y :: .int x :: S) w := by
  subst hp
  intro H locs ls hP hz hS hl1
  exact va_mmin X.1 X.2.1 (X.2.2.1.trans hl1.1.symm) X.2.2.2.1 (X.2.2.2.2.1 _ (ix_tbm (ix_wm hl) rfl)) (X.2.2.2.2.1 _ (ix_tbm (ix_wm (i := 499) (by decide +kernel)) rfl)) (X.2.2.2.2.1 _ (ix_tbm (ix_wm (i := 10) (by decide +kernel)) rfl)) (X.2.2.2.2.1 _ (ix_tbm (ix_wm (i := 500) (by decide +kernel)) rfl)) hfr hlo hf.1 hf.2 hd (kk H locs ls hP hz hS hl1)
theorem ix_mmax (X : ix_X p s m args c K cc own nL) {idx pl : Nat} {x y : Int32} (hl : tables_1[pl]? = some (Cond.methodLink own idx Lib.Math.max.name)) (hfr : 1 ≤ R.frames) (hlo : (S.map fun v => v.category).sum + 13 ≤ R.locals) (hf : k ≤ R.cells ∧ n ≤ R.slots) (hd : decode cc pc = .ok (.invokestatic idx, 3)) {pc1 : Nat} (hp : pc + 3 = pc1) (kk : ix_G p l e R s m args below meth c Q K nL k n pc1 L (.int (ix_max x y) :: S) w) : ix_G p l e R s m args below meth c Q K nL k n pc L (.int y :: .int x :: S) w := by
  subst hp
  intro H locs ls hP hz hS hl1
  exact va_mmax X.1 X.2.1 (X.2.2.1.trans hl1.1.symm) X.2.2.2.1 (X.2.2.2.2.1 _ (ix_tbm (ix_wm hl) rfl)) (X.2.2.2.2.1 _ (ix_tbm (ix_wm (i := 596) (by decide +kernel)) rfl)) (X.2.2.2.2.1 _ (ix_tbm (ix_wm (i := 10) (by decide +kernel)) rfl)) (X.2.2.2.2.1 _ (ix_tbm (ix_wm (i := 597) (by decide +kernel)) rfl)) hfr hlo hf.1 hf.2 hd (kk H locs ls hP hz hS hl1)
theorem ix_mmax_long (X : ix_X p s m args c K cc own nL) {idx pl : Nat} {x y : Int64} (hl : tables_1[pl]? = some (Cond.methodLink own idx Lib.MathLoose.max_long.x)) (hfr : 1 ≤ R.frames) (hlo : (S.map fun v => v.category).sum + 15 ≤ R.locals) (hf : k ≤ R.cells ∧ n ≤ R.slots) (hd : decode cc pc = .ok (.invokestatic idx, 3)) {pc1 : Nat} (hp : pc + 3 = pc1) (kk : ix_G p l e R s m args below meth c Q K nL k n pc1 L (.long (ix_maxl x y) :: S) w) : ix_G p l e R s m args below meth c Q K nL k n pc L (.long y :: .long x :: S) w := by
  subst hp
  intro H locs ls hP hz hS hl1
  exact va_mmax_long X.1 X.2.1 (X.2.2.1.trans hl1.1.symm) X.2.2.2.1 (X.2.2.2.2.1 _ (ix_tbm (ix_wm hl) rfl)) (X.2.2.2.2.1 _ (ix_tbm (ix_wm (i := 1272) (by decide +kernel)) rfl)) (X.2.2.2.2.1 _ (ix_tbm (ix_wm (i := 10) (by decide +kernel)) rfl)) (X.2.2.2.2.1 _ (ix_tbm (ix_wm (i := 1273) (by decide +kernel)) rfl)) hfr hlo hf.1 hf.2 hd (kk H locs ls hP hz hS hl1)
end IXJ
end
section
def ix_dc (d : ix_D2) (a N : Nat) : ix_D2 := (fun b k => if b = N then d.1 a k else d.1 b k, fun b k => if b = N then 0 else d.2 b k)
section IXN
variable {p : Program} {l : Launch} {e : Env} {R : Room} {s : State} {m : MethodId} {args : Array Value} {below : List Frame} {meth : Method} {c : Code} {Q : State → Prop} {K : ix_Cx} {nL k n : Nat} {cc : ByteArray} {own : String} {pc : Nat} {L : List (Nat × Value)} {S : List Value} {z : ix_Z} {d : ix_D2} {w : ix_W}
/-- invokespecial of a nest mate's private constructor -/
theorem ix_callIN (X : ix_X p s m args c K cc own nL) {y : MethodName} {cc2 : ByteArray} {maxL idx N pl b : Nat} {fr lo mc ms : Nat} {rv : Option Value} {w1 : ix_W} {As rest : List Value} (hm : ix_mf y cc2 maxL none N) (hi : Cond.instanceMethod y ∈ lw_tbl) (hy : y.name = "<init>") (hl : tables_1[pl]? = some (Cond.methodLinkNest own idx y "ClauseCourt")) (hR : fr + 1 ≤ R.frames ∧ 8 + (maxL + 11) + lo ≤ R.locals) (hf : k + mc ≤ R.cells ∧ n + ms ≤ R.slots) (hN : As.length = N) (hrm : (rest.map fun v => v.category).sum ≤ 8) (hd : decode cc pc = .ok (.invokespecial idx, 3)) (hM : ix_M l K y cc2 maxL none fr lo mc ms (.ref (K.2.2.1 + b) :: As) w rv w1)
    (hS : As.reverse ++ .ref (K.2.2.1 + b) :: rest = S) {pc1 : Nat} (hp : pc + 3 = pc1) (kk : ix_G p l e R s m args below meth c Q K nL (k + mc) (n + ms) pc1 L (rv.toList ++ rest) w1) : ix_G p l e R s m args below meth c Q K nL k n pc L S w := by
  subst hS
  refine ix_call0 (a := (Value.ref (K.2.2.1 + b) :: As).toArray) (fun H locs ls hP hz hS hls => ?_) hp kk
  have hxd := hm.2.2.2.1
  exact va_runIN ⟨X.1, X.2.1, X.2.2.1, X.2.2.2.1, X.2.2.2.2.1⟩ hM ⟨⟨⟨rfl, rfl, hR.1, hR.2, ix_words X hm.1, List.mem_cons_self⟩, X.2.2.2.2.1 _ (ix_tbm hm.1 rfl), X.2.2.2.2.1 _ (ix_tbm hm.2.1 rfl), hm.2.2.1, (fun sig h => by rw [h] at hxd; exact (Option.some.inj hxd).symm), va_Nw.use rfl (X.2.2.2.2.2.1.2.1 _ (ix_ntm (ix_wm hl) rfl))⟩, hy, X.2.2.2.2.1 _ (ix_tbm hi rfl)⟩ ⟨ix_blind X.2.2.2.2.2.2.2, ix_pre X hP hz hS _⟩ rfl hN hls rfl (lv_room hrm) hd hf
theorem ix_asgn (X : ix_X p s m args c K cc own nL) {ci nf : Nat} {C : String} {T : u_T} (hcl : ix_cl[ci]? = some (C, T, nf)) (h : Cond.castable C RX8 ∈ lw_tbl) : ∀ comp c0 : ClassId, s.vm.findClass RX8 = some comp → s.vm.findClass C = some c0 → s.vm.assignable c0 comp = true := by
  intro comp c0 h1 h2
  have h3 : (Cond.castable C RX8).before #[] s = true := X.2.2.2.2.2.1.2.1 _ (ix_ntm h rfl)
  simpa [Cond.before, Cond.holds, Cond.value, h1, h2] using h3
theorem ix_rset {a j : Nat} {v : Option Nat} (ha : a < z.2.2) (ht : (z.2.1 a).1 = 24) : (ix_ws K (ix_w z d)).set a (K.2.2.1 + a, .inl (K.2.1 4, ((z.2.1 a).2, .inr (.inr (.inr (.inr (fun i => if i = j then v.map (fun a => K.2.2.1 + a) else (z.1 a i).map (fun a => K.2.2.1 + a)))))))) = ix_ws K (ix_w (ix_zr z a j v) d) := by
  rw [← ix_set (w := ix_w z d) (w' := ix_w (ix_zr z a j v) d) ha rfl (fun b hb => ix_e_congr rfl rfl (ix_up_ne hb) rfl), ix_ei (w := ix_w (ix_zr z a j v) d) (t := 24) (n := (z.2.1 a).2) (by rw [← ht]; rfl) (by decide), ix_c24]
  have hf : (fun i => if i = j then v.map (fun a => K.2.2.1 + a) else (z.1 a i).map (fun a => K.2.2.1 + a)) = (fun i => ((ix_w (ix_zr z a j v) d).2.2.1 a i).map (fun a => K.2.2.1 + a)) := by
    funext i
    by_cases h : i = j
    · subst h
      simp [ix_w, ix_zr, ix_up]
    · simp [ix_w, ix_zr, ix_up, h]
  rw [hf]
theorem iz_aast0 (X : ix_X p s m args c K cc own nL) {a b ci nf : Nat} {C : String} {T : u_T} {i : Int32} {z1 : ix_Z} (hcl : ix_cl[ci]? = some (C, T, nf)) (hci : ci < 20) (hcs : Cond.castable C RX8 ∈ lw_tbl) (hi : ix_ix z 24 a i) (hb : b < z.2.2 ∧ (z.2.1 b).1 = ci) (hd : decode cc pc = .ok (.aastore, 1)) (hw : z1 = ix_zr z a (ix_n i) (some b)) {pc1 : Nat} (hp : pc + 1 = pc1) (kk : ix_G p l e R s m args below meth c Q K nL k n pc1 L S (ix_w z1 d)) : ix_G p l e R s m args below meth c Q K nL k n pc L (.ref (K.2.2.1 + b) :: .int i :: .ref (K.2.2.1 + a) :: S) (ix_w z d) := by
  subst hp
  subst hw
  intro H locs ls hP hz hS hl
  have hA := ix_aR (K := K) (w := ix_w z d) hi.1 hi.2.1 (by decide)
  have he : (ix_ws K (ix_w z d))[b]? = some (K.2.2.1 + b, .inr (ci, (List.range nf).map (fun k => ix_fv K (ix_w z d) b (T k).2.2.1 k))) := by rw [ix_at (w := ix_w z d) hb.1, ix_eo (w := ix_w z d) hb.2 hci hcl]
  obtain ⟨cellV, g1, g3, ⟨kC, hkC⟩, hasg⟩ := va_rAny (E := RX8) X.2.2.2.2.2.1.1 hP he hcl (ix_asgn X hcl hcs)
  obtain ⟨kA, comp, k1, k2, k3, -⟩ := (X.2.2.2.2.2.1.1.2 4 _ rfl).2
  obtain ⟨kE, hkE, -⟩ := Vm.findClass_spec k3
  have hlt : i.toNatClampNeg < (z.2.1 a).2 := Nat.not_le.mp fun q => hi.2.2 (Or.inr q)
  refine W.aast X.1 X.2.1 (hP a _ hA) (fun q h => by cases h) (fun h => by cases h) k1 k2 rfl hkE ⟨fun q => hi.2.2 (Or.inl q), by show _ < (arrV _ _ _).slots.size; rw [arrV_size]; exact hlt⟩ g1 (fun q h => by rw [h] at g3; cases g3) hkC (hasg _ k3) rfl rfl hd fun H1 e1 zz oq => ?_
  refine kk H1 _ ls ?_ (zz.trans hz) (hS.put zz oq (Nat.le_add_right _ _)) hl
  rw [← ix_rset (d := d) hi.1 hi.2.1]
  refine hP.set ix_D hA ?_ oq
  show H1[K.2.2.1 + a]? = some (vp_cell _ _)
  rw [e1, vp_cell_q, vp_cell_q, arrV_store]
  congr 2
  funext q
  by_cases hq : q = i.toNatClampNeg
  · subst hq
    simp [updV, ix_n, va_rf]
  · simp [updV, ix_n, hq, ix_w]
theorem iz_aast (X : ix_X p s m args c K cc own nL) {a b : Nat} {i : Int32} {z1 : ix_Z} (hi : ix_ix z 24 a i) (hb : ix_ok z [0, 3, 5, 6, 9] b) (hd : decode cc pc = .ok (.aastore, 1)) (hw : z1 = ix_zr z a (ix_n i) (some b)) {pc1 : Nat} (hp : pc + 1 = pc1) (kk : ix_G p l e R s m args below meth c Q K nL k n pc1 L S (ix_w z1 d)) : ix_G p l e R s m args below meth c Q K nL k n pc L (.ref (K.2.2.1 + b) :: .int i :: .ref (K.2.2.1 + a) :: S) (ix_w z d) := by
  have h2 := hb.2
  simp only [List.mem_cons, List.not_mem_nil, or_false] at h2
  rcases h2 with h2 | h2 | h2 | h2 | h2
  · exact iz_aast0 (ci := 0) (C := RX0) (T := TX0) (nf := 4) X rfl (by decide) (ix_wm (i := 2484) (by decide +kernel)) hi ⟨hb.1, h2⟩ hd hw hp kk
  · exact iz_aast0 (ci := 3) (C := RX3) (T := TX3) (nf := 3) X rfl (by decide) (ix_wm (i := 2485) (by decide +kernel)) hi ⟨hb.1, h2⟩ hd hw hp kk
  · exact iz_aast0 (ci := 5) (C := RX5) (T := TX5) (nf := 4) X rfl (by decide) (ix_wm (i := 2486) (by decide +kernel)) hi ⟨hb.1, h2⟩ hd hw hp kk
  · exact iz_aast0 (ci := 6) (C := RX6) (T := TX6) (nf := 4) X rfl (by decide) (ix_wm (i := 2487) (by decide +kernel)) hi ⟨hb.1, h2⟩ hd hw hp kk
  · exact iz_aast0 (ci := 9) (C := RX10) (T := TX10) (nf := 6) X rfl (by decide) (ix_wm (i := 2488) (by decide +kernel)) hi ⟨hb.1, h2⟩ hd hw hp kk
theorem ix_ws_al2 {t len : Nat} {d1 : ix_D2} (h1 : ∀ a, a < z.2.2 → d1.1 a = d.1 a) (h2 : ∀ a, a < z.2.2 → d1.2 a = d.2 a) : ix_ws K (ix_w (ix_zn z t len) d1) = ix_ws K (ix_w z d) ++ [(K.2.2.1 + z.2.2, ix_e K (ix_w (ix_zn z t len) d1) z.2.2)] := by
  unfold ix_ws
  rw [show ix_N (ix_w (ix_zn z t len) d1) = z.2.2 + 1 from rfl, show ix_N (ix_w z d) = z.2.2 from rfl, List.range_succ, List.map_append]
  congr 1
  apply List.map_congr_left
  intro a ha
  have hlt := List.mem_range.mp ha
  have hne : a ≠ z.2.2 := Nat.ne_of_lt hlt
  rw [ix_e_congr (w := ix_w z d) (w' := ix_w (ix_zn z t len) d1) (h1 a hlt) (h2 a hlt) (by funext k'; simp [ix_w, ix_zn, hne]) (by simp [ix_T, ix_w, ix_zn, hne])]
theorem iz_clone_int (X : ix_X p s m args c K cc RJ7 nL) (hsz : s.heap.size + k = K.2.2.1 + z.2.2) {a : Nat} {z1 : ix_Z} {d1 : ix_D2} (ha : a < z.2.2 ∧ (z.2.1 a).1 = 20 ∧ (z.2.1 a).2 ≤ 64) (hfr : 1 ≤ R.frames) (hlo : (S.map fun v => v.category).sum + 14 ≤ R.locals) (hc : k + 1 ≤ R.cells) (hs : n + (z.2.1 a).2 ≤ R.slots) (hd : decode cc pc = .ok (.invokevirtual 316, 3)) (hz1 : z1 = ix_zn z 20 (z.2.1 a).2) (hd1 : d1 = ix_dc d a z.2.2) {pc1 : Nat} (hp : pc + 3 = pc1)
    (kk : ix_G p l e R s m args below meth c Q K nL (k + 1) (n + (z.2.1 a).2) pc1 L (.ref (K.2.2.1 + z.2.2) :: S) (ix_w z1 d1)) : ix_G p l e R s m args below meth c Q K nL k n pc L (.ref (K.2.2.1 + a) :: S) (ix_w z d) := by
  subst hp
  subst hz1
  subst hd1
  intro H locs ls hP hz hS hl
  have hts := X.2.2.2.2.1
  have hO := X.2.2.2.2.2.1
  have hA := ix_aI (K := K) (w := ix_w z d) ha.1 ha.2.1 (by decide) (by decide)
  have hz' : H.size = K.2.2.1 + z.2.2 := hz
  refine va_clone (ad := "[I") X.1 X.2.1 (X.2.2.1.trans hl.1.symm) X.2.2.2.1 (hts _ (ix_tbm (ix_wm (i := 491) (by decide +kernel)) rfl)) (hts _ (ix_tbm (ix_wm (i := 492) (by decide +kernel)) rfl)) (hts _ (ix_tbm (ix_wm (i := 493) (by decide +kernel)) rfl)) (hts _ (ix_tbm (ix_wm (i := 494) (by decide +kernel)) rfl)) (hts _ (ix_tbm (ix_wm (i := 495) (by decide +kernel)) rfl)) (hO.2.1 _ (ix_ntm (ix_wm (i := 496) (by decide +kernel)) rfl)) hO.1 hP ix_D hS (fun q hq => Nat.le_trans X.2.2.2.2.2.2.1 hq) a 0 hA rfl (hO.1.2 0 _ rfl).2 (fun i v hv => ?_) hfr hlo hc hs hd (fun q H1 hK1 hP1 hD1 hS1 => ?_)
  · by_cases hi : i < (z.2.1 a).2
    · have hv : some (Value.int (d.1 a i)) = some v := (arrV_read (K.2.1 0) (fun j => .int (d.1 a j)) hi).symm.trans hv
      exact (by cases hv; rfl)
    · have hn : (arrV (K.2.1 0) (z.2.1 a).2 (fun j => .int (d.1 a j))).slots[i]? = none := by
        rw [Array.getElem?_eq_none]
        rw [arrV_size]
        omega
      have hv : (none : Option Value) = some v := hn.symm.trans hv
      cases hv
  · intro T hT X2
    have e1 : H1.size ≤ s.heap.size + (k + 1) := by rw [← hT]; exact X2.heapSize
    have hlen : (ix_ws K (ix_w z d)).length = z.2.2 := ix_len
    have hlast : (ix_ws K (ix_w z d) ++ [(q, Sum.inl (K.2.1 0, ((z.2.1 a).2, Sum.inl (d.1 a))))])[z.2.2]? = some (q, Sum.inl (K.2.1 0, ((z.2.1 a).2, Sum.inl (d.1 a)))) := by
      rw [List.getElem?_append_right (by rw [hlen]; exact Nat.le_refl _), hlen, Nat.sub_self]
      rfl
    have hq1 : q < H1.size := (hP1 z.2.2 _ hlast).lt
    have hq2 : K.2.2.1 ≤ q := hD1.2 z.2.2 _ hlast
    have hq3 : ∀ i, i < z.2.2 → K.2.2.1 + i ≠ q := by
      intro i hi he
      have h3 : (ix_ws K (ix_w z d) ++ [(q, Sum.inl (K.2.1 0, ((z.2.1 a).2, Sum.inl (d.1 a))))])[i]? = some (K.2.2.1 + i, ix_e K (ix_w z d) i) := by
        rw [List.getElem?_append_left (by rw [hlen]; exact hi)]
        exact ix_at hi
      have h4 := hD1.1 i z.2.2 _ _ h3 hlast he
      omega
    have hq4 : q = K.2.2.1 + z.2.2 := by
      have h5 : q < K.2.2.1 + z.2.2 + 1 := by omega
      rcases Nat.lt_or_ge q (K.2.2.1 + z.2.2) with h6 | h6
      · exact absurd (show K.2.2.1 + (q - K.2.2.1) = q by omega) (hq3 (q - K.2.2.1) (by omega))
      · omega
    subst hq4
    have hws : ix_ws K (ix_w (ix_zn z 20 (z.2.1 a).2) (ix_dc d a z.2.2)) = ix_ws K (ix_w z d) ++ [(K.2.2.1 + z.2.2, Sum.inl (K.2.1 0, ((z.2.1 a).2, Sum.inl (d.1 a))))] := by
      rw [ix_ws_al2 (d := d) (fun b hb => by funext k'; simp [ix_dc, Nat.ne_of_lt hb]) (fun b hb => by funext k'; simp [ix_dc, Nat.ne_of_lt hb]), ix_ei (t := 20) (n := (z.2.1 a).2) (by simp [ix_T, ix_w, ix_zn]) (by decide), ix_c20]
      have hf : (ix_w (ix_zn z 20 (z.2.1 a).2) (ix_dc d a z.2.2)).1 z.2.2 = d.1 a := by
        funext k'
        simp [ix_w, ix_dc]
      rw [hf]
    have hP1 : va_P K.1 ix_cl (ix_ws K (ix_w z d) ++ [(K.2.2.1 + z.2.2, Sum.inl (K.2.1 0, ((z.2.1 a).2, Sum.inl (d.1 a))))]) H1 := hP1
    rw [← hws] at hP1
    have e2 : K.2.2.1 + (z.2.2 + 1) ≤ H1.size := ix_ge hP1 (Nat.succ_pos _)
    exact kk H1 locs ls hP1 (Nat.le_antisymm (show H1.size ≤ K.2.2.1 + (z.2.2 + 1) by omega) e2) hS1 hl T hT X2
theorem iz_castA_int (X : ix_X p s m args c K cc own nL) {a idx pl : Nat} (h1 : tables_1[pl]? = some (Cond.classLink own idx "[I")) (ha : a < z.2.2 ∧ (z.2.1 a).1 = 20) (hd : decode cc pc = .ok (.checkcast idx, 3)) {pc1 : Nat} (hp : pc + 3 = pc1) (kk : ix_G p l e R s m args below meth c Q K nL k n pc1 L (.ref (K.2.2.1 + a) :: S) (ix_w z d)) : ix_G p l e R s m args below meth c Q K nL k n pc L (.ref (K.2.2.1 + a) :: S) (ix_w z d) := by
  subst hp
  intro H locs ls hP hz hS hl
  exact va_castA X.1 X.2.1 X.2.2.2.1 (X.2.2.2.2.1 _ (ix_tbm (ix_wm h1) rfl)) hP a (ix_aI (K := K) (w := ix_w z d) ha.1 ha.2 (by decide) (by decide)) (X.2.2.2.2.2.1.1.2 0 _ rfl).2 hd (kk H locs ls hP hz hS hl)
theorem iz_clone_byte (X : ix_X p s m args c K cc RJ7 nL) (hsz : s.heap.size + k = K.2.2.1 + z.2.2) {a : Nat} {z1 : ix_Z} {d1 : ix_D2} (ha : a < z.2.2 ∧ (z.2.1 a).1 = 21 ∧ (z.2.1 a).2 ≤ 64) (hft : ∀ i, i < (z.2.1 a).2 → fits .byte (.int (d.1 a i)) = true) (hfr : 1 ≤ R.frames) (hlo : (S.map fun v => v.category).sum + 14 ≤ R.locals) (hc : k + 1 ≤ R.cells) (hs : n + (z.2.1 a).2 ≤ R.slots) (hd : decode cc pc = .ok (.invokevirtual 310, 3)) (hz1 : z1 = ix_zn z 21 (z.2.1 a).2) (hd1 : d1 = ix_dc d a z.2.2) {pc1 : Nat} (hp : pc + 3 = pc1)
    (kk : ix_G p l e R s m args below meth c Q K nL (k + 1) (n + (z.2.1 a).2) pc1 L (.ref (K.2.2.1 + z.2.2) :: S) (ix_w z1 d1)) : ix_G p l e R s m args below meth c Q K nL k n pc L (.ref (K.2.2.1 + a) :: S) (ix_w z d) := by
  subst hp
  subst hz1
  subst hd1
  intro H locs ls hP hz hS hl
  have hts := X.2.2.2.2.1
  have hO := X.2.2.2.2.2.1
  have hA := ix_aI (K := K) (w := ix_w z d) ha.1 ha.2.1 (by decide) (by decide)
  have hz' : H.size = K.2.2.1 + z.2.2 := hz
  refine va_clone (ad := "[B") X.1 X.2.1 (X.2.2.1.trans hl.1.symm) X.2.2.2.1 (hts _ (ix_tbm (ix_wm (i := 819) (by decide +kernel)) rfl)) (hts _ (ix_tbm (ix_wm (i := 820) (by decide +kernel)) rfl)) (hts _ (ix_tbm (ix_wm (i := 493) (by decide +kernel)) rfl)) (hts _ (ix_tbm (ix_wm (i := 494) (by decide +kernel)) rfl)) (hts _ (ix_tbm (ix_wm (i := 821) (by decide +kernel)) rfl)) (hO.2.1 _ (ix_ntm (ix_wm (i := 822) (by decide +kernel)) rfl)) hO.1 hP ix_D hS (fun q hq => Nat.le_trans X.2.2.2.2.2.2.1 hq) a 1 hA rfl (hO.1.2 1 _ rfl).2 (fun i v hv => ?_) hfr hlo hc hs hd (fun q H1 hK1 hP1 hD1 hS1 => ?_)
  · by_cases hi : i < (z.2.1 a).2
    · have hv : some (Value.int (d.1 a i)) = some v := (arrV_read (K.2.1 1) (fun j => .int (d.1 a j)) hi).symm.trans hv
      exact (by cases hv; exact hft i hi)
    · have hn : (arrV (K.2.1 1) (z.2.1 a).2 (fun j => .int (d.1 a j))).slots[i]? = none := by
        rw [Array.getElem?_eq_none]
        rw [arrV_size]
        omega
      have hv : (none : Option Value) = some v := hn.symm.trans hv
      cases hv
  · intro T hT X2
    have e1 : H1.size ≤ s.heap.size + (k + 1) := by rw [← hT]; exact X2.heapSize
    have hlen : (ix_ws K (ix_w z d)).length = z.2.2 := ix_len
    have hlast : (ix_ws K (ix_w z d) ++ [(q, Sum.inl (K.2.1 1, ((z.2.1 a).2, Sum.inl (d.1 a))))])[z.2.2]? = some (q, Sum.inl (K.2.1 1, ((z.2.1 a).2, Sum.inl (d.1 a)))) := by
      rw [List.getElem?_append_right (by rw [hlen]; exact Nat.le_refl _), hlen, Nat.sub_self]
      rfl
    have hq1 : q < H1.size := (hP1 z.2.2 _ hlast).lt
    have hq2 : K.2.2.1 ≤ q := hD1.2 z.2.2 _ hlast
    have hq3 : ∀ i, i < z.2.2 → K.2.2.1 + i ≠ q := by
      intro i hi he
      have h3 : (ix_ws K (ix_w z d) ++ [(q, Sum.inl (K.2.1 1, ((z.2.1 a).2, Sum.inl (d.1 a))))])[i]? = some (K.2.2.1 + i, ix_e K (ix_w z d) i) := by
        rw [List.getElem?_append_left (by rw [hlen]; exact hi)]
        exact ix_at hi
      have h4 := hD1.1 i z.2.2 _ _ h3 hlast he
      omega
    have hq4 : q = K.2.2.1 + z.2.2 := by
      have h5 : q < K.2.2.1 + z.2.2 + 1 := by omega
      rcases Nat.lt_or_ge q (K.2.2.1 + z.2.2) with h6 | h6
      · exact absurd (show K.2.2.1 + (q - K.2.2.1) = q by omega) (hq3 (q - K.2.2.1) (by omega))
      · omega
    subst hq4
    have hws : ix_ws K (ix_w (ix_zn z 21 (z.2.1 a).2) (ix_dc d a z.2.2)) = ix_ws K (ix_w z d) ++ [(K.2.2.1 + z.2.2, Sum.inl (K.2.1 1, ((z.2.1 a).2, Sum.inl (d.1 a))))] := by
      rw [ix_ws_al2 (d := d) (fun b hb => by funext k'; simp [ix_dc, Nat.ne_of_lt hb]) (fun b hb => by funext k'; simp [ix_dc, Nat.ne_of_lt hb]), ix_ei (t := 21) (n := (z.2.1 a).2) (by simp [ix_T, ix_w, ix_zn]) (by decide), ix_c21]
      have hf : (ix_w (ix_zn z 21 (z.2.1 a).2) (ix_dc d a z.2.2)).1 z.2.2 = d.1 a := by
        funext k'
        simp [ix_w, ix_dc]
      rw [hf]
    have hP1 : va_P K.1 ix_cl (ix_ws K (ix_w z d) ++ [(K.2.2.1 + z.2.2, Sum.inl (K.2.1 1, ((z.2.1 a).2, Sum.inl (d.1 a))))]) H1 := hP1
    rw [← hws] at hP1
    have e2 : K.2.2.1 + (z.2.2 + 1) ≤ H1.size := ix_ge hP1 (Nat.succ_pos _)
    exact kk H1 locs ls hP1 (Nat.le_antisymm (show H1.size ≤ K.2.2.1 + (z.2.2 + 1) by omega) e2) hS1 hl T hT X2
theorem iz_castA_byte (X : ix_X p s m args c K cc own nL) {a idx pl : Nat} (h1 : tables_1[pl]? = some (Cond.classLink own idx "[B")) (ha : a < z.2.2 ∧ (z.2.1 a).1 = 21) (hd : decode cc pc = .ok (.checkcast idx, 3)) {pc1 : Nat} (hp : pc + 3 = pc1) (kk : ix_G p l e R s m args below meth c Q K nL k n pc1 L (.ref (K.2.2.1 + a) :: S) (ix_w z d)) : ix_G p l e R s m args below meth c Q K nL k n pc L (.ref (K.2.2.1 + a) :: S) (ix_w z d) := by
  subst hp
  intro H locs ls hP hz hS hl
  exact va_castA X.1 X.2.1 X.2.2.2.1 (X.2.2.2.2.1 _ (ix_tbm (ix_wm h1) rfl)) hP a (ix_aI (K := K) (w := ix_w z d) ha.1 ha.2 (by decide) (by decide)) (X.2.2.2.2.2.1.1.2 1 _ rfl).2 hd (kk H locs ls hP hz hS hl)
end IXN
end
section
/-! super.method(..) that the class just above has from the one above it -/
section IXU
variable {p : Program} {l : Launch} {e : Env} {R : Room} {s : State} {m : MethodId} {args : Array Value} {below : List Frame} {meth : Method} {c : Code} {Q : State → Prop} {K : ix_Cx} {nL k n : Nat} {cc : ByteArray} {own : String} {pc : Nat} {L : List (Nat × Value)} {S : List Value} {w : ix_W}
theorem ix_callSU2 (X : ix_X p s m args c K cc own nL) {x y : MethodName} {C : String} {cc2 : ByteArray} {maxL idx N pl b ci : Nat} {ret : Option FieldType} {fr lo mc ms : Nat} {rv : Option Value} {w1 : ix_W} {As rest : List Value} {T : u_T} {nf : Nat} (hm : ix_mf y cc2 maxL ret N) (hi : Cond.instanceMethod y ∈ lw_tbl) (hxy : y = ⟨y.cls, x.name, x.desc⟩) (hsm : Cond.sameMethod x.cls y.cls x.name x.desc ∈ lw_tbl) (hsu : Cond.superclass own x.cls ∈ lw_tbl) (hsu2 : Cond.superclass x.cls y.cls ∈ lw_tbl) (hy : x.name ≠ "<init>")
    (hcl : ix_cl[ci]? = some (C, T, nf)) (hci : ci < 20) (hl : tables_1[pl]? = some (Cond.methodLink own idx x)) (hR : fr + 1 ≤ R.frames ∧ 8 + (maxL + 11) + lo ≤ R.locals) (hf : k + mc ≤ R.cells ∧ n + ms ≤ R.slots) (hN : As.length = N) (hrm : (rest.map fun v => v.category).sum ≤ 8) (hd : decode cc pc = .ok (.invokespecial idx, 3)) (hb : b < ix_N w ∧ (ix_T w b).1 = ci) (hM : ix_M l K y cc2 maxL ret fr lo mc ms (.ref (K.2.2.1 + b) :: As) w rv w1)
    (hS : As.reverse ++ .ref (K.2.2.1 + b) :: rest = S) {pc1 : Nat} (hp : pc + 3 = pc1) (kk : ix_G p l e R s m args below meth c Q K nL (k + mc) (n + ms) pc1 L (rv.toList ++ rest) w1) : ix_G p l e R s m args below meth c Q K nL k n pc L S w := by
  subst hS
  refine ix_call0 (a := (Value.ref (K.2.2.1 + b) :: As).toArray) (fun H locs ls hP hz hS hls => ?_) hp kk
  have he : (ix_ws K w)[b]? = some (K.2.2.1 + b, .inr (ci, (List.range nf).map (fun k => ix_fv K w b (T k).2.2.1 k))) := by rw [ix_at hb.1, ix_eo hb.2 hci hcl]
  have hts := X.2.2.2.2.1
  have hxd := hm.2.2.2.1
  obtain ⟨cellB, hcB, hoB, hclB⟩ := va_recv X.2.2.2.2.2.1.1 hP hcl he
  obtain ⟨kB, hkB, -⟩ := Vm.findClass_spec hclB
  intro T0 hT X0
  have hK : Back l R p e below s args y 3 8 (PreOf R mc ms (ix_Pre K (.ref (K.2.2.1 + b) :: As) w)) (PostOf (ix_Post K rv w1) mc ms (ix_A K)) := back_of (bytes := cc2) (maxL := maxL) (ret := ret) hM (ix_blind X.2.2.2.2.2.2.2) rfl rfl hR.1 hR.2 (ix_words X hm.1) List.mem_cons_self (fun a' U hW => word_at hW (Or.inl rfl) (hts _ (ix_tbm hm.2.1 rfl)))
  obtain ⟨mk, methM, hnamed, hmethM, hstM, habM⟩ := Cond.instanceMethod_spec (hts _ (ix_tbm hi rfl))
  obtain ⟨methM', cM, hmethM', -, -, -, -, -, -, hsigM⟩ := Cond.code_spec hnamed (hts _ (ix_tbm hm.1 rfl))
  cases hmethM.symm.trans hmethM'
  obtain ⟨ps, dk, kp, hps, hdk, hkp, hsuper, -, -, hnid⟩ := Cond.superclass_spec X.2.2.2.1 (hts _ (ix_tbm hsu rfl))
  obtain ⟨ps2, dk2, kp2, hps2, hdk2, hkp2, hsuper2, -, -, -⟩ := Cond.superclass_spec hps (hts _ (ix_tbm hsu2 rfl))
  have hpm : ps2 = mk.cls := Option.some.inj (hps2.symm.trans (findClass_of_methodNamed hnamed))
  have hsub : s.vm.isSubclass ps mk.cls = true := by
    have hlt : ps < Array.size s.vm.classes := (Array.getElem?_eq_some_iff.mp hdk2).1
    obtain ⟨q, hq⟩ : ∃ q, Array.size s.vm.classes = q + 1 := ⟨Array.size s.vm.classes - 1, (Nat.succ_pred_eq_of_pos (Nat.lt_of_le_of_lt (Nat.zero_le _) hlt)).symm⟩
    rw [Vm.isSubclass, hq]
    simp [Vm.isSubclassAux, hdk2, hsuper2, hpm]
  have hn : s.methodNamed? ⟨y.cls, x.name, x.desc⟩ = some mk := by rw [← hxy]; exact hnamed
  have hlen : As.length = methM.sig.parameters.length := by
    rw [hsigM] at hxd
    exact hN.trans (Option.some.inj hxd).symm
  obtain ⟨vm₁, X₁, hstep₁⟩ := X0.invokespecialUp X.1 X.2.2.2.1 (hts _ (ix_tbm (ix_wm hl) rfl)) (hts _ (ix_tbm hsm rfl)) hn hmethM hstM habM hy hdk hnid hps hsuper hsub (a := K.2.2.1 + b) (cell := cellB) (by rw [hT]; exact hcB)
    (fun z h => by rw [h] at hoB; cases hoB) hkB (g := F0 m pc ls (As.reverse ++ .ref (K.2.2.1 + b) :: rest)) rfl (argsL := As) (rest := rest) hlen rfl (by rw [X.2.1]; exact hd)
  obtain ⟨v, ⟨U', l2, c2, s2⟩, X', ⟨g', mk', t, L', e1, e2, hq, h1, hL, h2, h3⟩, hsteps⟩ := hK m meth c ⟨T0.setVm vm₁, locs, k, n⟩ { F0 m pc ls (As.reverse ++ .ref (K.2.2.1 + b) :: rest) with stack := rest } (.invokespecial idx) mk (Value.ref (K.2.2.1 + b) :: As).toArray X₁ rfl (hls.trans X.2.2.1.symm) (by rw [X.2.1]; exact hd) (lv_room hrm) (X₁.named hnamed) ⟨hf.1, hf.2, ix_pre X hP hz hS _ _ hT X₁.warmed⟩
  dsimp only [Pt.U, Pt.locs, Pt.cells, Pt.slots] at X' e1 e2 h1 h2 h3 hsteps
  subst h1; subst h2; subst h3
  exact ⟨v, (T0.setVm vm₁).calling g' mk' (Value.ref (K.2.2.1 + b) :: As).toArray, t, U', L', hT, X', hL, e1, e2, hq, fun target h => hstep₁ _ (by rw [doInvoke_state]; exact hsteps.trans h)⟩
end IXU
end
section
/-! TEXTS: the six literals, their bytes, and what the JDK's own members of them need -/
def ix_slen : List Nat := [4, 5, 4, 5, 3, 4]
def ix_byt : List (List Int32) := [[38, 124, 62, 106], [109, 111, 115, 116, 32], [115, 111, 109, 101], [106, 117, 115, 116, 32], [111, 100, 100], [101, 118, 101, 110]]
def ix_sown : List (String × Nat × String) := [(RX4, 78, "&|>j"), (RX0, 54, "most "), (RX3, 36, "some"), (RX5, 45, "just "), (RX6, 48, "odd"), (RX6, 49, "even")]
def ix_fmt (K : ix_Cx) : Value := if K.2.1 300 = 0 then .null else .ref (K.2.1 301)
def ix_Tx (K : ix_Cx) (U : State) : Prop := vk_S 6 ix_slen ix_byt (fun j => K.2.1 (100 + j)) (fun j => K.2.1 (200 + j)) (ix_A K) U U.heap ∧ (∀ (j : Nat) (q : String × Nat × String), ix_sown[j]? = some q → vk_R q.1 q.2.1 q.2.2 (K.2.1 (100 + j)) U) ∧ va_Z "java/lang/String" "COMPACT_STRINGS" "Z" (.int 1) (ix_A K) U U.heap ∧ va_Z "jdk/internal/util/Preconditions" "SIOOBE_FORMATTER" "Ljava/util/function/BiFunction;" (ix_fmt K) (ix_A K) U U.heap
def ix_Tc (K : ix_Cx) : Prop := ∀ U : State, K.2.2.2 U → ix_Tx K U
section IXT
variable {p : Program} {l : Launch} {e : Env} {R : Room} {s : State} {m : MethodId} {args : Array Value} {below : List Frame} {meth : Method} {c : Code} {Q : State → Prop} {K : ix_Cx} {nL k n : Nat} {cc : ByteArray} {own : String} {pc : Nat} {L : List (Nat × Value)} {S : List Value} {w : ix_W}
theorem ix_ldcS (X : ix_X p s m args c K cc own nL) (hT : ix_Tc K) {j i : Nat} {tx : String} (hj : ix_sown[j]? = some (own, i, tx)) (hd : decode cc pc = .ok (.ldc i, 2)) {pc1 : Nat} (hp : pc + 2 = pc1) (kk : ix_G p l e R s m args below meth c Q K nL k n pc1 L (.ref (K.2.1 (100 + j)) :: S) w) : ix_G p l e R s m args below meth c Q K nL k n pc L S w := by
  subst hp
  intro H locs ls hP hz hS hl
  exact va_ldcS X.1 X.2.1 X.2.2.2.1 ((hT s X.2.2.2.2.2.1.2.2).2.1 j _ hj) hd (kk H locs ls hP hz hS hl)
theorem ix_tval (X : ix_X p s m args c K cc own nL) (hT : ix_Tc K) {j idx pl : Nat} (hj : j < 6) (hl0 : tables_1[pl]? = some (Cond.fieldLink own idx "java/lang/String" "value" "[B")) (hd : decode cc pc = .ok (.getfield idx, 3)) {pc1 : Nat} (hp : pc + 3 = pc1) (kk : ix_G p l e R s m args below meth c Q K nL k n pc1 L (.ref (K.2.1 (200 + j)) :: S) w) : ix_G p l e R s m args below meth c Q K nL k n pc L (.ref (K.2.1 (100 + j)) :: S) w := by
  subst hp
  intro H locs ls hP hz hS hl
  exact vk_getf X.1 X.2.1 ((hT s X.2.2.2.2.2.1.2.2).1.1 j hj).2.2.1 hS X.2.2.2.1 (X.2.2.2.2.1 _ (ix_tbm (ix_wm hl0) rfl)) (fun _ h => h) hd (kk H locs ls hP hz hS hl)
theorem ix_tcod (X : ix_X p s m args c K cc own nL) (hT : ix_Tc K) {j idx pl : Nat} (hj : j < 6) (hl0 : tables_1[pl]? = some (Cond.fieldLink own idx "java/lang/String" "coder" "B")) (hd : decode cc pc = .ok (.getfield idx, 3)) {pc1 : Nat} (hp : pc + 3 = pc1) (kk : ix_G p l e R s m args below meth c Q K nL k n pc1 L (.int 0 :: S) w) : ix_G p l e R s m args below meth c Q K nL k n pc L (.ref (K.2.1 (100 + j)) :: S) w := by
  subst hp
  intro H locs ls hP hz hS hl
  exact vk_getf X.1 X.2.1 ((hT s X.2.2.2.2.2.1.2.2).1.1 j hj).2.1 hS X.2.2.2.1 (X.2.2.2.2.1 _ (ix_tbm (ix_wm hl0) rfl)) (fun _ h => h) hd (kk H locs ls hP hz hS hl)
theorem ix_tsta (X : ix_X p s m args c K cc own nL) (hT : ix_Tc K) {idx pl : Nat} (hl0 : tables_1[pl]? = some (Cond.fieldLink own idx "java/lang/String" "COMPACT_STRINGS" "Z")) (hd : decode cc pc = .ok (.getstatic idx, 3)) {pc1 : Nat} (hp : pc + 3 = pc1) (kk : ix_G p l e R s m args below meth c Q K nL k n pc1 L (.int 1 :: S) w) : ix_G p l e R s m args below meth c Q K nL k n pc L S w := by
  subst hp
  intro H locs ls hP hz hS hl
  exact va_gets X.1 X.2.1 (hT s X.2.2.2.2.2.1.2.2).2.2.1 hS X.2.2.2.1 (X.2.2.2.2.1 _ (ix_tbm (ix_wm hl0) rfl)) (fun _ h => h) hd (kk H locs ls hP hz hS hl)
theorem ix_tfmt (X : ix_X p s m args c K cc own nL) (hT : ix_Tc K) {idx pl : Nat} (hl0 : tables_1[pl]? = some (Cond.fieldLink own idx "jdk/internal/util/Preconditions" "SIOOBE_FORMATTER" "Ljava/util/function/BiFunction;")) (hd : decode cc pc = .ok (.getstatic idx, 3)) {pc1 : Nat} (hp : pc + 3 = pc1) (kk : ix_G p l e R s m args below meth c Q K nL k n pc1 L (ix_fmt K :: S) w) : ix_G p l e R s m args below meth c Q K nL k n pc L S w := by
  subst hp
  intro H locs ls hP hz hS hl
  exact va_gets X.1 X.2.1 (hT s X.2.2.2.2.2.1.2.2).2.2.2 hS X.2.2.2.1 (X.2.2.2.2.1 _ (ix_tbm (ix_wm hl0) rfl)) (fun _ h => h) hd (kk H locs ls hP hz hS hl)
theorem ix_tlen (X : ix_X p s m args c K cc own nL) (hT : ix_Tc K) {j : Nat} (hj : j < 6) (hd : decode cc pc = .ok (.arraylength, 1)) {pc1 : Nat} (hp : pc + 1 = pc1) (kk : ix_G p l e R s m args below meth c Q K nL k n pc1 L (.int (nI (ix_slen.getD j 0)) :: S) w) : ix_G p l e R s m args below meth c Q K nL k n pc L (.ref (K.2.1 (200 + j)) :: S) w := by
  subst hp
  intro H locs ls hP hz hS hl
  exact va_tlen X.1 X.2.1 ((hT s X.2.2.2.2.2.1.2.2).1.1 j hj).2.2.2 hS rfl hd (kk H locs ls hP hz hS hl)
theorem ix_tbyt (X : ix_X p s m args c K cc own nL) (hT : ix_Tc K) {j : Nat} {i : Int32} (hj : j < 6 ∧ vp_in i (ix_slen.getD j 0)) (hd : decode cc pc = .ok (.baload, 1)) {pc1 : Nat} (hp : pc + 1 = pc1) (kk : ix_G p l e R s m args below meth c Q K nL k n pc1 L (.int ((ix_byt.getD j []).getD (ix_n i) 0) :: S) w) : ix_G p l e R s m args below meth c Q K nL k n pc L (.int i :: .ref (K.2.1 (200 + j)) :: S) w := by
  subst hp
  intro H locs ls hP hz hS hl
  exact va_tb X.1 X.2.1 ((hT s X.2.2.2.2.2.1.2.2).1.1 j hj.1).2.2.2 hS hj.2 rfl hd (kk H locs ls hP hz hS hl)
theorem ix_nret (X : ix_X p s m args c K cc own nL) {ty : FieldType} (hr : meth.sig.returnType = some ty) (hlocks : meth.locks = false) {v : Int32} {rv : Option Value} {w1 : ix_W} (hv : narrow ty (.int v) = .int v) (he : rv = some (.int v) ∧ w1 = w) (hd : decode cc pc = .ok (.ireturn, 1)) : ix_G p l e R s m args below meth c (MQ below (ix_Post K rv w1) args s k n (ix_A K)) K nL k n pc L [.int v] w := by
  obtain ⟨rfl, rfl⟩ := he
  exact fun H locs ls hP hz hS hl => W.zret X.1 X.2.1 hr hv (fun t ht _ => ⟨rfl, by rw [ht]; exact hP, by rw [ht]; exact hz, hS.F ht⟩) hS.2.2 hd
theorem ix_fcat : (ix_fmt K).category = 1 := by
  unfold ix_fmt
  split <;> rfl
/-- invokevirtual on a literal -/
theorem ix_callT (X : ix_X p s m args c K cc own nL) (hT : ix_Tc K) {y : MethodName} {cc2 : ByteArray} {maxL idx N pl j : Nat} {ret : Option FieldType} {fr lo : Nat} {rv : Option Value} {w1 : ix_W} {As rest : List Value} (hj : j < 6) (hy : y.cls = "java/lang/String") (hm : ix_mf y cc2 maxL ret N) (hi : Cond.instanceMethod y ∈ lw_tbl) (hs : Cond.selects y.cls y y ∈ lw_tbl) (hl : tables_1[pl]? = some (Cond.methodLink own idx y)) (hR : fr + 1 ≤ R.frames ∧ 8 + (maxL + 11) + lo ≤ R.locals) (hf : k + 0 ≤ R.cells ∧ n + 0 ≤ R.slots) (hN : As.length = N) (hrm : (rest.map fun v => v.category).sum ≤ 8) (hd : decode cc pc = .ok (.invokevirtual idx, 3)) (hM : ix_M l K y cc2 maxL ret fr lo 0 0 (.ref (K.2.1 (100 + j)) :: As) w rv w1)
    (hS : As.reverse ++ .ref (K.2.1 (100 + j)) :: rest = S) {pc1 : Nat} (hp : pc + 3 = pc1) (kk : ix_G p l e R s m args below meth c Q K nL (k + 0) (n + 0) pc1 L (rv.toList ++ rest) w1) : ix_G p l e R s m args below meth c Q K nL k n pc L S w := by
  subst hS
  refine ix_call0 (a := (Value.ref (K.2.1 (100 + j)) :: As).toArray) (fun H locs ls hP hz hS hls => ?_) hp kk
  have hrc := vk_recv (hT s X.2.2.2.2.2.1.2.2).1 hj hS
  rw [← hy] at hrc
  exact va_runV (C := y.cls) ⟨X.1, X.2.1, X.2.2.1, X.2.2.2.1, X.2.2.2.2.1⟩ hM ⟨ix_cb X hm (ix_wm hl) hR, X.2.2.2.2.1 _ (ix_tbm hi rfl), X.2.2.2.2.1 _ (ix_tbm hs rfl)⟩ ⟨ix_blind X.2.2.2.2.2.2.2, hrc, ix_pre X hP hz hS _⟩ rfl hN hls rfl (lv_room hrm) hd hf
end IXT
end
section
/-! new int[N][M]: the outer array, then its rows one behind the other -/
def ix_mo (c : ClassId) (N h i : Nat) : Cell := arrV c N (fun j => va_rf (if j < i then some (h + 1 + j) else none))
def ix_mi (c : ClassId) (M : Nat) : Cell := arrV c M (fun _ => .int 0)
def ix_mst (T : State) (cA cI : ClassId) (N M : Nat) : Nat → State
  | 0 => T.pushCell (ix_mo cA N T.heap.size 0)
  | i + 1 => ((ix_mst T cA cI N M i).pushCell (ix_mi cI M)).setCell T.heap.size (ix_mo cA N T.heap.size (i + 1))
theorem ix_mo_set (c : ClassId) (N h i : Nat) : (ix_mo c N h i).setSlot i (.ref (h + 1 + i)) = ix_mo c N h (i + 1) := by
  unfold ix_mo
  rw [arrV_store]
  congr 1
  funext j
  by_cases e : j = i
  · subst e
    simp [updV, va_rf]
  · by_cases h1 : j < i
    · simp [updV, e, h1, Nat.lt_succ_of_lt h1]
    · have h2 : ¬ j < i + 1 := by omega
      simp [updV, e, h1, h2]
theorem ix_mst_facts (T : State) (cA cI : ClassId) (N M : Nat) : ∀ i : Nat, (ix_mst T cA cI N M i).heap.size = T.heap.size + 1 + i ∧ (ix_mst T cA cI N M i).heap[T.heap.size]? = some (ix_mo cA N T.heap.size i) ∧ (ix_mst T cA cI N M i).vm = T.vm ∧ (ix_mst T cA cI N M i).slotsUsed = T.slotsUsed + N + i * M ∧ (∀ q, q < T.heap.size → (ix_mst T cA cI N M i).heap[q]? = T.heap[q]?) ∧ ∀ j, j < i → (ix_mst T cA cI N M i).heap[T.heap.size + 1 + j]? = some (ix_mi cI M)
  | 0 => by
    refine ⟨by simp [ix_mst], by simp [ix_mst], rfl, by simp [ix_mst, ix_mo, arrV_size], fun q hq => State.heap_pushCell_of_lt _ _ hq, fun j h => absurd h (Nat.not_lt_zero _)⟩
  | i + 1 => by
    obtain ⟨a, b, c, u, o, r⟩ := ix_mst_facts T cA cI N M i
    have hlt : T.heap.size < (ix_mst T cA cI N M i).heap.size := by rw [a]; exact Nat.lt_of_lt_of_le (Nat.lt_succ_self _) (Nat.le_add_right _ _)
    have hb : ((ix_mst T cA cI N M i).pushCell (ix_mi cI M)).heap[T.heap.size]? = some (ix_mo cA N T.heap.size i) := by rw [State.heap_pushCell_of_lt (h := hlt)]; exact b
    refine ⟨?_, State.heap_setCell_self hb, by simp [ix_mst, c], ?_, fun q hq => ?_, fun j hj => ?_⟩
    · simp [ix_mst, State.setCell, a, Nat.add_assoc]
    · simp [ix_mst, u, ix_mi, arrV_size, Nat.succ_mul, Nat.add_assoc]
    · show (((ix_mst T cA cI N M i).pushCell (ix_mi cI M)).setCell T.heap.size _).heap[q]? = _
      rw [State.heap_setCell_other (Nat.ne_of_gt hq), State.heap_pushCell_of_lt (h := Nat.lt_trans hq hlt)]
      exact o q hq
    · show (((ix_mst T cA cI N M i).pushCell (ix_mi cI M)).setCell T.heap.size _).heap[T.heap.size + 1 + j]? = _
      rw [State.heap_setCell_other (Nat.ne_of_lt (Nat.lt_of_lt_of_le (Nat.lt_succ_self _) (Nat.le_add_right _ _)))]
      rcases Nat.lt_or_ge j i with h | h
      · rw [State.heap_pushCell_of_lt (h := by rw [a]; exact Nat.add_lt_add_left h _)]
        exact r j h
      · have e : j = i := Nat.le_antisymm (Nat.le_of_lt_succ hj) h
        subst e
        rw [← a]
        exact State.heap_pushCell_size _ _
theorem ix_mst_top (T : State) (f : JFrame) (cA cI : ClassId) (N M : Nat) : ∀ i, ix_mst (T.setTop f) cA cI N M i = (ix_mst T cA cI N M i).setTop f
  | 0 => rfl
  | i + 1 => by simp only [ix_mst, ix_mst_top T f cA cI N M i, State.heap_setTop, State.pushCell_setTop, State.setCell_setTop]
section IXMA
variable {E : CtlPost} {e : Env} {d : Bool} {acts : List Action} {s : State}
theorem ix_mk1 {comp cc : ClassId} {kc : Class} {m : Int32} (hkc : s.vm.classes[comp]? = some kc) (hkindc : kc.kind = .array cc .int) (hm : ¬ m < 0)
    (hl2 : ¬ m.toNatClampNeg > e.platform.arrayLengthLimit) (hh2 : ¬ m.toNatClampNeg * 4 > e.platform.maxHeapBytes) (h1 : s.heap.size < e.platform.maxCells) (h2 : s.slotsUsed + m.toNatClampNeg ≤ e.platform.maxSlots)
    {Q : Addr → Pre} (hq : ∀ acts', Q s.heap.size d acts' (s.pushCell (ix_mi comp m.toNatClampNeg))) : wp (multianewarray.make comp [m]) Q E e d acts s := by
  rw [multianewarray.make]
  simp only [wp_bind', W.ite, hm, if_false, wp_pure', W.theClass, hkc, hkindc, Option.some.injEq, exists_eq_left']
  refine W.newArray_of hkc hkindc hl2 hh2 h1 h2 rfl (fun acts' => ?_)
  have h := hq acts'
  rw [ix_mi, ← arrV_new] at h
  exact h
theorem ix_mk2 {cA comp cc : ClassId} {k kc : Class} {n m : Int32} (hk : s.vm.classes[cA]? = some k) (hkind : k.kind = .array comp (.array .int)) (hkc : s.vm.classes[comp]? = some kc) (hkindc : kc.kind = .array cc .int) (hn : ¬ n < 0) (hm : ¬ m < 0)
    (hl1 : ¬ n.toNatClampNeg > e.platform.arrayLengthLimit) (hh1 : ¬ n.toNatClampNeg * 4 > e.platform.maxHeapBytes) (hl2 : ¬ m.toNatClampNeg > e.platform.arrayLengthLimit) (hh2 : ¬ m.toNatClampNeg * 4 > e.platform.maxHeapBytes)
    (hc : s.heap.size + 1 + n.toNatClampNeg ≤ e.platform.maxCells) (hs : s.slotsUsed + n.toNatClampNeg + n.toNatClampNeg * m.toNatClampNeg ≤ e.platform.maxSlots)
    {Q : Addr → Pre} (hq : ∀ d' acts', Q s.heap.size d' acts' (ix_mst s cA comp n.toNatClampNeg m.toNatClampNeg n.toNatClampNeg)) : wp (multianewarray.make cA [n, m]) Q E e d acts s := by
  have hfind : ([m].find? (· < 0)) = none := by simp [hm]
  rw [multianewarray.make]
  simp only [wp_bind', W.ite, hn, if_false, wp_pure', W.theClass, hk, hkind, Option.some.injEq, exists_eq_left']
  refine W.newArray_of hk hkind hl1 hh1 (by omega) (by have := Nat.zero_le (n.toNatClampNeg * m.toNatClampNeg); omega) rfl (fun acts' => ?_)
  simp only [hfind]
  rw [ite_self, wp_bind', Std.Legacy.Range.forIn_eq_forIn_range']
  have hsz : ([:n.toNatClampNeg] : Std.Legacy.Range).size = n.toNatClampNeg := by simp [Std.Legacy.Range.size]
  rw [hsz]
  show wp (forIn (List.range' 0 n.toNatClampNeg 1) PUnit.unit _) _ E e d acts' _
  refine wp_forIn_inv (fun rest s' => ∃ i, i ≤ n.toNatClampNeg ∧ rest = List.range' i (n.toNatClampNeg - i) ∧ s' = ix_mst s cA comp n.toNatClampNeg m.toNatClampNeg i) _ _ ⟨0, Nat.zero_le _, rfl, ?_⟩ ?_ ?_
  · show s.pushCell _ = s.pushCell _
    congr 1
    rw [ix_mo, arrV_new]
    congr 1
  · rintro x rest s' d' acts' Q' ⟨i, hi, hl, rfl⟩ hnext
    have hlt : i < n.toNatClampNeg := by
      rcases Nat.lt_or_ge i n.toNatClampNeg with h | h
      · exact h
      · rw [show n.toNatClampNeg - i = 0 from by omega] at hl; simp at hl
    obtain ⟨rfl, hrest⟩ : x = i ∧ rest = List.range' (i + 1) (n.toNatClampNeg - (i + 1)) := by
      rw [show n.toNatClampNeg - i = (n.toNatClampNeg - (i + 1)) + 1 from by omega, List.range'_succ] at hl
      exact ⟨(List.cons.inj hl).1, (List.cons.inj hl).2⟩
    obtain ⟨f1, f2, f3, f4, -, -⟩ := ix_mst_facts s cA comp n.toNatClampNeg m.toNatClampNeg x
    have hmul : x * m.toNatClampNeg + m.toNatClampNeg ≤ n.toNatClampNeg * m.toNatClampNeg := by
      have := Nat.mul_le_mul_right m.toNatClampNeg (show x + 1 ≤ n.toNatClampNeg from hlt)
      rw [Nat.succ_mul] at this; exact this
    simp only [wp_bind']
    refine ix_mk1 (by rw [f3]; exact hkc) hkindc hm hl2 hh2 (by rw [f1]; omega) (by rw [f4]; omega) (fun acts'' => ?_)
    have hlt0 : s.heap.size < (ix_mst s cA comp n.toNatClampNeg m.toNatClampNeg x).heap.size := by rw [f1]; omega
    simp only [wp_bind', W.writeLoc, wp_pure']
    refine ⟨ix_mo cA n.toNatClampNeg s.heap.size x, by rw [State.heap_pushCell_of_lt (h := hlt0)]; exact f2, by simp [ix_mo, arrV], by rw [ix_mo, arrV_size]; exact hlt, ?_, hnext _ _ _ ⟨x + 1, hlt, hrest, ?_⟩⟩
    · simp [ix_mo, arrV, State.fitsSlot, State.slotType?, f3, hk, hkind]
      rfl
    · rw [f1, ix_mo_set]; rfl
  · rintro s' d' acts' ⟨i, hi, hl, rfl⟩
    have hiN : i = n.toNatClampNeg := by
      rcases Nat.lt_or_ge i n.toNatClampNeg with h | h
      · rw [show n.toNatClampNeg - i = (n.toNatClampNeg - (i + 1)) + 1 from by omega, List.range'_succ] at hl; cases hl
      · omega
    subst hiN
    simp only [wp_pure']
    exact hq _ _
end IXMA
def ix_zm (z : ix_Z) : ix_Z := (fun a k => if a = z.2.2 then (if k < 40 then some (z.2.2 + 1 + k) else none) else if z.2.2 < a ∧ a ≤ z.2.2 + 40 then none else z.1 a k, fun a => if a = z.2.2 then (25, 40) else if z.2.2 < a ∧ a ≤ z.2.2 + 40 then (20, 12) else z.2.1 a, z.2.2 + 41)
def ix_dm (d : ix_D2) (N : Nat) : ix_D2 := (fun a k => if N ≤ a ∧ a ≤ N + 40 then 0 else d.1 a k, fun a k => if N ≤ a ∧ a ≤ N + 40 then 0 else d.2 a k)
section IXMB
variable {p : Program} {l : Launch} {e : Env} {R : Room} {s : State} {m : MethodId} {args : Array Value} {below : List Frame} {meth : Method} {c : Code} {Q : State → Prop} {K : ix_Cx} {nL k n : Nat} {cc : ByteArray} {own : String} {pc : Nat} {L : List (Nat × Value)} {S : List Value} {z : ix_Z} {d : ix_D2}
theorem ix_mst_stand {T : State} {locs : List Loc} {cells slots : Nat} (X : Stand p l e R s m args below meth c T locs cells slots) (cA cI : ClassId) (N M : Nat) : ∀ i : Nat, Stand p l e R s m args below meth c (ix_mst T cA cI N M i) (locs ++ (List.range i).map fun j => ⟨T.heap.size, j⟩) (cells + 1 + i) (slots + N + i * M)
  | 0 => by
    have h := X.pushed (ix_mo cA N T.heap.size 0)
    rw [show (ix_mo cA N T.heap.size 0).slots.size = N from arrV_size _ _ _] at h
    simpa [ix_mst] using h
  | i + 1 => by
    have Xi := ix_mst_stand X cA cI N M i
    obtain ⟨f1, f2, -, -, -, -⟩ := ix_mst_facts T cA cI N M i
    have hlt : T.heap.size < (ix_mst T cA cI N M i).heap.size := by rw [f1]; exact Nat.lt_of_lt_of_le (Nat.lt_succ_self _) (Nat.le_add_right _ _)
    have hcell : ((ix_mst T cA cI N M i).pushCell (ix_mi cI M)).heap[T.heap.size]? = some (ix_mo cA N T.heap.size i) := by rw [State.heap_pushCell_of_lt (h := hlt)]; exact f2
    have h := (Xi.pushed (ix_mi cI M)).stored hcell i (.ref (T.heap.size + 1 + i))
    rw [show (ix_mi cI M).slots.size = M from arrV_size _ _ _, ix_mo_set] at h
    have e2 : (locs ++ (List.range (i + 1)).map fun j => (⟨T.heap.size, j⟩ : Loc)) = (locs ++ (List.range i).map fun j => (⟨T.heap.size, j⟩ : Loc)) ++ [⟨T.heap.size, i⟩] := by simp [List.range_succ, List.append_assoc]
    have e3 : slots + N + (i + 1) * M = slots + N + i * M + M := by rw [Nat.succ_mul, Nat.add_assoc (slots + N)]
    rw [e2, e3]
    exact h
theorem ix_over2 {U : State} (h : (Cond.arrayOver (.array .int)).before #[] U = true) : ∃ comp c k, U.vm.findClass (FieldType.array .int).toString = some comp ∧ U.vm.classes[c]? = some k ∧ k.kind = .array comp (.array .int) ∧ U.vm.findClass ("[" ++ (FieldType.array .int).toString) = some c := by
  have h : (Cond.arrayOver (.array .int)).holds #[] U none U [] = true := h
  simp only [Cond.holds, Cond.value, beq_iff_eq] at h
  cases hc : U.vm.findClass (FieldType.array .int).toString with
  | none => simp [hc] at h
  | some comp =>
    simp only [hc, Option.bind_some, Option.bind_eq_some_iff, Option.map_eq_some_iff] at h
    obtain ⟨c, hi, k, hk, hb⟩ := h
    obtain ⟨hlt, hp, -⟩ := Array.findIdx?_eq_some_iff_getElem.mp hi
    have hkk : U.vm.classes[c] = k := (Array.getElem?_eq_some_iff.mp hk).2
    rw [hkk] at hp
    cases hkind : k.kind with
    | array component ty =>
      rw [hkind] at hb hp
      simp at hb hp
      exact ⟨comp, c, k, rfl, hk, by rw [hkind, hp, hb.1], hb.2⟩
    | _ => rw [hkind] at hb; simp at hb
theorem ix_mP {H H1 : Heap} (hP : va_P K.1 ix_cl (ix_ws K (ix_w z d)) H) (hz : H.size = K.2.2.1 + z.2.2) (o1 : ∀ q, q < H.size → H1[q]? = H[q]?) (e1 : H1[H.size]? = some (ix_mo (K.2.1 5) 40 H.size 40)) (e2 : ∀ j, j < 40 → H1[H.size + 1 + j]? = some (ix_mi (K.2.1 0) 12)) : va_P K.1 ix_cl (ix_ws K (ix_w (ix_zm z) (ix_dm d z.2.2))) H1 := by
  intro i q hq
  have hi : i < z.2.2 + 41 := by
    have := (List.getElem?_eq_some_iff.mp hq).1
    rw [ix_len] at this
    exact this
  rw [ix_at (w := ix_w (ix_zm z) (ix_dm d z.2.2)) hi] at hq
  cases hq
  rcases Nat.lt_trichotomy i z.2.2 with h | h | h
  · have hh : ix_e K (ix_w (ix_zm z) (ix_dm d z.2.2)) i = ix_e K (ix_w z d) i := by
      have g1 : i ≠ z.2.2 := by omega
      have g2 : ¬ (z.2.2 < i ∧ i ≤ z.2.2 + 40) := by omega
      have g3 : ¬ (z.2.2 ≤ i ∧ i ≤ z.2.2 + 40) := by omega
      exact ix_e_congr (by funext k'; simp [ix_w, ix_dm, g3]) (by funext k'; simp [ix_w, ix_dm, g3]) (by funext k'; simp [ix_w, ix_zm, g1, g2]) (by simp [ix_T, ix_w, ix_zm, g1, g2])
    rw [hh]
    exact (hP i _ (ix_at (w := ix_w z d) h)).kept (o1 _ (by show K.2.2.1 + i < H.size; rw [hz]; omega))
  · subst h
    rw [ix_ei (t := 25) (n := 40) (by simp [ix_T, ix_w, ix_zm]) (by decide), ix_c25]
    show H1[K.2.2.1 + z.2.2]? = some (vp_cell (K.2.1 5) _)
    rw [← hz, e1, vp_cell_q]
    refine congrArg some ?_
    unfold ix_mo
    refine congrArg (arrV (K.2.1 5) 40) ?_
    funext j
    by_cases hj : j < 40
    · simp [ix_w, ix_zm, hj, hz, Nat.add_assoc]
    · simp [ix_w, ix_zm, hj]
  · have g1 : i ≠ z.2.2 := by omega
    have g2 : z.2.2 < i ∧ i ≤ z.2.2 + 40 := by omega
    have g3 : z.2.2 ≤ i ∧ i ≤ z.2.2 + 40 := by omega
    rw [ix_ei (t := 20) (n := 12) (by simp [ix_T, ix_w, ix_zm, g1, g2]) (by decide), ix_c20]
    show H1[K.2.2.1 + i]? = some (vp_cell (K.2.1 0) _)
    rw [show K.2.2.1 + i = H.size + 1 + (i - z.2.2 - 1) by rw [hz]; omega, e2 _ (by omega), vp_cell_i]
    refine congrArg some ?_
    unfold ix_mi
    refine congrArg (arrV (K.2.1 0) 12) ?_
    funext j
    simp [ix_w, ix_dm, g3]
theorem iz_mna (X : ix_X p s m args c K cc own nL) (hF : ix_Fc K) {pl pq idx : Nat} {z1 : ix_Z} {d1 : ix_D2} (h1 : tables_1[pl]? = some (Cond.classLink own idx "[[I")) (h2 : tables_1[pq]? = some (Cond.arrayClass .int)) (hc : k + 41 ≤ R.cells) (hs : n + 520 ≤ R.slots) (hd : decode cc pc = .ok (.multianewarray idx 2, 4)) (hz1 : z1 = ix_zm z) (hd1 : d1 = ix_dm d z.2.2) {pc1 : Nat} (hp : pc + 4 = pc1)
    (kk : ix_G p l e R s m args below meth c Q K nL (k + 41) (n + 520) pc1 L (.ref (K.2.2.1 + z.2.2) :: S) (ix_w z1 d1)) : ix_G p l e R s m args below meth c Q K nL k n pc L (.int 12 :: .int 40 :: S) (ix_w z d) := by
  subst hp
  subst hz1
  subst hd1
  intro H locs ls hP hz hS hl T hT X0
  have hts := X.2.2.2.2.1
  have hO := X.2.2.2.2.2.1
  have hz' : H.size = K.2.2.1 + z.2.2 := hz
  have hTs : T.heap.size = H.size := by rw [hT]
  have n40 : (40 : Int32).toNatClampNeg = 40 := by decide
  have n12 : (12 : Int32).toNatClampNeg = 12 := by decide
  have hpl : e.platform.magicAccessors = ({} : Platform).magicAccessors := by rw [X0.admits.platform]
  obtain ⟨comp, cA, kA, hcomp, hkA, hkindA, hnameA⟩ := ix_over2 (hF s hO.2.2).2.2
  obtain ⟨comp', kC, c2, hcomp', hkC, hkindC⟩ := Cond.arrayClass_spec (hts _ (ix_tbm (ix_wm h2) rfl))
  have ecomp : comp' = comp := Option.some.inj (hcomp'.symm.trans hcomp)
  subst ecomp
  have hI : K.2.1 0 = comp' := Option.some.inj (Eq.trans (Eq.symm (hO.1.2 0 _ rfl).2) hcomp)
  have hAA : K.2.1 5 = cA := Option.some.inj (Eq.trans (Eq.symm (hO.1.2 5 _ rfl).2) hnameA)
  obtain ⟨c0, hfc0, hcl⟩ := Cond.classLink_spec X.2.2.2.1 (hts _ (ix_tbm (ix_wm h1) rfl)) e.platform hpl
  cases hnameA.symm.trans hfc0
  obtain ⟨hg₁, hwarm₁, hready₁⟩ := State.classEntry (e := e) X0.warmed hcl
  generalize T.vm.noted m.cls idx (.cls cA) = vm₁ at hg₁ hwarm₁ hready₁
  obtain ⟨kA₁, hkA₁, heA⟩ := hwarm₁.alike.2.2 _ _ hkA
  obtain ⟨kC₁, hkC₁, heC⟩ := hwarm₁.alike.2.2 _ _ hkC
  have hkindA₁ : kA₁.kind = .array comp' (.array .int) := by rw [heA]; exact hkindA
  have hkindC₁ : kC₁.kind = .array c2 .int := by rw [heC]; exact hkindC
  have X₁ := X0.noted hwarm₁
  obtain ⟨hr1, hr2⟩ := X0.roomAbove (a := 41) (b := 520) hc hs
  have XF := ix_mst_stand X₁ cA comp' 40 12 40
  obtain ⟨f1, f2, f3, f4, f5, f6⟩ := ix_mst_facts (T.setVm vm₁) cA comp' 40 12 40
  have hh : (T.setVm vm₁).heap = H := hT
  rw [hh] at f1 f2 f5 f6
  have hPn : va_P K.1 ix_cl (ix_ws K (ix_w (ix_zm z) (ix_dm d z.2.2))) (ix_mst (T.setVm vm₁) cA comp' 40 12 40).heap := ix_mP hP hz' f5 (by rw [hAA]; exact f2) (fun j hj => by rw [hI]; exact f6 j hj)
  obtain ⟨t, a1, b1⟩ := kk (ix_mst (T.setVm vm₁) cA comp' 40 12 40).heap _ ls hPn (by rw [f1, hz']; rfl) ⟨by rw [f1]; exact Nat.le_trans hS.1 (by omega), fun q g1 g2 => by rw [f5 q (Nat.lt_of_lt_of_le g1 hS.1)]; exact hS.2.1 q g1 g2, fun q hq => by
      rcases List.mem_append.mp hq with h | h
      · exact hS.2.2 q h
      · obtain ⟨j, -, rfl⟩ := List.mem_map.mp h
        show K.2.2.1 ≤ (T.setVm vm₁).heap.size
        rw [hh, hz']
        exact Nat.le_add_right _ _⟩ hl _ rfl XF
  refine ⟨t, ?_, b1⟩
  rw [← hz', ← hTs] at a1
  have hdc : decode c.code pc = .ok (.multianewarray idx 2, 4) := by rw [X.2.1]; exact hd
  jvm_step X0.here [X.1, hdc]
  simp only [multianewarray.sem, wp_bind', W.resolveClassAt_links (State.method?_setTop (F0 m pc ls (.int 12 :: .int 40 :: S)) X0.here.top) hg₁]
  rw [W.popN, if_neg (by decide)]
  refine ⟨F0 m pc ls (.int 12 :: .int 40 :: S), State.topJava?_setTop' (s := T.setVm vm₁) _ X0.here.top, [.int 40, .int 12], S, rfl, rfl, ?_⟩
  simp only [List.mapM_cons, List.mapM_nil, wp_bind', wp_pure']
  refine ix_mk2 (k := kA₁) (kc := kC₁) (comp := comp') (cc := c2) hkA₁ hkindA₁ hkC₁ hkindC₁ (by decide) (by decide) (by rw [Launch.admits_arrayLengthLimit X0.admits, n40]; decide) (by rw [Launch.admits_maxHeapBytes X0.admits, n40]; decide) (by rw [Launch.admits_arrayLengthLimit X0.admits, n12]; decide) (by rw [Launch.admits_maxHeapBytes X0.admits, n12]; decide) (by rw [n40]; show T.heap.size + 1 + 40 ≤ _; omega) (by rw [n40, n12]; show T.slotsUsed + 40 + 40 * 12 ≤ _; omega) (fun d' acts' => ?_)
  have eS : ((T.setTop (F0 m pc ls (.int 12 :: .int 40 :: S))).setVm vm₁).setTop { F0 m pc ls (.int 12 :: .int 40 :: S) with stack := S } = (T.setVm vm₁).setTop { F0 m pc ls (.int 12 :: .int 40 :: S) with stack := S } := by
    show ((T.setVm vm₁).setTop _).setTop _ = _
    rw [State.setTop_setTop]
  rw [eS, ix_mst_top, n40, n12]
  simp only [wp_bind', W.mark, W.pushRef, State.topJava?_setTop' _ XF.here.top, Option.some.injEq, exists_eq_left', State.setTop_setTop, State.heap_setTop]
  intro acts
  simp [jvm, XF.here.top]
  exact a1
end IXMB
end
section
theorem zz_end : True := trivial
end

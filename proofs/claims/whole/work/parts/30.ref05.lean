theorem mf_X12_heaviest : ix_mf yX12_heaviest cX12_heaviest 4 (some .int) 1 := ⟨ix_wm (i := 2324) (by decide +kernel), ix_wm (i := 8) (by decide +kernel), ⟨by decide +kernel, by decide +kernel⟩, by decide +kernel, by decide +kernel⟩
theorem mi_X12_heaviest : Cond.instanceMethod yX12_heaviest ∈ lw_tbl := ix_wm (i := 2323) (by decide +kernel)
theorem ms_X12_find : Cond.selects yX12_find.cls yX12_find yX12_find ∈ lw_tbl := List.mem_append_left _ (List.mem_of_getElem? (i := 97) (by decide +kernel))
theorem ml_RX12_493 : tables_1[2211]? = some (Cond.methodLink RX12 493 yX12_find) := by decide +kernel
theorem ms_X12_become : Cond.selects yX12_become.cls yX12_become yX12_become ∈ lw_tbl := List.mem_append_left _ (List.mem_of_getElem? (i := 102) (by decide +kernel))
theorem ml_RX12_499 : tables_1[2231]? = some (Cond.methodLink RX12 499 yX12_become) := by decide +kernel
theorem ms_X12_heaviest : Cond.selects yX12_heaviest.cls yX12_heaviest yX12_heaviest ∈ lw_tbl := List.mem_append_left _ (List.mem_of_getElem? (i := 123) (by decide +kernel))
theorem ml_RX12_511 : tables_1[2321]? = some (Cond.methodLink RX12 511 yX12_heaviest) := by decide +kernel
theorem ms_X12_endAsked : Cond.selects yX12_endAsked.cls yX12_endAsked yX12_endAsked ∈ lw_tbl := List.mem_append_left _ (List.mem_of_getElem? (i := 121) (by decide +kernel))
theorem ml_RX12_508 : tables_1[2313]? = some (Cond.methodLink RX12 508 yX12_endAsked) := by decide +kernel
theorem ms_X12_learn : Cond.selects yX12_learn.cls yX12_learn yX12_learn ∈ lw_tbl := List.mem_append_left _ (List.mem_of_getElem? (i := 112) (by decide +kernel))
theorem ml_RX12_505 : tables_1[2271]? = some (Cond.methodLink RX12 505 yX12_learn) := by decide +kernel
theorem ms_X12_endLow : Cond.selects yX12_endLow.cls yX12_endLow yX12_endLow ∈ lw_tbl := List.mem_append_left _ (List.mem_of_getElem? (i := 107) (by decide +kernel))
theorem ml_RX12_502 : tables_1[2251]? = some (Cond.methodLink RX12 502 yX12_endLow) := by decide +kernel
theorem fl_RX12_457 : ix_flb 1664 0 false RX12 457 "ClauseCourtModel" [11] 100 0 = true := by decide +kernel
theorem mf_X12_oneTurn : ix_mf yX12_oneTurn cX12_oneTurn 5 (some .int) 1 := ⟨ix_wm (i := 2210) (by decide +kernel), ix_wm (i := 8) (by decide +kernel), ⟨by decide +kernel, by decide +kernel⟩, by decide +kernel, by decide +kernel⟩
theorem mi_X12_oneTurn : Cond.instanceMethod yX12_oneTurn ∈ lw_tbl := ix_wm (i := 2209) (by decide +kernel)
theorem ms_X12_oneTurn : Cond.selects yX12_oneTurn.cls yX12_oneTurn yX12_oneTurn ∈ lw_tbl := List.mem_append_left _ (List.mem_of_getElem? (i := 96) (by decide +kernel))
theorem ml_RX12_487 : tables_1[2207]? = some (Cond.methodLink RX12 487 yX12_oneTurn) := by decide +kernel
theorem mf_X12_solving : ix_mf yX12_solving cX12_solving 3 (some .int) 1 := ⟨ix_wm (i := 2206) (by decide +kernel), ix_wm (i := 8) (by decide +kernel), ⟨by decide +kernel, by decide +kernel⟩, by decide +kernel, by decide +kernel⟩
theorem mi_X12_solving : Cond.instanceMethod yX12_solving ∈ lw_tbl := ix_wm (i := 2205) (by decide +kernel)
theorem mf_X12_ended : ix_mf yX12_ended cX12_ended 3 (some .int) 1 := ⟨ix_wm (i := 2328) (by decide +kernel), ix_wm (i := 8) (by decide +kernel), ⟨by decide +kernel, by decide +kernel⟩, by decide +kernel, by decide +kernel⟩
theorem mi_X12_ended : Cond.instanceMethod yX12_ended ∈ lw_tbl := ix_wm (i := 2327) (by decide +kernel)
theorem mf_X12_areSteps : ix_mf yX12_areSteps cX12_areSteps 1 (some .boolean) 1 := ⟨ix_wm (i := 2193) (by decide +kernel), ix_wm (i := 8) (by decide +kernel), ⟨by decide +kernel, by decide +kernel⟩, by decide +kernel, by decide +kernel⟩
theorem st_X12_areSteps : Cond.static yX12_areSteps ∈ lw_tbl := ix_wm (i := 2192) (by decide +kernel)
theorem ml_RX12_578 : tables_1[2191]? = some (Cond.methodLink RX12 578 yX12_areSteps) := by decide +kernel
theorem ms_X12_prepare : Cond.selects yX12_prepare.cls yX12_prepare yX12_prepare ∈ lw_tbl := List.mem_append_left _ (List.mem_of_getElem? (i := 93) (by decide +kernel))
theorem ml_RX12_581 : tables_1[2194]? = some (Cond.methodLink RX12 581 yX12_prepare) := by decide +kernel
theorem ms_X12_askAll : Cond.selects yX12_askAll.cls yX12_askAll yX12_askAll ∈ lw_tbl := List.mem_append_left _ (List.mem_of_getElem? (i := 94) (by decide +kernel))
theorem ml_RX12_584 : tables_1[2199]? = some (Cond.methodLink RX12 584 yX12_askAll) := by decide +kernel
theorem fp_RX12_470 : ix_fpb 1622 0 false RX12 470 "ClauseCourtModel" [11] 58 "Z" false = true := by decide +kernel
theorem fp_RX12_400 : ix_fpb 1623 0 false RX12 400 "ClauseCourtModel" [11] 59 "I" false = true := by decide +kernel
theorem ms_X12_solving : Cond.selects yX12_solving.cls yX12_solving yX12_solving ∈ lw_tbl := List.mem_append_left _ (List.mem_of_getElem? (i := 95) (by decide +kernel))
theorem ml_RX12_587 : tables_1[2203]? = some (Cond.methodLink RX12 587 yX12_solving) := by decide +kernel
theorem ms_X12_ended : Cond.selects yX12_ended.cls yX12_ended yX12_ended ∈ lw_tbl := List.mem_append_left _ (List.mem_of_getElem? (i := 124) (by decide +kernel))
theorem ml_RX12_590 : tables_1[2325]? = some (Cond.methodLink RX12 590 yX12_ended) := by decide +kernel
theorem mf_X12_solve : ix_mf yX12_solve cX12_solve 2 (some .int) 1 := ⟨ix_wm (i := 2190) (by decide +kernel), ix_wm (i := 8) (by decide +kernel), ⟨by decide +kernel, by decide +kernel⟩, by decide +kernel, by decide +kernel⟩
theorem mi_X12_solve : Cond.instanceMethod yX12_solve ∈ lw_tbl := ix_wm (i := 2188) (by decide +kernel)
theorem fl_RX12_249 : ix_flb 1621 0 false RX12 249 "ClauseCourtModel" [11] 57 0 = true := by decide +kernel
theorem mf_X12_goOn : ix_mf yX12_goOn cX12_goOn 2 (some .int) 1 := ⟨ix_wm (i := 2332) (by decide +kernel), ix_wm (i := 8) (by decide +kernel), ⟨by decide +kernel, by decide +kernel⟩, by decide +kernel, by decide +kernel⟩
theorem mi_X12_goOn : Cond.instanceMethod yX12_goOn ∈ lw_tbl := ix_wm (i := 2330) (by decide +kernel)
theorem mf_X12_truth : ix_mf yX12_truth cX12_truth 2 (some .int) 1 := ⟨ix_wm (i := 2336) (by decide +kernel), ix_wm (i := 8) (by decide +kernel), ⟨by decide +kernel, by decide +kernel⟩, by decide +kernel, by decide +kernel⟩
theorem mi_X12_truth : Cond.instanceMethod yX12_truth ∈ lw_tbl := ix_wm (i := 2334) (by decide +kernel)
theorem mf_X12_solved : ix_mf yX12_solved cX12_solved 2 (some .int) 1 := ⟨ix_wm (i := 2340) (by decide +kernel), ix_wm (i := 8) (by decide +kernel), ⟨by decide +kernel, by decide +kernel⟩, by decide +kernel, by decide +kernel⟩
theorem mi_X12_solved : Cond.instanceMethod yX12_solved ∈ lw_tbl := ix_wm (i := 2338) (by decide +kernel)
theorem fl_RX12_533 : ix_flb 1655 0 false RX12 533 "ClauseCourtModel" [11] 91 0 = true := by decide +kernel
theorem mf_X12_quarrel : ix_mf yX12_quarrel cX12_quarrel 2 (some .int) 1 := ⟨ix_wm (i := 2344) (by decide +kernel), ix_wm (i := 8) (by decide +kernel), ⟨by decide +kernel, by decide +kernel⟩, by decide +kernel, by decide +kernel⟩
theorem mi_X12_quarrel : Cond.instanceMethod yX12_quarrel ∈ lw_tbl := ix_wm (i := 2342) (by decide +kernel)
theorem mf_X12_hasCore : ix_mf yX12_hasCore cX12_hasCore 1 (some .boolean) 0 := ⟨ix_wm (i := 2352) (by decide +kernel), ix_wm (i := 8) (by decide +kernel), ⟨by decide +kernel, by decide +kernel⟩, by decide +kernel, by decide +kernel⟩
theorem mi_X12_hasCore : Cond.instanceMethod yX12_hasCore ∈ lw_tbl := ix_wm (i := 2351) (by decide +kernel)
theorem ms_X12_hasCore : Cond.selects yX12_hasCore.cls yX12_hasCore yX12_hasCore ∈ lw_tbl := List.mem_append_left _ (List.mem_of_getElem? (i := 125) (by decide +kernel))
theorem ml_RX12_593 : tables_1[2349]? = some (Cond.methodLink RX12 593 yX12_hasCore) := by decide +kernel
theorem fl_RX12_526 : ix_flb 1660 0 false RX12 526 "ClauseCourtModel" [11] 96 0 = true := by decide +kernel
theorem mf_X12_core : ix_mf yX12_core cX12_core 2 (some .int) 1 := ⟨ix_wm (i := 2348) (by decide +kernel), ix_wm (i := 8) (by decide +kernel), ⟨by decide +kernel, by decide +kernel⟩, by decide +kernel, by decide +kernel⟩
theorem mi_X12_core : Cond.instanceMethod yX12_core ∈ lw_tbl := ix_wm (i := 2346) (by decide +kernel)
theorem ms_X12_core : Cond.selects yX12_core.cls yX12_core yX12_core ∈ lw_tbl := ix_wm (i := 2347) (by decide +kernel)
theorem ml_RX12_596 : tables_1[2357]? = some (Cond.methodLink RX12 596 yX12_core) := by decide +kernel
theorem mf_X12_coreAt : ix_mf yX12_coreAt cX12_coreAt 4 (some .int) 2 := ⟨ix_wm (i := 2356) (by decide +kernel), ix_wm (i := 8) (by decide +kernel), ⟨by decide +kernel, by decide +kernel⟩, by decide +kernel, by decide +kernel⟩
theorem mi_X12_coreAt : Cond.instanceMethod yX12_coreAt ∈ lw_tbl := ix_wm (i := 2354) (by decide +kernel)
theorem mf_X12_tried : ix_mf yX12_tried cX12_tried 5 (some .int) 3 := ⟨ix_wm (i := 2365) (by decide +kernel), ix_wm (i := 8) (by decide +kernel), ⟨by decide +kernel, by decide +kernel⟩, by decide +kernel, by decide +kernel⟩
theorem mi_X12_tried : Cond.instanceMethod yX12_tried ∈ lw_tbl := ix_wm (i := 2364) (by decide +kernel)
theorem ms_X12_tried : Cond.selects yX12_tried.cls yX12_tried yX12_tried ∈ lw_tbl := List.mem_append_left _ (List.mem_of_getElem? (i := 126) (by decide +kernel))
theorem ml_RX12_599 : tables_1[2362]? = some (Cond.methodLink RX12 599 yX12_tried) := by decide +kernel
theorem mf_X12_shrink : ix_mf yX12_shrink cX12_shrink 5 (some .int) 1 := ⟨ix_wm (i := 2361) (by decide +kernel), ix_wm (i := 8) (by decide +kernel), ⟨by decide +kernel, by decide +kernel⟩, by decide +kernel, by decide +kernel⟩
theorem mi_X12_shrink : Cond.instanceMethod yX12_shrink ∈ lw_tbl := ix_wm (i := 2359) (by decide +kernel)
theorem mf_X12_bitsOf : ix_mf yX12_bitsOf cX12_bitsOf 3 (some .int) 1 := ⟨ix_wm (i := 2372) (by decide +kernel), ix_wm (i := 8) (by decide +kernel), ⟨by decide +kernel, by decide +kernel⟩, by decide +kernel, by decide +kernel⟩
theorem st_X12_bitsOf : Cond.static yX12_bitsOf ∈ lw_tbl := ix_wm (i := 2371) (by decide +kernel)
theorem ml_RX12_602 : tables_1[2370]? = some (Cond.methodLink RX12 602 yX12_bitsOf) := by decide +kernel
theorem mf_X12_least : ix_mf yX12_least cX12_least 7 (some .int) 1 := ⟨ix_wm (i := 2369) (by decide +kernel), ix_wm (i := 8) (by decide +kernel), ⟨by decide +kernel, by decide +kernel⟩, by decide +kernel, by decide +kernel⟩
theorem mi_X12_least : Cond.instanceMethod yX12_least ∈ lw_tbl := ix_wm (i := 2367) (by decide +kernel)
theorem fp_RX12_605 : ix_fpb 1672 0 false RX12 605 "ClauseCourtModel" [11] 108 "I" false = true := by decide +kernel
theorem fl_RX12_605 : ix_flb 1672 0 false RX12 605 "ClauseCourtModel" [11] 108 0 = true := by decide +kernel
theorem fl_RX12_222 : ix_flb 1673 0 false RX12 222 "ClauseCourtModel" [11] 109 2 = true := by decide +kernel
theorem fl_RX12_225 : ix_flb 1674 0 false RX12 225 "ClauseCourtModel" [11] 110 2 = true := by decide +kernel
theorem mf_X12_take : ix_mf yX12_take cX12_take 2 (some .int) 0 := ⟨ix_wm (i := 2376) (by decide +kernel), ix_wm (i := 8) (by decide +kernel), ⟨by decide +kernel, by decide +kernel⟩, by decide +kernel, by decide +kernel⟩
theorem mi_X12_take : Cond.instanceMethod yX12_take ∈ lw_tbl := ix_wm (i := 2374) (by decide +kernel)
theorem mf_X12_claim : ix_mf yX12_claim cX12_claim 5 (some .int) 1 := ⟨ix_wm (i := 2380) (by decide +kernel), ix_wm (i := 8) (by decide +kernel), ⟨by decide +kernel, by decide +kernel⟩, by decide +kernel, by decide +kernel⟩
theorem mi_X12_claim : Cond.instanceMethod yX12_claim ∈ lw_tbl := ix_wm (i := 2378) (by decide +kernel)
theorem mf_X12_strike : ix_mf yX12_strike cX12_strike 4 (some .int) 1 := ⟨ix_wm (i := 2384) (by decide +kernel), ix_wm (i := 8) (by decide +kernel), ⟨by decide +kernel, by decide +kernel⟩, by decide +kernel, by decide +kernel⟩
theorem mi_X12_strike : Cond.instanceMethod yX12_strike ∈ lw_tbl := ix_wm (i := 2382) (by decide +kernel)
def tab_X12_heaviest : List (Nat × Instr × Nat) := [(0, .iconst 0, 1), (1, .istore_n 2, 1), (2, .iconst 1, 1), (3, .istore_n 3, 1), (4, .iload_n 3, 1), (5, .aload_n 0, 1), (6, .getfield 116, 3), (9, .iload_n 1, 1), (10, .iaload, 1), (11, .if_icmp .gt 59, 3), (14, .aload_n 0, 1), (15, .getfield 134, 3), (18, .sipush 301, 3), (21, .iload_n 1, 1), (22, .imul, 1), (23, .iload_n 3, 1), (24, .iadd, 1), (25, .iaload, 1), (26, .iconst 2, 1), (27, .if_icmp .ne 37, 3), (30, .iload_n 2, 1), (31, .ifCond .eq 31, 3), (34, .aload_n 0, 1), (35, .getfield 146, 3), (38, .sipush 301, 3), (41, .iload_n 1, 1), (42, .imul, 1), (43, .iload_n 3, 1), (44, .iadd, 1), (45, .laload, 1), (46, .aload_n 0, 1), (47, .getfield 146, 3), (50, .sipush 301, 3), (53, .iload_n 1, 1), (54, .imul, 1), (55, .iload_n 2, 1), (56, .iadd, 1), (57, .laload, 1), (58, .lcmp, 1), (59, .ifCond .le 5, 3), (62, .iload_n 3, 1), (63, .istore_n 2, 1), (64, .iinc 3 1, 3), (67, .goto (-63), 3), (70, .aload_n 0, 1), (71, .getfield 143, 3), (74, .sipush 301, 3), (77, .iload_n 1, 1), (78, .imul, 1), (79, .iload_n 2, 1), (80, .iadd, 1), (81, .iaload, 1), (82, .iconst 1, 1), (83, .if_icmp .ne 7, 3), (86, .iload_n 2, 1), (87, .goto 5, 3), (90, .iload_n 2, 1), (91, .ineg, 1), (92, .ireturn, 1)]
theorem tb_X12_heaviest : ix_tab cX12_heaviest tab_X12_heaviest := by
  unfold ix_tab
  decide +kernel
noncomputable def f_X12_heaviest_64 (n : Nat) (z : ix_Z) (rec4 : Int32 → Int32 → ix_D2 → Option (Int32 × ix_D2)) (a0 : Nat) (x1 : Int32) (x2 : Int32) (x3 : Int32) (d : ix_D2) : Option (Int32 × ix_D2) :=
  ix_lt (x3 + 1) (fun x3_14 => rec4 x2 x3_14 d)
noncomputable def f_X12_heaviest_62 (n : Nat) (z : ix_Z) (rec4 : Int32 → Int32 → ix_D2 → Option (Int32 × ix_D2)) (a0 : Nat) (x1 : Int32) (x3 : Int32) (d : ix_D2) : Option (Int32 × ix_D2) :=
  f_X12_heaviest_64 n z rec4 a0 x1 x3 x3 d
noncomputable def b_X12_heaviest_4 (n : Nat) (z : ix_Z)  (a0 : Nat) (x1 : Int32) (rec4 : Int32 → Int32 → ix_D2 → Option (Int32 × ix_D2)) (x2 : Int32) (x3 : Int32) (d : ix_D2) : Option (Int32 × ix_D2) :=
  ix_ck (ix_ok z [11] a0) (ix_bd1 (z.1 a0 61) (fun b_2 => ix_ck (ix_ix z 20 b_2 x1) (ix_if (d.1 b_2 (ix_n x1) < x3) (ix_bd1 (z.1 a0 72) (fun b_6 => ix_ck (ix_ix z 20 b_6 ((301 * x1) + x2)) (ix_if (d.1 b_6 (ix_n ((301 * x1) + x2)) = 1) (some (x2, d)) (some (-x2, d))))) (ix_bd1 (z.1 a0 69) (fun b_10 => ix_ck (ix_ix z 20 b_10 ((301 * x1) + x3)) (ix_if (d.1 b_10 (ix_n ((301 * x1) + x3)) = 2) (ix_if (x2 = 0) (f_X12_heaviest_62 n z rec4 a0 x1 x3 d) (ix_bd1 (z.1 a0 73) (fun b_17 => ix_ck (ix_ix z 23 b_17 ((301 * x1) + x3)) (ix_ck (ix_ix z 23 b_17 ((301 * x1) + x2)) (ix_if (lg_cmp (d.2 b_17 (ix_n ((301 * x1) + x3))) (d.2 b_17 (ix_n ((301 * x1) + x2))) ≤ 0) (f_X12_heaviest_64 n z rec4 a0 x1 x2 x3 d) (f_X12_heaviest_62 n z rec4 a0 x1 x3 d)))))) (f_X12_heaviest_64 n z rec4 a0 x1 x2 x3 d)))))))
noncomputable def f_X12_heaviest_4 (n : Nat) (z : ix_Z)  (a0 : Nat) (x1 : Int32) (x2 : Int32) (x3 : Int32) (d : ix_D2) : Option (Int32 × ix_D2) := ix_fix (b_X12_heaviest_4 n z  a0 x1) (fun _ _ _ => none) n x2 x3 d
noncomputable def f_X12_heaviest (n : Nat) (z : ix_Z) (a0 : Nat) (x1 : Int32) (d : ix_D2) : Option (Int32 × ix_D2) :=
  f_X12_heaviest_4 n z  a0 x1 0 1 d
set_option maxRecDepth 20000 in
theorem t_X12_heaviest_64 {l : Launch} {p : Program} {e : Env} {s : State} {m : MethodId} {args : Array Value} {below : List Frame} {meth : Method} {c : Code} {K : ix_Cx} (hKp : ix_Kp K) {n : Nat} {z : ix_Z} (X : ix_X p s m args c K cX12_heaviest RX12 4) (hr : meth.sig.returnType = (some .int)) (hlk : meth.locks = false) {rec4 : Int32 → Int32 → ix_D2 → Option (Int32 × ix_D2)} {a0 : Nat} {x1 : Int32} {x2 : Int32} {x3 : Int32} {r : Int32} {d1 : ix_D2} (hrec4 : ∀ (x2 : Int32) (x3 : Int32) (d : ix_D2), rec4 x2 x3 d = some (r, d1) → ix_G p l e (ix_rm 0 0 0 0) s m args below meth c (MQ below (ix_Post K (some (.int r)) (ix_w z d1)) args s 0 0 (ix_A K)) K 4 0 0 4 [(0, .ref (K.2.2.1 + a0)), (1, .int x1), (2, .int x2), (3, .int x3)] [] (ix_w z d)) {d : ix_D2} (h : f_X12_heaviest_64 n z rec4 a0 x1 x2 x3 d = some (r, d1)) : ix_G p l e (ix_rm 0 0 0 0) s m args below meth c (MQ below (ix_Post K (some (.int r)) (ix_w z d1)) args s 0 0 (ix_A K)) K 4 0 0 64 [(0, .ref (K.2.2.1 + a0)), (1, .int x1), (2, .int x2), (3, .int x3)] [] (ix_w z d) := by
  unfold f_X12_heaviest_64 at h
  obtain ⟨x3_14, e_15, h⟩ := ix_lt_ex h
  refine ix_iinc (i := 3) (j := 3) (v := x3_14) (L1 := [(3, .int x3_14), (0, .ref (K.2.2.1 + a0)), (1, .int x1), (2, .int x2)]) X (ix_tb_at tb_X12_heaviest 42 rfl) rfl (by rw [oi_1]; exact e_15.symm) (Nat.le_of_ble_eq_true rfl) rfl (pc1 := 67) rfl ?_
  refine ix_goto (tgt := 4) X (ix_tb_at tb_X12_heaviest 43 rfl) (by decide) ?_
  refine ix_sub (L1 := [(0, .ref (K.2.2.1 + a0)), (1, .int x1), (2, .int x2), (3, .int x3_14)]) [1, 2, 3, 0] rfl ?_
  exact hrec4 x2 x3_14 d h
set_option maxRecDepth 20000 in
theorem t_X12_heaviest_62 {l : Launch} {p : Program} {e : Env} {s : State} {m : MethodId} {args : Array Value} {below : List Frame} {meth : Method} {c : Code} {K : ix_Cx} (hKp : ix_Kp K) {n : Nat} {z : ix_Z} (X : ix_X p s m args c K cX12_heaviest RX12 4) (hr : meth.sig.returnType = (some .int)) (hlk : meth.locks = false) {rec4 : Int32 → Int32 → ix_D2 → Option (Int32 × ix_D2)} {a0 : Nat} {x1 : Int32} {x3 : Int32} {r : Int32} {d1 : ix_D2} (hrec4 : ∀ (x2 : Int32) (x3 : Int32) (d : ix_D2), rec4 x2 x3 d = some (r, d1) → ix_G p l e (ix_rm 0 0 0 0) s m args below meth c (MQ below (ix_Post K (some (.int r)) (ix_w z d1)) args s 0 0 (ix_A K)) K 4 0 0 4 [(0, .ref (K.2.2.1 + a0)), (1, .int x1), (2, .int x2), (3, .int x3)] [] (ix_w z d)) {d : ix_D2} (h : f_X12_heaviest_62 n z rec4 a0 x1 x3 d = some (r, d1)) : ix_G p l e (ix_rm 0 0 0 0) s m args below meth c (MQ below (ix_Post K (some (.int r)) (ix_w z d1)) args s 0 0 (ix_A K)) K 4 0 0 62 [(0, .ref (K.2.2.1 + a0)), (1, .int x1), (3, .int x3)] [] (ix_w z d) := by
  unfold f_X12_heaviest_62 at h
  refine ix_iload_n (i := 3) (j := 2) X (ix_tb_at tb_X12_heaviest 40 rfl) rfl rfl (pc1 := 63) rfl ?_
  refine ix_istore_n (i := 2) (L1 := [(2, .int x3), (0, .ref (K.2.2.1 + a0)), (1, .int x1), (3, .int x3)]) X (ix_tb_at tb_X12_heaviest 41 rfl) rfl (Nat.le_of_ble_eq_true rfl) rfl (pc1 := 64) rfl ?_
  refine ix_sub (L1 := [(0, .ref (K.2.2.1 + a0)), (1, .int x1), (2, .int x3), (3, .int x3)]) [1, 2, 0, 3] rfl ?_
  exact t_X12_heaviest_64 hKp X hr hlk hrec4 h
set_option maxRecDepth 20000 in
theorem tb_X12_heaviest_4 {l : Launch} {p : Program} {e : Env} {s : State} {m : MethodId} {args : Array Value} {below : List Frame} {meth : Method} {c : Code} {K : ix_Cx} (hKp : ix_Kp K) {n : Nat} {z : ix_Z} (X : ix_X p s m args c K cX12_heaviest RX12 4) (hr : meth.sig.returnType = (some .int)) (hlk : meth.locks = false)  {a0 : Nat} {x1 : Int32} {rec4 : Int32 → Int32 → ix_D2 → Option (Int32 × ix_D2)} {r : Int32} {d1 : ix_D2} (hrec4 : ∀ (x2 : Int32) (x3 : Int32) (d : ix_D2), rec4 x2 x3 d = some (r, d1) → ix_G p l e (ix_rm 0 0 0 0) s m args below meth c (MQ below (ix_Post K (some (.int r)) (ix_w z d1)) args s 0 0 (ix_A K)) K 4 0 0 4 [(0, .ref (K.2.2.1 + a0)), (1, .int x1), (2, .int x2), (3, .int x3)] [] (ix_w z d)) {x2 : Int32} {x3 : Int32} {d : ix_D2} (h : b_X12_heaviest_4 n z  a0 x1 rec4 x2 x3 d = some (r, d1)) : ix_G p l e (ix_rm 0 0 0 0) s m args below meth c (MQ below (ix_Post K (some (.int r)) (ix_w z d1)) args s 0 0 (ix_A K)) K 4 0 0 4 [(0, .ref (K.2.2.1 + a0)), (1, .int x1), (2, .int x2), (3, .int x3)] [] (ix_w z d) := by
  unfold b_X12_heaviest_4 at h
  refine ix_iload_n (i := 3) (j := 3) X (ix_tb_at tb_X12_heaviest 4 rfl) rfl rfl (pc1 := 5) rfl ?_
  refine ix_aload_n (i := 0) (j := 0) X (ix_tb_at tb_X12_heaviest 5 rfl) rfl rfl (pc1 := 6) rfl ?_
  obtain ⟨k_1, h⟩ := ix_ck_some h
  obtain ⟨b_2, q_3, h⟩ := ix_bd1_ex h
  refine iz_getR X fl_RX12_116 k_1 q_3 (ix_tb_at tb_X12_heaviest 6 rfl) (pc1 := 9) rfl ?_
  refine ix_iload_n (i := 1) (j := 1) X (ix_tb_at tb_X12_heaviest 7 rfl) rfl rfl (pc1 := 10) rfl ?_
  obtain ⟨k_4, h⟩ := ix_ck_some h
  refine iz_iald X k_4 (ix_tb_at tb_X12_heaviest 8 rfl) (pc1 := 11) rfl ?_
  refine ix_icmp_gt (tgt := 70) X (ix_tb_at tb_X12_heaviest 9 rfl) (by decide) (pc1 := 14) rfl (fun q_5 => ?_) (fun q_5 => ?_)
  · have h := ix_ift q_5 h
    refine ix_aload_n (i := 0) (j := 0) X (ix_tb_at tb_X12_heaviest 44 rfl) rfl rfl (pc1 := 71) rfl ?_
    obtain ⟨b_6, q_7, h⟩ := ix_bd1_ex h
    refine iz_getR X fl_RX12_143 k_1 q_7 (ix_tb_at tb_X12_heaviest 45 rfl) (pc1 := 74) rfl ?_
    refine ix_sipush (v := 301) X (ix_tb_at tb_X12_heaviest 46 rfl) (by decide) (pc1 := 77) rfl ?_
    refine ix_iload_n (i := 1) (j := 1) X (ix_tb_at tb_X12_heaviest 47 rfl) rfl rfl (pc1 := 78) rfl ?_
    refine ix_imul X (ix_tb_at tb_X12_heaviest 48 rfl) (pc1 := 79) rfl ?_
    refine ix_iload_n (i := 2) (j := 2) X (ix_tb_at tb_X12_heaviest 49 rfl) rfl rfl (pc1 := 80) rfl ?_
    refine ix_iadd X (ix_tb_at tb_X12_heaviest 50 rfl) (pc1 := 81) rfl ?_
    obtain ⟨k_8, h⟩ := ix_ck_some h
    refine iz_iald X k_8 (ix_tb_at tb_X12_heaviest 51 rfl) (pc1 := 82) rfl ?_
    refine ix_iconst (v := 1) X (ix_tb_at tb_X12_heaviest 52 rfl) (by decide) (pc1 := 83) rfl ?_
    refine ix_icmp_ne (tgt := 90) X (ix_tb_at tb_X12_heaviest 53 rfl) (by decide) (pc1 := 86) rfl (fun q_9 => ?_) (fun q_9 => ?_)
    · have h := ix_iff q_9 h
      refine ix_iload_n (i := 2) (j := 2) X (ix_tb_at tb_X12_heaviest 56 rfl) rfl rfl (pc1 := 91) rfl ?_
      refine ix_ineg X (ix_tb_at tb_X12_heaviest 57 rfl) (pc1 := 92) rfl ?_
      exact ix_iret X hr hlk (ix_r2 (f := fun r => some (.int r)) (g := ix_w z) h) (ix_tb_at tb_X12_heaviest 58 rfl)
    · have h := ix_ift q_9 h
      refine ix_iload_n (i := 2) (j := 2) X (ix_tb_at tb_X12_heaviest 54 rfl) rfl rfl (pc1 := 87) rfl ?_
      refine ix_goto (tgt := 92) X (ix_tb_at tb_X12_heaviest 55 rfl) (by decide) ?_
      exact ix_iret X hr hlk (ix_r2 (f := fun r => some (.int r)) (g := ix_w z) h) (ix_tb_at tb_X12_heaviest 58 rfl)
  · have h := ix_iff q_5 h
    refine ix_aload_n (i := 0) (j := 0) X (ix_tb_at tb_X12_heaviest 10 rfl) rfl rfl (pc1 := 15) rfl ?_
    obtain ⟨b_10, q_11, h⟩ := ix_bd1_ex h
    refine iz_getR X fl_RX12_134 k_1 q_11 (ix_tb_at tb_X12_heaviest 11 rfl) (pc1 := 18) rfl ?_
    refine ix_sipush (v := 301) X (ix_tb_at tb_X12_heaviest 12 rfl) (by decide) (pc1 := 21) rfl ?_
    refine ix_iload_n (i := 1) (j := 1) X (ix_tb_at tb_X12_heaviest 13 rfl) rfl rfl (pc1 := 22) rfl ?_
    refine ix_imul X (ix_tb_at tb_X12_heaviest 14 rfl) (pc1 := 23) rfl ?_
    refine ix_iload_n (i := 3) (j := 3) X (ix_tb_at tb_X12_heaviest 15 rfl) rfl rfl (pc1 := 24) rfl ?_
    refine ix_iadd X (ix_tb_at tb_X12_heaviest 16 rfl) (pc1 := 25) rfl ?_
    obtain ⟨k_12, h⟩ := ix_ck_some h
    refine iz_iald X k_12 (ix_tb_at tb_X12_heaviest 17 rfl) (pc1 := 26) rfl ?_
    refine ix_iconst (v := 2) X (ix_tb_at tb_X12_heaviest 18 rfl) (by decide) (pc1 := 27) rfl ?_
    refine ix_icmp_ne (tgt := 64) X (ix_tb_at tb_X12_heaviest 19 rfl) (by decide) (pc1 := 30) rfl (fun q_13 => ?_) (fun q_13 => ?_)
    · have h := ix_iff q_13 h
      refine ix_sub (L1 := [(0, .ref (K.2.2.1 + a0)), (1, .int x1), (2, .int x2), (3, .int x3)]) [0, 1, 2, 3] rfl ?_
      exact t_X12_heaviest_64 hKp X hr hlk hrec4 h
    · have h := ix_ift q_13 h
      refine ix_iload_n (i := 2) (j := 2) X (ix_tb_at tb_X12_heaviest 20 rfl) rfl rfl (pc1 := 31) rfl ?_
      refine ix_if_eq (tgt := 62) X (ix_tb_at tb_X12_heaviest 21 rfl) (by decide) (pc1 := 34) rfl (fun q_16 => ?_) (fun q_16 => ?_)
      · have h := ix_ift q_16 h
        refine ix_sub (L1 := [(0, .ref (K.2.2.1 + a0)), (1, .int x1), (3, .int x3)]) [0, 1, 3] rfl ?_
        exact t_X12_heaviest_62 hKp X hr hlk hrec4 h
      · have h := ix_iff q_16 h
        refine ix_aload_n (i := 0) (j := 0) X (ix_tb_at tb_X12_heaviest 22 rfl) rfl rfl (pc1 := 35) rfl ?_
        obtain ⟨b_17, q_18, h⟩ := ix_bd1_ex h
        refine iz_getR X fl_RX12_146 k_1 q_18 (ix_tb_at tb_X12_heaviest 23 rfl) (pc1 := 38) rfl ?_
        refine ix_sipush (v := 301) X (ix_tb_at tb_X12_heaviest 24 rfl) (by decide) (pc1 := 41) rfl ?_
        refine ix_iload_n (i := 1) (j := 1) X (ix_tb_at tb_X12_heaviest 25 rfl) rfl rfl (pc1 := 42) rfl ?_
        refine ix_imul X (ix_tb_at tb_X12_heaviest 26 rfl) (pc1 := 43) rfl ?_
        refine ix_iload_n (i := 3) (j := 3) X (ix_tb_at tb_X12_heaviest 27 rfl) rfl rfl (pc1 := 44) rfl ?_
        refine ix_iadd X (ix_tb_at tb_X12_heaviest 28 rfl) (pc1 := 45) rfl ?_
        obtain ⟨k_19, h⟩ := ix_ck_some h
        refine iz_lald X k_19 (ix_tb_at tb_X12_heaviest 29 rfl) (pc1 := 46) rfl ?_
        refine ix_aload_n (i := 0) (j := 0) X (ix_tb_at tb_X12_heaviest 30 rfl) rfl rfl (pc1 := 47) rfl ?_
        refine iz_getR X fl_RX12_146 k_1 q_18 (ix_tb_at tb_X12_heaviest 31 rfl) (pc1 := 50) rfl ?_
        refine ix_sipush (v := 301) X (ix_tb_at tb_X12_heaviest 32 rfl) (by decide) (pc1 := 53) rfl ?_
        refine ix_iload_n (i := 1) (j := 1) X (ix_tb_at tb_X12_heaviest 33 rfl) rfl rfl (pc1 := 54) rfl ?_
        refine ix_imul X (ix_tb_at tb_X12_heaviest 34 rfl) (pc1 := 55) rfl ?_
        refine ix_iload_n (i := 2) (j := 2) X (ix_tb_at tb_X12_heaviest 35 rfl) rfl rfl (pc1 := 56) rfl ?_
        refine ix_iadd X (ix_tb_at tb_X12_heaviest 36 rfl) (pc1 := 57) rfl ?_
        obtain ⟨k_20, h⟩ := ix_ck_some h
        refine iz_lald X k_20 (ix_tb_at tb_X12_heaviest 37 rfl) (pc1 := 58) rfl ?_
        refine ix_lcmp X (ix_tb_at tb_X12_heaviest 38 rfl) (pc1 := 59) rfl ?_
        refine ix_if_le (tgt := 64) X (ix_tb_at tb_X12_heaviest 39 rfl) (by decide) (pc1 := 62) rfl (fun q_21 => ?_) (fun q_21 => ?_)
        · have h := ix_ift q_21 h
          refine ix_sub (L1 := [(0, .ref (K.2.2.1 + a0)), (1, .int x1), (2, .int x2), (3, .int x3)]) [0, 1, 2, 3] rfl ?_
          exact t_X12_heaviest_64 hKp X hr hlk hrec4 h
        · have h := ix_iff q_21 h
          refine ix_sub (L1 := [(0, .ref (K.2.2.1 + a0)), (1, .int x1), (3, .int x3)]) [0, 1, 3] rfl ?_
          exact t_X12_heaviest_62 hKp X hr hlk hrec4 h
theorem t_X12_heaviest_4 {l : Launch} {p : Program} {e : Env} {s : State} {m : MethodId} {args : Array Value} {below : List Frame} {meth : Method} {c : Code} {K : ix_Cx} (hKp : ix_Kp K) {n : Nat} {z : ix_Z} (X : ix_X p s m args c K cX12_heaviest RX12 4) (hr : meth.sig.returnType = (some .int)) (hlk : meth.locks = false)  {a0 : Nat} {x1 : Int32} {r : Int32} {d1 : ix_D2}  {x2 : Int32} {x3 : Int32} {d : ix_D2} (h : f_X12_heaviest_4 n z  a0 x1 x2 x3 d = some (r, d1)) : ix_G p l e (ix_rm 0 0 0 0) s m args below meth c (MQ below (ix_Post K (some (.int r)) (ix_w z d1)) args s 0 0 (ix_A K)) K 4 0 0 4 [(0, .ref (K.2.2.1 + a0)), (1, .int x1), (2, .int x2), (3, .int x3)] [] (ix_w z d) := by
  have key : ∀ (f : Nat) (x2 : Int32) (x3 : Int32) (d : ix_D2), ix_fix (b_X12_heaviest_4 n z  a0 x1) (fun _ _ _ => none) f x2 x3 d = some (r, d1) → ix_G p l e (ix_rm 0 0 0 0) s m args below meth c (MQ below (ix_Post K (some (.int r)) (ix_w z d1)) args s 0 0 (ix_A K)) K 4 0 0 4 [(0, .ref (K.2.2.1 + a0)), (1, .int x1), (2, .int x2), (3, .int x3)] [] (ix_w z d) := by
    intro f
    induction f with
    | zero =>
      intro x2 x3 d h
      have h : (none : Option (Int32 × ix_D2)) = some (r, d1) := h
      cases h
    | succ f ih =>
      intro x2 x3 d h
      exact tb_X12_heaviest_4 hKp X hr hlk (rec4 := ix_fix (b_X12_heaviest_4 n z  a0 x1) (fun _ _ _ => none) f)  ih h
  exact key n x2 x3 d h
set_option maxRecDepth 20000 in
theorem c_X12_heaviest {l : Launch} {K : ix_Cx} (hKp : ix_Kp K) {n : Nat} {z : ix_Z} {a0 : Nat} {x1 : Int32} {d : ix_D2} {r : Int32} {d1 : ix_D2} (h : f_X12_heaviest n z a0 x1 d = some (r, d1)) : ix_M l K yX12_heaviest cX12_heaviest 4 (some .int) 0 0 0 0 [.ref (K.2.2.1 + a0), .int x1] (ix_w z d) (some (.int r)) (ix_w z d1) := by
  refine ix_met mf_X12_heaviest hKp (Nat.le_of_ble_eq_true rfl) ?_
  intro p e s m args below meth c hr hlk hnm X
  have X : ix_X p s m args c K cX12_heaviest RX12 4 := X
  show ix_G p l e (ix_rm 0 0 0 0) s m args below meth c (MQ below (ix_Post K (some (.int r)) (ix_w z d1)) args s 0 0 (ix_A K)) K 4 0 0 0 [(0, .ref (K.2.2.1 + a0)), (1, .int x1)] [] (ix_w z d)
  unfold f_X12_heaviest at h
  refine ix_iconst (v := 0) X (ix_tb_at tb_X12_heaviest 0 rfl) (by decide) (pc1 := 1) rfl ?_
  refine ix_istore_n (i := 2) (L1 := [(2, .int 0), (0, .ref (K.2.2.1 + a0)), (1, .int x1)]) X (ix_tb_at tb_X12_heaviest 1 rfl) rfl (Nat.le_of_ble_eq_true rfl) rfl (pc1 := 2) rfl ?_
  refine ix_iconst (v := 1) X (ix_tb_at tb_X12_heaviest 2 rfl) (by decide) (pc1 := 3) rfl ?_
  refine ix_istore_n (i := 3) (L1 := [(3, .int 1), (2, .int 0), (0, .ref (K.2.2.1 + a0)), (1, .int x1)]) X (ix_tb_at tb_X12_heaviest 3 rfl) rfl (Nat.le_of_ble_eq_true rfl) rfl (pc1 := 4) rfl ?_
  refine ix_sub (L1 := [(0, .ref (K.2.2.1 + a0)), (1, .int x1), (2, .int 0), (3, .int 1)]) [2, 3, 1, 0] rfl ?_
  exact t_X12_heaviest_4 hKp X hr hlk  h
def tab_X12_oneTurn : List (Nat × Instr × Nat) := [(0, .aload_n 0, 1), (1, .iload_n 1, 1), (2, .invokevirtual 493, 3), (5, .aload_n 0, 1), (6, .getfield 460, 3), (9, .ifCond .ge 58, 3), (12, .aload_n 0, 1), (13, .getfield 454, 3), (16, .ifCond .lt 51, 3), (19, .aload_n 0, 1), (20, .iload_n 1, 1), (21, .invokevirtual 496, 3), (24, .ifCond .ne 7, 3), (27, .sipush (-1004), 3), (30, .ireturn, 1), (31, .aload_n 0, 1), (32, .getfield 195, 3), (35, .bipush 10, 2), (37, .iload_n 1, 1), (38, .imul, 1), (39, .iconst 2, 1), (40, .iadd, 1), (41, .dup2, 1), (42, .iaload, 1), (43, .iconst 1, 1), (44, .iadd, 1), (45, .iastore, 1), (46, .aload_n 0, 1), (47, .iload_n 1, 1), (48, .aload_n 0, 1), (49, .getfield 457, 3), (52, .aload_n 0, 1), (53, .getfield 454, 3), (56, .invokevirtual 499, 3), (59, .aload_n 0, 1), (60, .iload_n 1, 1), (61, .invokevirtual 493, 3), (64, .goto (-59), 3), (67, .aload_n 0, 1), (68, .getfield 460, 3), (71, .ifCond .lt 26, 3), (74, .aload_n 0, 1), (75, .getfield 159, 3), (78, .iload_n 1, 1), (79, .iaload, 1), (80, .ifCond .ne 11, 3), (83, .aload_n 0, 1), (84, .iload_n 1, 1), (85, .invokevirtual 502, 3), (88, .goto 8, 3), (91, .aload_n 0, 1), (92, .iload_n 1, 1), (93, .invokevirtual 505, 3), (96, .ireturn, 1), (97, .iconst 0, 1), (98, .istore_n 2, 1), (99, .iconst 1, 1), (100, .istore_n 3, 1), (101, .iconst 0, 1), (102, .istore 4, 2), (104, .iload 4, 2), (106, .aload_n 0, 1), (107, .getfield 128, 3), (110, .iload_n 1, 1), (111, .iaload, 1), (112, .if_icmp .ge 34, 3), (115, .iload_n 3, 1), (116, .iconst 1, 1), (117, .if_icmp .ne 29, 3), (120, .aload_n 0, 1), (121, .getfield 125, 3), (124, .bipush 20, 2), (126, .iload_n 1, 1), (127, .imul, 1), (128, .iload 4, 2), (130, .iadd, 1), (131, .iaload, 1), (132, .istore_n 2, 1), (133, .aload_n 0, 1), (134, .iload_n 1, 1), (135, .iload_n 2, 1), (136, .invokevirtual 445, 3), (139, .istore_n 3, 1), (140, .iinc 4 1, 3), (143, .goto (-39), 3), (146, .iload_n 3, 1), (147, .ifCond .ne 10, 3), (150, .aload_n 0, 1), (151, .iload_n 1, 1), (152, .iload_n 2, 1), (153, .invokevirtual 508, 3), (156, .ireturn, 1), (157, .iload_n 3, 1), (158, .iconst 1, 1), (159, .if_icmp .ne 9, 3), (162, .aload_n 0, 1), (163, .iload_n 1, 1), (164, .invokevirtual 511, 3), (167, .istore_n 2, 1), (168, .iload_n 2, 1), (169, .ifCond .ne 5, 3), (172, .iconst 1, 1), (173, .ireturn, 1), (174, .aload_n 0, 1), (175, .iload_n 1, 1), (176, .invokevirtual 496, 3), (179, .ifCond .ne 7, 3), (182, .sipush (-1004), 3), (185, .ireturn, 1), (186, .aload_n 0, 1), (187, .getfield 195, 3), (190, .bipush 10, 2), (192, .iload_n 1, 1), (193, .imul, 1), (194, .iconst 3, 1), (195, .iadd, 1), (196, .dup2, 1), (197, .iaload, 1), (198, .iconst 1, 1), (199, .iadd, 1), (200, .iastore, 1), (201, .aload_n 0, 1), (202, .getfield 159, 3), (205, .iload_n 1, 1), (206, .dup2, 1), (207, .iaload, 1), (208, .iconst 1, 1), (209, .iadd, 1), (210, .iastore, 1), (211, .aload_n 0, 1), (212, .getfield 195, 3), (215, .bipush 10, 2), (217, .iload_n 1, 1), (218, .imul, 1), (219, .bipush 9, 2), (221, .iadd, 1), (222, .aload_n 0, 1), (223, .getfield 195, 3), (226, .bipush 10, 2), (228, .iload_n 1, 1), (229, .imul, 1), (230, .bipush 9, 2), (232, .iadd, 1), (233, .iaload, 1), (234, .aload_n 0, 1), (235, .getfield 159, 3), (238, .iload_n 1, 1), (239, .iaload, 1), (240, .if_icmp .le 18, 3), (243, .aload_n 0, 1), (244, .getfield 195, 3), (247, .bipush 10, 2), (249, .iload_n 1, 1), (250, .imul, 1), (251, .bipush 9, 2), (253, .iadd, 1), (254, .iaload, 1), (255, .goto 9, 3), (258, .aload_n 0, 1), (259, .getfield 159, 3), (262, .iload_n 1, 1), (263, .iaload, 1), (264, .iastore, 1), (265, .aload_n 0, 1), (266, .iload_n 1, 1), (267, .iload_n 2, 1), (268, .bipush (-7), 2), (270, .invokevirtual 499, 3), (273, .bipush 7, 2), (275, .ireturn, 1)]
theorem tb_X12_oneTurn : ix_tab cX12_oneTurn tab_X12_oneTurn := by
  unfold ix_tab
  decide +kernel
noncomputable def f_X12_oneTurn_264 (n : Nat) (z : ix_Z)  (a0 : Nat) (x1 : Int32) (x2 : Int32) (s0 : Int32) (s1 : Int32) (s2 : Nat) (d : ix_D2) : Option (Int32 × ix_D2) :=
  ix_ck (ix_ix z 20 s2 s1) (ix_lt (ix_di d s2 (ix_n s1) s0) (fun d_34 => ix_ck (ix_ok z [11] a0) (ix_bd1 (f_X12_become n z a0 x1 x2 ((-7)) d_34) (fun d_36 => some (7, d_36)))))
noncomputable def f_X12_oneTurn_168 (n : Nat) (z : ix_Z)  (a0 : Nat) (x1 : Int32) (x2 : Int32) (d : ix_D2) : Option (Int32 × ix_D2) :=
  ix_if (x2 = 0) (some (1, d)) (ix_ck (ix_ok z [11] a0) (ix_bd2 (f_X12_takesStep n z a0 x1 d) (fun r_19 d_16 => ix_if (r_19 = 0) (some ((-1004), d_16)) (ix_bd1 (z.1 a0 90) (fun b_21 => ix_ck (ix_ix z 20 b_21 ((10 * x1) + 3)) (ix_lt (ix_di d_16 b_21 (ix_n ((10 * x1) + 3)) ((d_16.1 b_21 (ix_n ((10 * x1) + 3))) + 1)) (fun d_24 => ix_bd1 (z.1 a0 77) (fun b_26 => ix_ck (ix_ix z 20 b_26 x1) (ix_lt (ix_di d_24 b_26 (ix_n x1) ((d_24.1 b_26 (ix_n x1)) + 1)) (fun d_29 => ix_ck (ix_ix z 20 b_21 ((10 * x1) + 9)) (ix_if (d_29.1 b_21 (ix_n ((10 * x1) + 9)) ≤ d_29.1 b_26 (ix_n x1)) (f_X12_oneTurn_264 n z  a0 x1 x2 (d_29.1 b_26 (ix_n x1)) ((10 * x1) + 9) b_21 d_29) (f_X12_oneTurn_264 n z  a0 x1 x2 (d_29.1 b_21 (ix_n ((10 * x1) + 9))) ((10 * x1) + 9) b_21 d_29))))))))))))
noncomputable def f_X12_oneTurn_146 (n : Nat) (z : ix_Z)  (a0 : Nat) (x1 : Int32) (x2 : Int32) (x3 : Int32) (d : ix_D2) : Option (Int32 × ix_D2) :=
  ix_if (x3 = 0) (ix_ck (ix_ok z [11] a0) (ix_bd2 (f_X12_endAsked n z a0 x1 x2 d) (fun r_46 d_43 => some (r_46, d_43)))) (ix_if (x3 = 1) (ix_ck (ix_ok z [11] a0) (ix_bd2 (f_X12_heaviest n z a0 x1 d) (fun r_42 d_39 => f_X12_oneTurn_168 n z  a0 x1 r_42 d_39))) (f_X12_oneTurn_168 n z  a0 x1 x2 d))
noncomputable def b_X12_oneTurn_104 (n : Nat) (z : ix_Z)  (a0 : Nat) (x1 : Int32) (rec104 : Int32 → Int32 → Int32 → ix_D2 → Option (Int32 × ix_D2)) (x2 : Int32) (x3 : Int32) (x4 : Int32) (d : ix_D2) : Option (Int32 × ix_D2) :=
  ix_ck (ix_ok z [11] a0) (ix_bd1 (z.1 a0 65) (fun b_9 => ix_ck (ix_ix z 20 b_9 x1) (ix_if (d.1 b_9 (ix_n x1) ≤ x4) (f_X12_oneTurn_146 n z  a0 x1 x2 x3 d) (ix_if (x3 = 1) (ix_bd1 (z.1 a0 64) (fun b_48 => ix_ck (ix_ix z 20 b_48 ((20 * x1) + x4)) (ix_lt (d.1 b_48 (ix_n ((20 * x1) + x4))) (fun x2_51 => ix_bd2 (f_X12_stateOf n z a0 x1 x2_51 d) (fun r_55 d_53 => ix_lt (x4 + 1) (fun x4_56 => rec104 x2_51 r_55 x4_56 d_53)))))) (f_X12_oneTurn_146 n z  a0 x1 x2 x3 d)))))
noncomputable def f_X12_oneTurn_104 (n : Nat) (z : ix_Z)  (a0 : Nat) (x1 : Int32) (x2 : Int32) (x3 : Int32) (x4 : Int32) (d : ix_D2) : Option (Int32 × ix_D2) := ix_fix (b_X12_oneTurn_104 n z  a0 x1) (fun _ _ _ _ => none) n x2 x3 x4 d
noncomputable def f_X12_oneTurn_67 (n : Nat) (z : ix_Z)  (a0 : Nat) (x1 : Int32) (d : ix_D2) : Option (Int32 × ix_D2) :=
  ix_ck (ix_ok z [11] a0) (ix_if (d.1 a0 98 < 0) (f_X12_oneTurn_104 n z  a0 x1 0 1 0 d) (ix_bd1 (z.1 a0 77) (fun b_58 => ix_ck (ix_ix z 20 b_58 x1) (ix_if (d.1 b_58 (ix_n x1) = 0) (ix_bd2 (f_X12_endLow n z a0 x1 d) (fun r_67 d_65 => some (r_67, d_65))) (ix_bd2 (f_X12_learn n z a0 x1 d) (fun r_64 d_62 => some (r_64, d_62)))))))
noncomputable def b_X12_oneTurn_5 (n : Nat) (z : ix_Z)  (a0 : Nat) (x1 : Int32) (rec5 : ix_D2 → Option (Int32 × ix_D2))  (d : ix_D2) : Option (Int32 × ix_D2) :=
  ix_ck (ix_ok z [11] a0) (ix_if (0 ≤ d.1 a0 98) (f_X12_oneTurn_67 n z  a0 x1 d) (ix_if (d.1 a0 99 < 0) (f_X12_oneTurn_67 n z  a0 x1 d) (ix_bd2 (f_X12_takesStep n z a0 x1 d) (fun r_71 d_69 => ix_if (r_71 = 0) (some ((-1004), d_69)) (ix_bd1 (z.1 a0 90) (fun b_73 => ix_ck (ix_ix z 20 b_73 ((10 * x1) + 2)) (ix_lt (ix_di d_69 b_73 (ix_n ((10 * x1) + 2)) ((d_69.1 b_73 (ix_n ((10 * x1) + 2))) + 1)) (fun d_76 => ix_bd1 (f_X12_become n z a0 x1 (d_76.1 a0 100) (d_76.1 a0 99) d_76) (fun d_78 => ix_bd1 (f_X12_find n z a0 x1 d_78) (fun d_80 => rec5  d_80))))))))))
noncomputable def f_X12_oneTurn_5 (n : Nat) (z : ix_Z)  (a0 : Nat) (x1 : Int32)  (d : ix_D2) : Option (Int32 × ix_D2) := ix_fix (b_X12_oneTurn_5 n z  a0 x1) (fun  _ => none) n  d
noncomputable def f_X12_oneTurn (n : Nat) (z : ix_Z) (a0 : Nat) (x1 : Int32) (d : ix_D2) : Option (Int32 × ix_D2) :=
  ix_ck (ix_ok z [11] a0) (ix_bd1 (f_X12_find n z a0 x1 d) (fun d_1 => f_X12_oneTurn_5 n z  a0 x1  d_1))
set_option maxRecDepth 20000 in
theorem t_X12_oneTurn_264 {l : Launch} {p : Program} {e : Env} {s : State} {m : MethodId} {args : Array Value} {below : List Frame} {meth : Method} {c : Code} {K : ix_Cx} (hKp : ix_Kp K) {n : Nat} {z : ix_Z} (X : ix_X p s m args c K cX12_oneTurn RX12 5) (hr : meth.sig.returnType = (some .int)) (hlk : meth.locks = false)  {a0 : Nat} {x1 : Int32} {x2 : Int32} {s0 : Int32} {s1 : Int32} {s2 : Nat} {r : Int32} {d1 : ix_D2}  {d : ix_D2} (h : f_X12_oneTurn_264 n z  a0 x1 x2 s0 s1 s2 d = some (r, d1)) : ix_G p l e (ix_rm 5 116 0 0) s m args below meth c (MQ below (ix_Post K (some (.int r)) (ix_w z d1)) args s 0 0 (ix_A K)) K 5 0 0 264 [(0, .ref (K.2.2.1 + a0)), (1, .int x1), (2, .int x2)] [.int s0, .int s1, .ref (K.2.2.1 + s2)] (ix_w z d) := by
  unfold f_X12_oneTurn_264 at h
  obtain ⟨k_33, h⟩ := ix_ck_some h
  obtain ⟨d_34, e_35, h⟩ := ix_lt_ex h
  refine iz_iast X k_33 (ix_tb_at tb_X12_oneTurn 162 rfl) e_35 (pc1 := 265) rfl ?_
  refine ix_aload_n (i := 0) (j := 0) X (ix_tb_at tb_X12_oneTurn 163 rfl) rfl rfl (pc1 := 266) rfl ?_
  refine ix_iload_n (i := 1) (j := 1) X (ix_tb_at tb_X12_oneTurn 164 rfl) rfl rfl (pc1 := 267) rfl ?_
  refine ix_iload_n (i := 2) (j := 2) X (ix_tb_at tb_X12_oneTurn 165 rfl) rfl rfl (pc1 := 268) rfl ?_
  refine ix_bipush (v := (-7)) X (ix_tb_at tb_X12_oneTurn 166 rfl) (by decide) (pc1 := 270) rfl ?_
  obtain ⟨k_38, h⟩ := ix_ck_some h
  obtain ⟨d_36, h_37, h⟩ := ix_bd1_ex h
  refine ix_callV (As := [.int x1, .int x2, .int ((-7))]) (rest := []) (ci := 11) (T := TX12) (nf := 116) X mf_X12_become mi_X12_become ms_X12_become rfl (Nat.le_of_ble_eq_true rfl) ml_RX12_499 ⟨Nat.le_of_ble_eq_true rfl, Nat.le_of_ble_eq_true rfl⟩ ⟨Nat.le_of_ble_eq_true rfl, Nat.le_of_ble_eq_true rfl⟩ rfl (Nat.le_of_ble_eq_true rfl) (ix_tb_at tb_X12_oneTurn 167 rfl) ⟨k_38.1, List.mem_singleton.mp k_38.2⟩ (c_X12_become hKp h_37) rfl (pc1 := 273) rfl ?_
  refine ix_bipush (v := 7) X (ix_tb_at tb_X12_oneTurn 168 rfl) (by decide) (pc1 := 275) rfl ?_
  exact ix_iret X hr hlk (ix_r2 (f := fun r => some (.int r)) (g := ix_w z) h) (ix_tb_at tb_X12_oneTurn 169 rfl)
set_option maxRecDepth 20000 in
theorem t_X12_oneTurn_168 {l : Launch} {p : Program} {e : Env} {s : State} {m : MethodId} {args : Array Value} {below : List Frame} {meth : Method} {c : Code} {K : ix_Cx} (hKp : ix_Kp K) {n : Nat} {z : ix_Z} (X : ix_X p s m args c K cX12_oneTurn RX12 5) (hr : meth.sig.returnType = (some .int)) (hlk : meth.locks = false)  {a0 : Nat} {x1 : Int32} {x2 : Int32} {r : Int32} {d1 : ix_D2}  {d : ix_D2} (h : f_X12_oneTurn_168 n z  a0 x1 x2 d = some (r, d1)) : ix_G p l e (ix_rm 5 116 0 0) s m args below meth c (MQ below (ix_Post K (some (.int r)) (ix_w z d1)) args s 0 0 (ix_A K)) K 5 0 0 168 [(0, .ref (K.2.2.1 + a0)), (1, .int x1), (2, .int x2)] [] (ix_w z d) := by
  unfold f_X12_oneTurn_168 at h
  refine ix_iload_n (i := 2) (j := 2) X (ix_tb_at tb_X12_oneTurn 99 rfl) rfl rfl (pc1 := 169) rfl ?_
  refine ix_if_ne (tgt := 174) X (ix_tb_at tb_X12_oneTurn 100 rfl) (by decide) (pc1 := 172) rfl (fun q_15 => ?_) (fun q_15 => ?_)
  · have h := ix_iff q_15 h
    refine ix_aload_n (i := 0) (j := 0) X (ix_tb_at tb_X12_oneTurn 103 rfl) rfl rfl (pc1 := 175) rfl ?_
    refine ix_iload_n (i := 1) (j := 1) X (ix_tb_at tb_X12_oneTurn 104 rfl) rfl rfl (pc1 := 176) rfl ?_
    obtain ⟨k_18, h⟩ := ix_ck_some h
    obtain ⟨r_19, d_16, h_17, h⟩ := ix_bd2_ex h
    refine ix_callV (As := [.int x1]) (rest := []) (ci := 11) (T := TX12) (nf := 116) X mf_X12_takesStep mi_X12_takesStep ms_X12_takesStep rfl (Nat.le_of_ble_eq_true rfl) ml_RX12_496 ⟨Nat.le_of_ble_eq_true rfl, Nat.le_of_ble_eq_true rfl⟩ ⟨Nat.le_of_ble_eq_true rfl, Nat.le_of_ble_eq_true rfl⟩ rfl (Nat.le_of_ble_eq_true rfl) (ix_tb_at tb_X12_oneTurn 105 rfl) ⟨k_18.1, List.mem_singleton.mp k_18.2⟩ (c_X12_takesStep hKp h_17) rfl (pc1 := 179) rfl ?_
    refine ix_if_ne (tgt := 186) X (ix_tb_at tb_X12_oneTurn 106 rfl) (by decide) (pc1 := 182) rfl (fun q_20 => ?_) (fun q_20 => ?_)
    · have h := ix_iff q_20 h
      refine ix_aload_n (i := 0) (j := 0) X (ix_tb_at tb_X12_oneTurn 109 rfl) rfl rfl (pc1 := 187) rfl ?_
      obtain ⟨b_21, q_22, h⟩ := ix_bd1_ex h
      refine iz_getR X fl_RX12_195 k_18 q_22 (ix_tb_at tb_X12_oneTurn 110 rfl) (pc1 := 190) rfl ?_
      refine ix_bipush (v := 10) X (ix_tb_at tb_X12_oneTurn 111 rfl) (by decide) (pc1 := 192) rfl ?_
      refine ix_iload_n (i := 1) (j := 1) X (ix_tb_at tb_X12_oneTurn 112 rfl) rfl rfl (pc1 := 193) rfl ?_
      refine ix_imul X (ix_tb_at tb_X12_oneTurn 113 rfl) (pc1 := 194) rfl ?_
      refine ix_iconst (v := 3) X (ix_tb_at tb_X12_oneTurn 114 rfl) (by decide) (pc1 := 195) rfl ?_
      refine ix_iadd X (ix_tb_at tb_X12_oneTurn 115 rfl) (pc1 := 196) rfl ?_
      refine ix_dup2 X (ix_tb_at tb_X12_oneTurn 116 rfl) rfl rfl (pc1 := 197) rfl ?_
      obtain ⟨k_23, h⟩ := ix_ck_some h
      refine iz_iald X k_23 (ix_tb_at tb_X12_oneTurn 117 rfl) (pc1 := 198) rfl ?_
      refine ix_iconst (v := 1) X (ix_tb_at tb_X12_oneTurn 118 rfl) (by decide) (pc1 := 199) rfl ?_
      refine ix_iadd X (ix_tb_at tb_X12_oneTurn 119 rfl) (pc1 := 200) rfl ?_
      obtain ⟨d_24, e_25, h⟩ := ix_lt_ex h
      refine iz_iast X k_23 (ix_tb_at tb_X12_oneTurn 120 rfl) e_25 (pc1 := 201) rfl ?_
      refine ix_aload_n (i := 0) (j := 0) X (ix_tb_at tb_X12_oneTurn 121 rfl) rfl rfl (pc1 := 202) rfl ?_
      obtain ⟨b_26, q_27, h⟩ := ix_bd1_ex h
      refine iz_getR X fl_RX12_159 k_18 q_27 (ix_tb_at tb_X12_oneTurn 122 rfl) (pc1 := 205) rfl ?_
      refine ix_iload_n (i := 1) (j := 1) X (ix_tb_at tb_X12_oneTurn 123 rfl) rfl rfl (pc1 := 206) rfl ?_
      refine ix_dup2 X (ix_tb_at tb_X12_oneTurn 124 rfl) rfl rfl (pc1 := 207) rfl ?_
      obtain ⟨k_28, h⟩ := ix_ck_some h
      refine iz_iald X k_28 (ix_tb_at tb_X12_oneTurn 125 rfl) (pc1 := 208) rfl ?_
      refine ix_iconst (v := 1) X (ix_tb_at tb_X12_oneTurn 126 rfl) (by decide) (pc1 := 209) rfl ?_
      refine ix_iadd X (ix_tb_at tb_X12_oneTurn 127 rfl) (pc1 := 210) rfl ?_
      obtain ⟨d_29, e_30, h⟩ := ix_lt_ex h
      refine iz_iast X k_28 (ix_tb_at tb_X12_oneTurn 128 rfl) e_30 (pc1 := 211) rfl ?_
      refine ix_aload_n (i := 0) (j := 0) X (ix_tb_at tb_X12_oneTurn 129 rfl) rfl rfl (pc1 := 212) rfl ?_
      refine iz_getR X fl_RX12_195 k_18 q_22 (ix_tb_at tb_X12_oneTurn 130 rfl) (pc1 := 215) rfl ?_
      refine ix_bipush (v := 10) X (ix_tb_at tb_X12_oneTurn 131 rfl) (by decide) (pc1 := 217) rfl ?_
      refine ix_iload_n (i := 1) (j := 1) X (ix_tb_at tb_X12_oneTurn 132 rfl) rfl rfl (pc1 := 218) rfl ?_
      refine ix_imul X (ix_tb_at tb_X12_oneTurn 133 rfl) (pc1 := 219) rfl ?_
      refine ix_bipush (v := 9) X (ix_tb_at tb_X12_oneTurn 134 rfl) (by decide) (pc1 := 221) rfl ?_
      refine ix_iadd X (ix_tb_at tb_X12_oneTurn 135 rfl) (pc1 := 222) rfl ?_
      refine ix_aload_n (i := 0) (j := 0) X (ix_tb_at tb_X12_oneTurn 136 rfl) rfl rfl (pc1 := 223) rfl ?_
      refine iz_getR X fl_RX12_195 k_18 q_22 (ix_tb_at tb_X12_oneTurn 137 rfl) (pc1 := 226) rfl ?_
      refine ix_bipush (v := 10) X (ix_tb_at tb_X12_oneTurn 138 rfl) (by decide) (pc1 := 228) rfl ?_
      refine ix_iload_n (i := 1) (j := 1) X (ix_tb_at tb_X12_oneTurn 139 rfl) rfl rfl (pc1 := 229) rfl ?_
      refine ix_imul X (ix_tb_at tb_X12_oneTurn 140 rfl) (pc1 := 230) rfl ?_
      refine ix_bipush (v := 9) X (ix_tb_at tb_X12_oneTurn 141 rfl) (by decide) (pc1 := 232) rfl ?_
      refine ix_iadd X (ix_tb_at tb_X12_oneTurn 142 rfl) (pc1 := 233) rfl ?_
      obtain ⟨k_31, h⟩ := ix_ck_some h
      refine iz_iald X k_31 (ix_tb_at tb_X12_oneTurn 143 rfl) (pc1 := 234) rfl ?_
      refine ix_aload_n (i := 0) (j := 0) X (ix_tb_at tb_X12_oneTurn 144 rfl) rfl rfl (pc1 := 235) rfl ?_
      refine iz_getR X fl_RX12_159 k_18 q_27 (ix_tb_at tb_X12_oneTurn 145 rfl) (pc1 := 238) rfl ?_
      refine ix_iload_n (i := 1) (j := 1) X (ix_tb_at tb_X12_oneTurn 146 rfl) rfl rfl (pc1 := 239) rfl ?_
      refine iz_iald X k_28 (ix_tb_at tb_X12_oneTurn 147 rfl) (pc1 := 240) rfl ?_
      refine ix_icmp_le (tgt := 258) X (ix_tb_at tb_X12_oneTurn 148 rfl) (by decide) (pc1 := 243) rfl (fun q_32 => ?_) (fun q_32 => ?_)
      · have h := ix_ift q_32 h
        refine ix_aload_n (i := 0) (j := 0) X (ix_tb_at tb_X12_oneTurn 158 rfl) rfl rfl (pc1 := 259) rfl ?_
        refine iz_getR X fl_RX12_159 k_18 q_27 (ix_tb_at tb_X12_oneTurn 159 rfl) (pc1 := 262) rfl ?_
        refine ix_iload_n (i := 1) (j := 1) X (ix_tb_at tb_X12_oneTurn 160 rfl) rfl rfl (pc1 := 263) rfl ?_
        refine iz_iald X k_28 (ix_tb_at tb_X12_oneTurn 161 rfl) (pc1 := 264) rfl ?_
        refine ix_sub (L1 := [(0, .ref (K.2.2.1 + a0)), (1, .int x1), (2, .int x2)]) [0, 1, 2] rfl ?_
        exact t_X12_oneTurn_264 hKp X hr hlk  h
      · have h := ix_iff q_32 h
        refine ix_aload_n (i := 0) (j := 0) X (ix_tb_at tb_X12_oneTurn 149 rfl) rfl rfl (pc1 := 244) rfl ?_
        refine iz_getR X fl_RX12_195 k_18 q_22 (ix_tb_at tb_X12_oneTurn 150 rfl) (pc1 := 247) rfl ?_
        refine ix_bipush (v := 10) X (ix_tb_at tb_X12_oneTurn 151 rfl) (by decide) (pc1 := 249) rfl ?_
        refine ix_iload_n (i := 1) (j := 1) X (ix_tb_at tb_X12_oneTurn 152 rfl) rfl rfl (pc1 := 250) rfl ?_
        refine ix_imul X (ix_tb_at tb_X12_oneTurn 153 rfl) (pc1 := 251) rfl ?_
        refine ix_bipush (v := 9) X (ix_tb_at tb_X12_oneTurn 154 rfl) (by decide) (pc1 := 253) rfl ?_
        refine ix_iadd X (ix_tb_at tb_X12_oneTurn 155 rfl) (pc1 := 254) rfl ?_
        refine iz_iald X k_31 (ix_tb_at tb_X12_oneTurn 156 rfl) (pc1 := 255) rfl ?_
        refine ix_goto (tgt := 264) X (ix_tb_at tb_X12_oneTurn 157 rfl) (by decide) ?_
        refine ix_sub (L1 := [(0, .ref (K.2.2.1 + a0)), (1, .int x1), (2, .int x2)]) [0, 1, 2] rfl ?_
        exact t_X12_oneTurn_264 hKp X hr hlk  h
    · have h := ix_ift q_20 h
      refine ix_sipush (v := (-1004)) X (ix_tb_at tb_X12_oneTurn 107 rfl) (by decide) (pc1 := 185) rfl ?_
      exact ix_iret X hr hlk (ix_r2 (f := fun r => some (.int r)) (g := ix_w z) h) (ix_tb_at tb_X12_oneTurn 108 rfl)
  · have h := ix_ift q_15 h
    refine ix_iconst (v := 1) X (ix_tb_at tb_X12_oneTurn 101 rfl) (by decide) (pc1 := 173) rfl ?_
    exact ix_iret X hr hlk (ix_r2 (f := fun r => some (.int r)) (g := ix_w z) h) (ix_tb_at tb_X12_oneTurn 102 rfl)
set_option maxRecDepth 20000 in
theorem t_X12_oneTurn_146 {l : Launch} {p : Program} {e : Env} {s : State} {m : MethodId} {args : Array Value} {below : List Frame} {meth : Method} {c : Code} {K : ix_Cx} (hKp : ix_Kp K) {n : Nat} {z : ix_Z} (X : ix_X p s m args c K cX12_oneTurn RX12 5) (hr : meth.sig.returnType = (some .int)) (hlk : meth.locks = false)  {a0 : Nat} {x1 : Int32} {x2 : Int32} {x3 : Int32} {r : Int32} {d1 : ix_D2}  {d : ix_D2} (h : f_X12_oneTurn_146 n z  a0 x1 x2 x3 d = some (r, d1)) : ix_G p l e (ix_rm 5 116 0 0) s m args below meth c (MQ below (ix_Post K (some (.int r)) (ix_w z d1)) args s 0 0 (ix_A K)) K 5 0 0 146 [(0, .ref (K.2.2.1 + a0)), (1, .int x1), (2, .int x2), (3, .int x3)] [] (ix_w z d) := by
  unfold f_X12_oneTurn_146 at h
  refine ix_iload_n (i := 3) (j := 3) X (ix_tb_at tb_X12_oneTurn 85 rfl) rfl rfl (pc1 := 147) rfl ?_
  refine ix_if_ne (tgt := 157) X (ix_tb_at tb_X12_oneTurn 86 rfl) (by decide) (pc1 := 150) rfl (fun q_13 => ?_) (fun q_13 => ?_)
  · have h := ix_iff q_13 h
    refine ix_iload_n (i := 3) (j := 3) X (ix_tb_at tb_X12_oneTurn 92 rfl) rfl rfl (pc1 := 158) rfl ?_
    refine ix_iconst (v := 1) X (ix_tb_at tb_X12_oneTurn 93 rfl) (by decide) (pc1 := 159) rfl ?_
    refine ix_icmp_ne (tgt := 168) X (ix_tb_at tb_X12_oneTurn 94 rfl) (by decide) (pc1 := 162) rfl (fun q_14 => ?_) (fun q_14 => ?_)
    · have h := ix_iff q_14 h
      refine ix_sub (L1 := [(0, .ref (K.2.2.1 + a0)), (1, .int x1), (2, .int x2)]) [0, 1, 2] rfl ?_
      exact t_X12_oneTurn_168 hKp X hr hlk  h
    · have h := ix_ift q_14 h
      refine ix_aload_n (i := 0) (j := 0) X (ix_tb_at tb_X12_oneTurn 95 rfl) rfl rfl (pc1 := 163) rfl ?_
      refine ix_iload_n (i := 1) (j := 1) X (ix_tb_at tb_X12_oneTurn 96 rfl) rfl rfl (pc1 := 164) rfl ?_
      obtain ⟨k_41, h⟩ := ix_ck_some h
      obtain ⟨r_42, d_39, h_40, h⟩ := ix_bd2_ex h
      refine ix_callV (As := [.int x1]) (rest := []) (ci := 11) (T := TX12) (nf := 116) X mf_X12_heaviest mi_X12_heaviest ms_X12_heaviest rfl (Nat.le_of_ble_eq_true rfl) ml_RX12_511 ⟨Nat.le_of_ble_eq_true rfl, Nat.le_of_ble_eq_true rfl⟩ ⟨Nat.le_of_ble_eq_true rfl, Nat.le_of_ble_eq_true rfl⟩ rfl (Nat.le_of_ble_eq_true rfl) (ix_tb_at tb_X12_oneTurn 97 rfl) ⟨k_41.1, List.mem_singleton.mp k_41.2⟩ (c_X12_heaviest hKp h_40) rfl (pc1 := 167) rfl ?_
      refine ix_istore_n (i := 2) (L1 := [(2, .int r_42), (0, .ref (K.2.2.1 + a0)), (1, .int x1), (3, .int x3)]) X (ix_tb_at tb_X12_oneTurn 98 rfl) rfl (Nat.le_of_ble_eq_true rfl) rfl (pc1 := 168) rfl ?_
      refine ix_sub (L1 := [(0, .ref (K.2.2.1 + a0)), (1, .int x1), (2, .int r_42)]) [1, 2, 0] rfl ?_
      exact t_X12_oneTurn_168 hKp X hr hlk  h
  · have h := ix_ift q_13 h
    refine ix_aload_n (i := 0) (j := 0) X (ix_tb_at tb_X12_oneTurn 87 rfl) rfl rfl (pc1 := 151) rfl ?_
    refine ix_iload_n (i := 1) (j := 1) X (ix_tb_at tb_X12_oneTurn 88 rfl) rfl rfl (pc1 := 152) rfl ?_
    refine ix_iload_n (i := 2) (j := 2) X (ix_tb_at tb_X12_oneTurn 89 rfl) rfl rfl (pc1 := 153) rfl ?_
    obtain ⟨k_45, h⟩ := ix_ck_some h
    obtain ⟨r_46, d_43, h_44, h⟩ := ix_bd2_ex h
    refine ix_callV (As := [.int x1, .int x2]) (rest := []) (ci := 11) (T := TX12) (nf := 116) X mf_X12_endAsked mi_X12_endAsked ms_X12_endAsked rfl (Nat.le_of_ble_eq_true rfl) ml_RX12_508 ⟨Nat.le_of_ble_eq_true rfl, Nat.le_of_ble_eq_true rfl⟩ ⟨Nat.le_of_ble_eq_true rfl, Nat.le_of_ble_eq_true rfl⟩ rfl (Nat.le_of_ble_eq_true rfl) (ix_tb_at tb_X12_oneTurn 90 rfl) ⟨k_45.1, List.mem_singleton.mp k_45.2⟩ (c_X12_endAsked hKp h_44) rfl (pc1 := 156) rfl ?_
    exact ix_iret X hr hlk (ix_r2 (f := fun r => some (.int r)) (g := ix_w z) h) (ix_tb_at tb_X12_oneTurn 91 rfl)
set_option maxRecDepth 20000 in
theorem tb_X12_oneTurn_104 {l : Launch} {p : Program} {e : Env} {s : State} {m : MethodId} {args : Array Value} {below : List Frame} {meth : Method} {c : Code} {K : ix_Cx} (hKp : ix_Kp K) {n : Nat} {z : ix_Z} (X : ix_X p s m args c K cX12_oneTurn RX12 5) (hr : meth.sig.returnType = (some .int)) (hlk : meth.locks = false)  {a0 : Nat} {x1 : Int32} {rec104 : Int32 → Int32 → Int32 → ix_D2 → Option (Int32 × ix_D2)} {r : Int32} {d1 : ix_D2} (hrec104 : ∀ (x2 : Int32) (x3 : Int32) (x4 : Int32) (d : ix_D2), rec104 x2 x3 x4 d = some (r, d1) → ix_G p l e (ix_rm 5 116 0 0) s m args below meth c (MQ below (ix_Post K (some (.int r)) (ix_w z d1)) args s 0 0 (ix_A K)) K 5 0 0 104 [(0, .ref (K.2.2.1 + a0)), (1, .int x1), (2, .int x2), (3, .int x3), (4, .int x4)] [] (ix_w z d)) {x2 : Int32} {x3 : Int32} {x4 : Int32} {d : ix_D2} (h : b_X12_oneTurn_104 n z  a0 x1 rec104 x2 x3 x4 d = some (r, d1)) : ix_G p l e (ix_rm 5 116 0 0) s m args below meth c (MQ below (ix_Post K (some (.int r)) (ix_w z d1)) args s 0 0 (ix_A K)) K 5 0 0 104 [(0, .ref (K.2.2.1 + a0)), (1, .int x1), (2, .int x2), (3, .int x3), (4, .int x4)] [] (ix_w z d) := by
  unfold b_X12_oneTurn_104 at h
  refine ix_iload (i := 4) (j := 4) X (ix_tb_at tb_X12_oneTurn 60 rfl) rfl (pc1 := 106) rfl ?_
  refine ix_aload_n (i := 0) (j := 0) X (ix_tb_at tb_X12_oneTurn 61 rfl) rfl rfl (pc1 := 107) rfl ?_
  obtain ⟨k_8, h⟩ := ix_ck_some h
  obtain ⟨b_9, q_10, h⟩ := ix_bd1_ex h
  refine iz_getR X fl_RX12_128 k_8 q_10 (ix_tb_at tb_X12_oneTurn 62 rfl) (pc1 := 110) rfl ?_
  refine ix_iload_n (i := 1) (j := 1) X (ix_tb_at tb_X12_oneTurn 63 rfl) rfl rfl (pc1 := 111) rfl ?_
  obtain ⟨k_11, h⟩ := ix_ck_some h
  refine iz_iald X k_11 (ix_tb_at tb_X12_oneTurn 64 rfl) (pc1 := 112) rfl ?_
  refine ix_icmp_ge (tgt := 146) X (ix_tb_at tb_X12_oneTurn 65 rfl) (by decide) (pc1 := 115) rfl (fun q_12 => ?_) (fun q_12 => ?_)
  · have h := ix_ift q_12 h
    refine ix_sub (L1 := [(0, .ref (K.2.2.1 + a0)), (1, .int x1), (2, .int x2), (3, .int x3)]) [0, 1, 2, 3] rfl ?_
    exact t_X12_oneTurn_146 hKp X hr hlk  h
  · have h := ix_iff q_12 h
    refine ix_iload_n (i := 3) (j := 3) X (ix_tb_at tb_X12_oneTurn 66 rfl) rfl rfl (pc1 := 116) rfl ?_
    refine ix_iconst (v := 1) X (ix_tb_at tb_X12_oneTurn 67 rfl) (by decide) (pc1 := 117) rfl ?_
    refine ix_icmp_ne (tgt := 146) X (ix_tb_at tb_X12_oneTurn 68 rfl) (by decide) (pc1 := 120) rfl (fun q_47 => ?_) (fun q_47 => ?_)
    · have h := ix_iff q_47 h
      refine ix_sub (L1 := [(0, .ref (K.2.2.1 + a0)), (1, .int x1), (2, .int x2), (3, .int x3)]) [0, 1, 2, 3] rfl ?_
      exact t_X12_oneTurn_146 hKp X hr hlk  h
    · have h := ix_ift q_47 h
      refine ix_aload_n (i := 0) (j := 0) X (ix_tb_at tb_X12_oneTurn 69 rfl) rfl rfl (pc1 := 121) rfl ?_
      obtain ⟨b_48, q_49, h⟩ := ix_bd1_ex h
      refine iz_getR X fl_RX12_125 k_8 q_49 (ix_tb_at tb_X12_oneTurn 70 rfl) (pc1 := 124) rfl ?_
      refine ix_bipush (v := 20) X (ix_tb_at tb_X12_oneTurn 71 rfl) (by decide) (pc1 := 126) rfl ?_
      refine ix_iload_n (i := 1) (j := 1) X (ix_tb_at tb_X12_oneTurn 72 rfl) rfl rfl (pc1 := 127) rfl ?_
      refine ix_imul X (ix_tb_at tb_X12_oneTurn 73 rfl) (pc1 := 128) rfl ?_
      refine ix_iload (i := 4) (j := 4) X (ix_tb_at tb_X12_oneTurn 74 rfl) rfl (pc1 := 130) rfl ?_
      refine ix_iadd X (ix_tb_at tb_X12_oneTurn 75 rfl) (pc1 := 131) rfl ?_
      obtain ⟨k_50, h⟩ := ix_ck_some h
      refine iz_iald X k_50 (ix_tb_at tb_X12_oneTurn 76 rfl) (pc1 := 132) rfl ?_
      obtain ⟨x2_51, e_52, h⟩ := ix_lt_ex h
      refine ix_nmi e_52 ?_
      refine ix_istore_n (i := 2) (L1 := [(2, .int x2_51), (0, .ref (K.2.2.1 + a0)), (1, .int x1), (3, .int x3), (4, .int x4)]) X (ix_tb_at tb_X12_oneTurn 77 rfl) rfl (Nat.le_of_ble_eq_true rfl) rfl (pc1 := 133) rfl ?_
      refine ix_aload_n (i := 0) (j := 1) X (ix_tb_at tb_X12_oneTurn 78 rfl) rfl rfl (pc1 := 134) rfl ?_
      refine ix_iload_n (i := 1) (j := 2) X (ix_tb_at tb_X12_oneTurn 79 rfl) rfl rfl (pc1 := 135) rfl ?_
      refine ix_iload_n (i := 2) (j := 0) X (ix_tb_at tb_X12_oneTurn 80 rfl) rfl rfl (pc1 := 136) rfl ?_
      obtain ⟨r_55, d_53, h_54, h⟩ := ix_bd2_ex h
      refine ix_callV (As := [.int x1, .int x2_51]) (rest := []) (ci := 11) (T := TX12) (nf := 116) X mf_X12_stateOf mi_X12_stateOf ms_X12_stateOf rfl (Nat.le_of_ble_eq_true rfl) ml_RX12_445 ⟨Nat.le_of_ble_eq_true rfl, Nat.le_of_ble_eq_true rfl⟩ ⟨Nat.le_of_ble_eq_true rfl, Nat.le_of_ble_eq_true rfl⟩ rfl (Nat.le_of_ble_eq_true rfl) (ix_tb_at tb_X12_oneTurn 81 rfl) ⟨k_8.1, List.mem_singleton.mp k_8.2⟩ (c_X12_stateOf hKp h_54) rfl (pc1 := 139) rfl ?_
      refine ix_istore_n (i := 3) (L1 := [(3, .int r_55), (2, .int x2_51), (0, .ref (K.2.2.1 + a0)), (1, .int x1), (4, .int x4)]) X (ix_tb_at tb_X12_oneTurn 82 rfl) rfl (Nat.le_of_ble_eq_true rfl) rfl (pc1 := 140) rfl ?_
      obtain ⟨x4_56, e_57, h⟩ := ix_lt_ex h
      refine ix_iinc (i := 4) (j := 4) (v := x4_56) (L1 := [(4, .int x4_56), (3, .int r_55), (2, .int x2_51), (0, .ref (K.2.2.1 + a0)), (1, .int x1)]) X (ix_tb_at tb_X12_oneTurn 83 rfl) rfl (by rw [oi_1]; exact e_57.symm) (Nat.le_of_ble_eq_true rfl) rfl (pc1 := 143) rfl ?_
      refine ix_goto (tgt := 104) X (ix_tb_at tb_X12_oneTurn 84 rfl) (by decide) ?_
      refine ix_sub (L1 := [(0, .ref (K.2.2.1 + a0)), (1, .int x1), (2, .int x2_51), (3, .int r_55), (4, .int x4_56)]) [3, 4, 2, 1, 0] rfl ?_
      exact hrec104 x2_51 r_55 x4_56 d_53 h
theorem t_X12_oneTurn_104 {l : Launch} {p : Program} {e : Env} {s : State} {m : MethodId} {args : Array Value} {below : List Frame} {meth : Method} {c : Code} {K : ix_Cx} (hKp : ix_Kp K) {n : Nat} {z : ix_Z} (X : ix_X p s m args c K cX12_oneTurn RX12 5) (hr : meth.sig.returnType = (some .int)) (hlk : meth.locks = false)  {a0 : Nat} {x1 : Int32} {r : Int32} {d1 : ix_D2}  {x2 : Int32} {x3 : Int32} {x4 : Int32} {d : ix_D2} (h : f_X12_oneTurn_104 n z  a0 x1 x2 x3 x4 d = some (r, d1)) : ix_G p l e (ix_rm 5 116 0 0) s m args below meth c (MQ below (ix_Post K (some (.int r)) (ix_w z d1)) args s 0 0 (ix_A K)) K 5 0 0 104 [(0, .ref (K.2.2.1 + a0)), (1, .int x1), (2, .int x2), (3, .int x3), (4, .int x4)] [] (ix_w z d) := by
  have key : ∀ (f : Nat) (x2 : Int32) (x3 : Int32) (x4 : Int32) (d : ix_D2), ix_fix (b_X12_oneTurn_104 n z  a0 x1) (fun _ _ _ _ => none) f x2 x3 x4 d = some (r, d1) → ix_G p l e (ix_rm 5 116 0 0) s m args below meth c (MQ below (ix_Post K (some (.int r)) (ix_w z d1)) args s 0 0 (ix_A K)) K 5 0 0 104 [(0, .ref (K.2.2.1 + a0)), (1, .int x1), (2, .int x2), (3, .int x3), (4, .int x4)] [] (ix_w z d) := by
    intro f
    induction f with
    | zero =>
      intro x2 x3 x4 d h
      have h : (none : Option (Int32 × ix_D2)) = some (r, d1) := h
      cases h
    | succ f ih =>
      intro x2 x3 x4 d h
      exact tb_X12_oneTurn_104 hKp X hr hlk (rec104 := ix_fix (b_X12_oneTurn_104 n z  a0 x1) (fun _ _ _ _ => none) f)  ih h
  exact key n x2 x3 x4 d h
set_option maxRecDepth 20000 in
theorem t_X12_oneTurn_67 {l : Launch} {p : Program} {e : Env} {s : State} {m : MethodId} {args : Array Value} {below : List Frame} {meth : Method} {c : Code} {K : ix_Cx} (hKp : ix_Kp K) {n : Nat} {z : ix_Z} (X : ix_X p s m args c K cX12_oneTurn RX12 5) (hr : meth.sig.returnType = (some .int)) (hlk : meth.locks = false)  {a0 : Nat} {x1 : Int32} {r : Int32} {d1 : ix_D2}  {d : ix_D2} (h : f_X12_oneTurn_67 n z  a0 x1 d = some (r, d1)) : ix_G p l e (ix_rm 5 116 0 0) s m args below meth c (MQ below (ix_Post K (some (.int r)) (ix_w z d1)) args s 0 0 (ix_A K)) K 5 0 0 67 [(0, .ref (K.2.2.1 + a0)), (1, .int x1)] [] (ix_w z d) := by
  unfold f_X12_oneTurn_67 at h
  refine ix_aload_n (i := 0) (j := 0) X (ix_tb_at tb_X12_oneTurn 38 rfl) rfl rfl (pc1 := 68) rfl ?_
  obtain ⟨k_6, h⟩ := ix_ck_some h
  refine iz_getI X fl_RX12_460 k_6 (ix_tb_at tb_X12_oneTurn 39 rfl) (pc1 := 71) rfl ?_
  refine ix_if_lt (tgt := 97) X (ix_tb_at tb_X12_oneTurn 40 rfl) (by decide) (pc1 := 74) rfl (fun q_7 => ?_) (fun q_7 => ?_)
  · have h := ix_ift q_7 h
    refine ix_iconst (v := 0) X (ix_tb_at tb_X12_oneTurn 54 rfl) (by decide) (pc1 := 98) rfl ?_
    refine ix_istore_n (i := 2) (L1 := [(2, .int 0), (0, .ref (K.2.2.1 + a0)), (1, .int x1)]) X (ix_tb_at tb_X12_oneTurn 55 rfl) rfl (Nat.le_of_ble_eq_true rfl) rfl (pc1 := 99) rfl ?_
    refine ix_iconst (v := 1) X (ix_tb_at tb_X12_oneTurn 56 rfl) (by decide) (pc1 := 100) rfl ?_
    refine ix_istore_n (i := 3) (L1 := [(3, .int 1), (2, .int 0), (0, .ref (K.2.2.1 + a0)), (1, .int x1)]) X (ix_tb_at tb_X12_oneTurn 57 rfl) rfl (Nat.le_of_ble_eq_true rfl) rfl (pc1 := 101) rfl ?_
    refine ix_iconst (v := 0) X (ix_tb_at tb_X12_oneTurn 58 rfl) (by decide) (pc1 := 102) rfl ?_
    refine ix_istore (i := 4) (L1 := [(4, .int 0), (3, .int 1), (2, .int 0), (0, .ref (K.2.2.1 + a0)), (1, .int x1)]) X (ix_tb_at tb_X12_oneTurn 59 rfl) (Nat.le_of_ble_eq_true rfl) rfl (pc1 := 104) rfl ?_
    refine ix_sub (L1 := [(0, .ref (K.2.2.1 + a0)), (1, .int x1), (2, .int 0), (3, .int 1), (4, .int 0)]) [3, 4, 2, 1, 0] rfl ?_
    exact t_X12_oneTurn_104 hKp X hr hlk  h
  · have h := ix_iff q_7 h
    refine ix_aload_n (i := 0) (j := 0) X (ix_tb_at tb_X12_oneTurn 41 rfl) rfl rfl (pc1 := 75) rfl ?_
    obtain ⟨b_58, q_59, h⟩ := ix_bd1_ex h
    refine iz_getR X fl_RX12_159 k_6 q_59 (ix_tb_at tb_X12_oneTurn 42 rfl) (pc1 := 78) rfl ?_
    refine ix_iload_n (i := 1) (j := 1) X (ix_tb_at tb_X12_oneTurn 43 rfl) rfl rfl (pc1 := 79) rfl ?_
    obtain ⟨k_60, h⟩ := ix_ck_some h
    refine iz_iald X k_60 (ix_tb_at tb_X12_oneTurn 44 rfl) (pc1 := 80) rfl ?_
    refine ix_if_ne (tgt := 91) X (ix_tb_at tb_X12_oneTurn 45 rfl) (by decide) (pc1 := 83) rfl (fun q_61 => ?_) (fun q_61 => ?_)
    · have h := ix_iff q_61 h
      refine ix_aload_n (i := 0) (j := 0) X (ix_tb_at tb_X12_oneTurn 50 rfl) rfl rfl (pc1 := 92) rfl ?_
      refine ix_iload_n (i := 1) (j := 1) X (ix_tb_at tb_X12_oneTurn 51 rfl) rfl rfl (pc1 := 93) rfl ?_
      obtain ⟨r_64, d_62, h_63, h⟩ := ix_bd2_ex h
      refine ix_callV (As := [.int x1]) (rest := []) (ci := 11) (T := TX12) (nf := 116) X mf_X12_learn mi_X12_learn ms_X12_learn rfl (Nat.le_of_ble_eq_true rfl) ml_RX12_505 ⟨Nat.le_of_ble_eq_true rfl, Nat.le_of_ble_eq_true rfl⟩ ⟨Nat.le_of_ble_eq_true rfl, Nat.le_of_ble_eq_true rfl⟩ rfl (Nat.le_of_ble_eq_true rfl) (ix_tb_at tb_X12_oneTurn 52 rfl) ⟨k_6.1, List.mem_singleton.mp k_6.2⟩ (c_X12_learn hKp h_63) rfl (pc1 := 96) rfl ?_
      exact ix_iret X hr hlk (ix_r2 (f := fun r => some (.int r)) (g := ix_w z) h) (ix_tb_at tb_X12_oneTurn 53 rfl)
    · have h := ix_ift q_61 h
      refine ix_aload_n (i := 0) (j := 0) X (ix_tb_at tb_X12_oneTurn 46 rfl) rfl rfl (pc1 := 84) rfl ?_
      refine ix_iload_n (i := 1) (j := 1) X (ix_tb_at tb_X12_oneTurn 47 rfl) rfl rfl (pc1 := 85) rfl ?_
      obtain ⟨r_67, d_65, h_66, h⟩ := ix_bd2_ex h
      refine ix_callV (As := [.int x1]) (rest := []) (ci := 11) (T := TX12) (nf := 116) X mf_X12_endLow mi_X12_endLow ms_X12_endLow rfl (Nat.le_of_ble_eq_true rfl) ml_RX12_502 ⟨Nat.le_of_ble_eq_true rfl, Nat.le_of_ble_eq_true rfl⟩ ⟨Nat.le_of_ble_eq_true rfl, Nat.le_of_ble_eq_true rfl⟩ rfl (Nat.le_of_ble_eq_true rfl) (ix_tb_at tb_X12_oneTurn 48 rfl) ⟨k_6.1, List.mem_singleton.mp k_6.2⟩ (c_X12_endLow hKp h_66) rfl (pc1 := 88) rfl ?_
      refine ix_goto (tgt := 96) X (ix_tb_at tb_X12_oneTurn 49 rfl) (by decide) ?_
      exact ix_iret X hr hlk (ix_r2 (f := fun r => some (.int r)) (g := ix_w z) h) (ix_tb_at tb_X12_oneTurn 53 rfl)
set_option maxRecDepth 20000 in
theorem tb_X12_oneTurn_5 {l : Launch} {p : Program} {e : Env} {s : State} {m : MethodId} {args : Array Value} {below : List Frame} {meth : Method} {c : Code} {K : ix_Cx} (hKp : ix_Kp K) {n : Nat} {z : ix_Z} (X : ix_X p s m args c K cX12_oneTurn RX12 5) (hr : meth.sig.returnType = (some .int)) (hlk : meth.locks = false)  {a0 : Nat} {x1 : Int32} {rec5 : ix_D2 → Option (Int32 × ix_D2)} {r : Int32} {d1 : ix_D2} (hrec5 : ∀  (d : ix_D2), rec5  d = some (r, d1) → ix_G p l e (ix_rm 5 116 0 0) s m args below meth c (MQ below (ix_Post K (some (.int r)) (ix_w z d1)) args s 0 0 (ix_A K)) K 5 0 0 5 [(0, .ref (K.2.2.1 + a0)), (1, .int x1)] [] (ix_w z d))  {d : ix_D2} (h : b_X12_oneTurn_5 n z  a0 x1 rec5  d = some (r, d1)) : ix_G p l e (ix_rm 5 116 0 0) s m args below meth c (MQ below (ix_Post K (some (.int r)) (ix_w z d1)) args s 0 0 (ix_A K)) K 5 0 0 5 [(0, .ref (K.2.2.1 + a0)), (1, .int x1)] [] (ix_w z d) := by
  unfold b_X12_oneTurn_5 at h
  refine ix_aload_n (i := 0) (j := 0) X (ix_tb_at tb_X12_oneTurn 3 rfl) rfl rfl (pc1 := 6) rfl ?_
  obtain ⟨k_4, h⟩ := ix_ck_some h
  refine iz_getI X fl_RX12_460 k_4 (ix_tb_at tb_X12_oneTurn 4 rfl) (pc1 := 9) rfl ?_
  refine ix_if_ge (tgt := 67) X (ix_tb_at tb_X12_oneTurn 5 rfl) (by decide) (pc1 := 12) rfl (fun q_5 => ?_) (fun q_5 => ?_)
  · have h := ix_ift q_5 h
    refine ix_sub (L1 := [(0, .ref (K.2.2.1 + a0)), (1, .int x1)]) [0, 1] rfl ?_
    exact t_X12_oneTurn_67 hKp X hr hlk  h
  · have h := ix_iff q_5 h
    refine ix_aload_n (i := 0) (j := 0) X (ix_tb_at tb_X12_oneTurn 6 rfl) rfl rfl (pc1 := 13) rfl ?_
    refine iz_getI X fl_RX12_454 k_4 (ix_tb_at tb_X12_oneTurn 7 rfl) (pc1 := 16) rfl ?_
    refine ix_if_lt (tgt := 67) X (ix_tb_at tb_X12_oneTurn 8 rfl) (by decide) (pc1 := 19) rfl (fun q_68 => ?_) (fun q_68 => ?_)
    · have h := ix_ift q_68 h
      refine ix_sub (L1 := [(0, .ref (K.2.2.1 + a0)), (1, .int x1)]) [0, 1] rfl ?_
      exact t_X12_oneTurn_67 hKp X hr hlk  h
    · have h := ix_iff q_68 h
      refine ix_aload_n (i := 0) (j := 0) X (ix_tb_at tb_X12_oneTurn 9 rfl) rfl rfl (pc1 := 20) rfl ?_
      refine ix_iload_n (i := 1) (j := 1) X (ix_tb_at tb_X12_oneTurn 10 rfl) rfl rfl (pc1 := 21) rfl ?_
      obtain ⟨r_71, d_69, h_70, h⟩ := ix_bd2_ex h
      refine ix_callV (As := [.int x1]) (rest := []) (ci := 11) (T := TX12) (nf := 116) X mf_X12_takesStep mi_X12_takesStep ms_X12_takesStep rfl (Nat.le_of_ble_eq_true rfl) ml_RX12_496 ⟨Nat.le_of_ble_eq_true rfl, Nat.le_of_ble_eq_true rfl⟩ ⟨Nat.le_of_ble_eq_true rfl, Nat.le_of_ble_eq_true rfl⟩ rfl (Nat.le_of_ble_eq_true rfl) (ix_tb_at tb_X12_oneTurn 11 rfl) ⟨k_4.1, List.mem_singleton.mp k_4.2⟩ (c_X12_takesStep hKp h_70) rfl (pc1 := 24) rfl ?_
      refine ix_if_ne (tgt := 31) X (ix_tb_at tb_X12_oneTurn 12 rfl) (by decide) (pc1 := 27) rfl (fun q_72 => ?_) (fun q_72 => ?_)
      · have h := ix_iff q_72 h
        refine ix_aload_n (i := 0) (j := 0) X (ix_tb_at tb_X12_oneTurn 15 rfl) rfl rfl (pc1 := 32) rfl ?_
        obtain ⟨b_73, q_74, h⟩ := ix_bd1_ex h
        refine iz_getR X fl_RX12_195 k_4 q_74 (ix_tb_at tb_X12_oneTurn 16 rfl) (pc1 := 35) rfl ?_
        refine ix_bipush (v := 10) X (ix_tb_at tb_X12_oneTurn 17 rfl) (by decide) (pc1 := 37) rfl ?_
        refine ix_iload_n (i := 1) (j := 1) X (ix_tb_at tb_X12_oneTurn 18 rfl) rfl rfl (pc1 := 38) rfl ?_
        refine ix_imul X (ix_tb_at tb_X12_oneTurn 19 rfl) (pc1 := 39) rfl ?_
        refine ix_iconst (v := 2) X (ix_tb_at tb_X12_oneTurn 20 rfl) (by decide) (pc1 := 40) rfl ?_
        refine ix_iadd X (ix_tb_at tb_X12_oneTurn 21 rfl) (pc1 := 41) rfl ?_
        refine ix_dup2 X (ix_tb_at tb_X12_oneTurn 22 rfl) rfl rfl (pc1 := 42) rfl ?_
        obtain ⟨k_75, h⟩ := ix_ck_some h
        refine iz_iald X k_75 (ix_tb_at tb_X12_oneTurn 23 rfl) (pc1 := 43) rfl ?_
        refine ix_iconst (v := 1) X (ix_tb_at tb_X12_oneTurn 24 rfl) (by decide) (pc1 := 44) rfl ?_
        refine ix_iadd X (ix_tb_at tb_X12_oneTurn 25 rfl) (pc1 := 45) rfl ?_
        obtain ⟨d_76, e_77, h⟩ := ix_lt_ex h
        refine iz_iast X k_75 (ix_tb_at tb_X12_oneTurn 26 rfl) e_77 (pc1 := 46) rfl ?_
        refine ix_aload_n (i := 0) (j := 0) X (ix_tb_at tb_X12_oneTurn 27 rfl) rfl rfl (pc1 := 47) rfl ?_
        refine ix_iload_n (i := 1) (j := 1) X (ix_tb_at tb_X12_oneTurn 28 rfl) rfl rfl (pc1 := 48) rfl ?_
        refine ix_aload_n (i := 0) (j := 0) X (ix_tb_at tb_X12_oneTurn 29 rfl) rfl rfl (pc1 := 49) rfl ?_
        refine iz_getI X fl_RX12_457 k_4 (ix_tb_at tb_X12_oneTurn 30 rfl) (pc1 := 52) rfl ?_
        refine ix_aload_n (i := 0) (j := 0) X (ix_tb_at tb_X12_oneTurn 31 rfl) rfl rfl (pc1 := 53) rfl ?_
        refine iz_getI X fl_RX12_454 k_4 (ix_tb_at tb_X12_oneTurn 32 rfl) (pc1 := 56) rfl ?_
        obtain ⟨d_78, h_79, h⟩ := ix_bd1_ex h
        refine ix_callV (As := [.int x1, .int (d_76.1 a0 100), .int (d_76.1 a0 99)]) (rest := []) (ci := 11) (T := TX12) (nf := 116) X mf_X12_become mi_X12_become ms_X12_become rfl (Nat.le_of_ble_eq_true rfl) ml_RX12_499 ⟨Nat.le_of_ble_eq_true rfl, Nat.le_of_ble_eq_true rfl⟩ ⟨Nat.le_of_ble_eq_true rfl, Nat.le_of_ble_eq_true rfl⟩ rfl (Nat.le_of_ble_eq_true rfl) (ix_tb_at tb_X12_oneTurn 33 rfl) ⟨k_4.1, List.mem_singleton.mp k_4.2⟩ (c_X12_become hKp h_79) rfl (pc1 := 59) rfl ?_
        refine ix_aload_n (i := 0) (j := 0) X (ix_tb_at tb_X12_oneTurn 34 rfl) rfl rfl (pc1 := 60) rfl ?_
        refine ix_iload_n (i := 1) (j := 1) X (ix_tb_at tb_X12_oneTurn 35 rfl) rfl rfl (pc1 := 61) rfl ?_
        obtain ⟨d_80, h_81, h⟩ := ix_bd1_ex h
        refine ix_callV (As := [.int x1]) (rest := []) (ci := 11) (T := TX12) (nf := 116) X mf_X12_find mi_X12_find ms_X12_find rfl (Nat.le_of_ble_eq_true rfl) ml_RX12_493 ⟨Nat.le_of_ble_eq_true rfl, Nat.le_of_ble_eq_true rfl⟩ ⟨Nat.le_of_ble_eq_true rfl, Nat.le_of_ble_eq_true rfl⟩ rfl (Nat.le_of_ble_eq_true rfl) (ix_tb_at tb_X12_oneTurn 36 rfl) ⟨k_4.1, List.mem_singleton.mp k_4.2⟩ (c_X12_find hKp h_81) rfl (pc1 := 64) rfl ?_
        refine ix_goto (tgt := 5) X (ix_tb_at tb_X12_oneTurn 37 rfl) (by decide) ?_
        refine ix_sub (L1 := [(0, .ref (K.2.2.1 + a0)), (1, .int x1)]) [0, 1] rfl ?_
        exact hrec5  d_80 h
      · have h := ix_ift q_72 h
        refine ix_sipush (v := (-1004)) X (ix_tb_at tb_X12_oneTurn 13 rfl) (by decide) (pc1 := 30) rfl ?_
        exact ix_iret X hr hlk (ix_r2 (f := fun r => some (.int r)) (g := ix_w z) h) (ix_tb_at tb_X12_oneTurn 14 rfl)
theorem t_X12_oneTurn_5 {l : Launch} {p : Program} {e : Env} {s : State} {m : MethodId} {args : Array Value} {below : List Frame} {meth : Method} {c : Code} {K : ix_Cx} (hKp : ix_Kp K) {n : Nat} {z : ix_Z} (X : ix_X p s m args c K cX12_oneTurn RX12 5) (hr : meth.sig.returnType = (some .int)) (hlk : meth.locks = false)  {a0 : Nat} {x1 : Int32} {r : Int32} {d1 : ix_D2}   {d : ix_D2} (h : f_X12_oneTurn_5 n z  a0 x1  d = some (r, d1)) : ix_G p l e (ix_rm 5 116 0 0) s m args below meth c (MQ below (ix_Post K (some (.int r)) (ix_w z d1)) args s 0 0 (ix_A K)) K 5 0 0 5 [(0, .ref (K.2.2.1 + a0)), (1, .int x1)] [] (ix_w z d) := by
  have key : ∀ (f : Nat)  (d : ix_D2), ix_fix (b_X12_oneTurn_5 n z  a0 x1) (fun  _ => none) f  d = some (r, d1) → ix_G p l e (ix_rm 5 116 0 0) s m args below meth c (MQ below (ix_Post K (some (.int r)) (ix_w z d1)) args s 0 0 (ix_A K)) K 5 0 0 5 [(0, .ref (K.2.2.1 + a0)), (1, .int x1)] [] (ix_w z d) := by
    intro f
    induction f with
    | zero =>
      intro  d h
      have h : (none : Option (Int32 × ix_D2)) = some (r, d1) := h
      cases h
    | succ f ih =>
      intro  d h
      exact tb_X12_oneTurn_5 hKp X hr hlk (rec5 := ix_fix (b_X12_oneTurn_5 n z  a0 x1) (fun  _ => none) f)  ih h
  exact key n  d h
set_option maxRecDepth 20000 in
theorem c_X12_oneTurn {l : Launch} {K : ix_Cx} (hKp : ix_Kp K) {n : Nat} {z : ix_Z} {a0 : Nat} {x1 : Int32} {d : ix_D2} {r : Int32} {d1 : ix_D2} (h : f_X12_oneTurn n z a0 x1 d = some (r, d1)) : ix_M l K yX12_oneTurn cX12_oneTurn 5 (some .int) 5 116 0 0 [.ref (K.2.2.1 + a0), .int x1] (ix_w z d) (some (.int r)) (ix_w z d1) := by
  refine ix_met mf_X12_oneTurn hKp (Nat.le_of_ble_eq_true rfl) ?_
  intro p e s m args below meth c hr hlk hnm X
  have X : ix_X p s m args c K cX12_oneTurn RX12 5 := X
  show ix_G p l e (ix_rm 5 116 0 0) s m args below meth c (MQ below (ix_Post K (some (.int r)) (ix_w z d1)) args s 0 0 (ix_A K)) K 5 0 0 0 [(0, .ref (K.2.2.1 + a0)), (1, .int x1)] [] (ix_w z d)
  unfold f_X12_oneTurn at h
  refine ix_aload_n (i := 0) (j := 0) X (ix_tb_at tb_X12_oneTurn 0 rfl) rfl rfl (pc1 := 1) rfl ?_
  refine ix_iload_n (i := 1) (j := 1) X (ix_tb_at tb_X12_oneTurn 1 rfl) rfl rfl (pc1 := 2) rfl ?_
  obtain ⟨k_3, h⟩ := ix_ck_some h
  obtain ⟨d_1, h_2, h⟩ := ix_bd1_ex h
  refine ix_callV (As := [.int x1]) (rest := []) (ci := 11) (T := TX12) (nf := 116) X mf_X12_find mi_X12_find ms_X12_find rfl (Nat.le_of_ble_eq_true rfl) ml_RX12_493 ⟨Nat.le_of_ble_eq_true rfl, Nat.le_of_ble_eq_true rfl⟩ ⟨Nat.le_of_ble_eq_true rfl, Nat.le_of_ble_eq_true rfl⟩ rfl (Nat.le_of_ble_eq_true rfl) (ix_tb_at tb_X12_oneTurn 2 rfl) ⟨k_3.1, List.mem_singleton.mp k_3.2⟩ (c_X12_find hKp h_2) rfl (pc1 := 5) rfl ?_
  refine ix_sub (L1 := [(0, .ref (K.2.2.1 + a0)), (1, .int x1)]) [0, 1] rfl ?_
  exact t_X12_oneTurn_5 hKp X hr hlk  h
def tab_X12_solving : List (Nat × Instr × Nat) := [(0, .bipush 7, 2), (2, .istore_n 2, 1), (3, .iload_n 2, 1), (4, .bipush 7, 2), (6, .if_icmp .ne 12, 3), (9, .aload_n 0, 1), (10, .iload_n 1, 1), (11, .invokevirtual 487, 3), (14, .istore_n 2, 1), (15, .goto (-12), 3), (18, .iload_n 2, 1), (19, .ireturn, 1)]
theorem tb_X12_solving : ix_tab cX12_solving tab_X12_solving := by
  unfold ix_tab
  decide +kernel
noncomputable def b_X12_solving_3 (n : Nat) (z : ix_Z)  (a0 : Nat) (x1 : Int32) (rec3 : Int32 → ix_D2 → Option (Int32 × ix_D2)) (x2 : Int32) (d : ix_D2) : Option (Int32 × ix_D2) :=
  ix_if (x2 = 7) (ix_ck (ix_ok z [11] a0) (ix_bd2 (f_X12_oneTurn n z a0 x1 d) (fun r_5 d_2 => rec3 r_5 d_2))) (some (x2, d))
noncomputable def f_X12_solving_3 (n : Nat) (z : ix_Z)  (a0 : Nat) (x1 : Int32) (x2 : Int32) (d : ix_D2) : Option (Int32 × ix_D2) := ix_fix (b_X12_solving_3 n z  a0 x1) (fun _ _ => none) n x2 d
noncomputable def f_X12_solving (n : Nat) (z : ix_Z) (a0 : Nat) (x1 : Int32) (d : ix_D2) : Option (Int32 × ix_D2) :=
  f_X12_solving_3 n z  a0 x1 7 d
set_option maxRecDepth 20000 in
theorem tb_X12_solving_3 {l : Launch} {p : Program} {e : Env} {s : State} {m : MethodId} {args : Array Value} {below : List Frame} {meth : Method} {c : Code} {K : ix_Cx} (hKp : ix_Kp K) {n : Nat} {z : ix_Z} (X : ix_X p s m args c K cX12_solving RX12 3) (hr : meth.sig.returnType = (some .int)) (hlk : meth.locks = false)  {a0 : Nat} {x1 : Int32} {rec3 : Int32 → ix_D2 → Option (Int32 × ix_D2)} {r : Int32} {d1 : ix_D2} (hrec3 : ∀ (x2 : Int32) (d : ix_D2), rec3 x2 d = some (r, d1) → ix_G p l e (ix_rm 6 140 0 0) s m args below meth c (MQ below (ix_Post K (some (.int r)) (ix_w z d1)) args s 0 0 (ix_A K)) K 3 0 0 3 [(0, .ref (K.2.2.1 + a0)), (1, .int x1), (2, .int x2)] [] (ix_w z d)) {x2 : Int32} {d : ix_D2} (h : b_X12_solving_3 n z  a0 x1 rec3 x2 d = some (r, d1)) : ix_G p l e (ix_rm 6 140 0 0) s m args below meth c (MQ below (ix_Post K (some (.int r)) (ix_w z d1)) args s 0 0 (ix_A K)) K 3 0 0 3 [(0, .ref (K.2.2.1 + a0)), (1, .int x1), (2, .int x2)] [] (ix_w z d) := by
  unfold b_X12_solving_3 at h
  refine ix_iload_n (i := 2) (j := 2) X (ix_tb_at tb_X12_solving 2 rfl) rfl rfl (pc1 := 4) rfl ?_
  refine ix_bipush (v := 7) X (ix_tb_at tb_X12_solving 3 rfl) (by decide) (pc1 := 6) rfl ?_
  refine ix_icmp_ne (tgt := 18) X (ix_tb_at tb_X12_solving 4 rfl) (by decide) (pc1 := 9) rfl (fun q_1 => ?_) (fun q_1 => ?_)
  · have h := ix_iff q_1 h
    refine ix_iload_n (i := 2) (j := 2) X (ix_tb_at tb_X12_solving 10 rfl) rfl rfl (pc1 := 19) rfl ?_
    exact ix_iret X hr hlk (ix_r2 (f := fun r => some (.int r)) (g := ix_w z) h) (ix_tb_at tb_X12_solving 11 rfl)
  · have h := ix_ift q_1 h
    refine ix_aload_n (i := 0) (j := 0) X (ix_tb_at tb_X12_solving 5 rfl) rfl rfl (pc1 := 10) rfl ?_
    refine ix_iload_n (i := 1) (j := 1) X (ix_tb_at tb_X12_solving 6 rfl) rfl rfl (pc1 := 11) rfl ?_
    obtain ⟨k_4, h⟩ := ix_ck_some h
    obtain ⟨r_5, d_2, h_3, h⟩ := ix_bd2_ex h
    refine ix_callV (As := [.int x1]) (rest := []) (ci := 11) (T := TX12) (nf := 116) X mf_X12_oneTurn mi_X12_oneTurn ms_X12_oneTurn rfl (Nat.le_of_ble_eq_true rfl) ml_RX12_487 ⟨Nat.le_of_ble_eq_true rfl, Nat.le_of_ble_eq_true rfl⟩ ⟨Nat.le_of_ble_eq_true rfl, Nat.le_of_ble_eq_true rfl⟩ rfl (Nat.le_of_ble_eq_true rfl) (ix_tb_at tb_X12_solving 7 rfl) ⟨k_4.1, List.mem_singleton.mp k_4.2⟩ (c_X12_oneTurn hKp h_3) rfl (pc1 := 14) rfl ?_
    refine ix_istore_n (i := 2) (L1 := [(2, .int r_5), (0, .ref (K.2.2.1 + a0)), (1, .int x1)]) X (ix_tb_at tb_X12_solving 8 rfl) rfl (Nat.le_of_ble_eq_true rfl) rfl (pc1 := 15) rfl ?_
    refine ix_goto (tgt := 3) X (ix_tb_at tb_X12_solving 9 rfl) (by decide) ?_
    refine ix_sub (L1 := [(0, .ref (K.2.2.1 + a0)), (1, .int x1), (2, .int r_5)]) [1, 2, 0] rfl ?_
    exact hrec3 r_5 d_2 h
theorem t_X12_solving_3 {l : Launch} {p : Program} {e : Env} {s : State} {m : MethodId} {args : Array Value} {below : List Frame} {meth : Method} {c : Code} {K : ix_Cx} (hKp : ix_Kp K) {n : Nat} {z : ix_Z} (X : ix_X p s m args c K cX12_solving RX12 3) (hr : meth.sig.returnType = (some .int)) (hlk : meth.locks = false)  {a0 : Nat} {x1 : Int32} {r : Int32} {d1 : ix_D2}  {x2 : Int32} {d : ix_D2} (h : f_X12_solving_3 n z  a0 x1 x2 d = some (r, d1)) : ix_G p l e (ix_rm 6 140 0 0) s m args below meth c (MQ below (ix_Post K (some (.int r)) (ix_w z d1)) args s 0 0 (ix_A K)) K 3 0 0 3 [(0, .ref (K.2.2.1 + a0)), (1, .int x1), (2, .int x2)] [] (ix_w z d) := by
  have key : ∀ (f : Nat) (x2 : Int32) (d : ix_D2), ix_fix (b_X12_solving_3 n z  a0 x1) (fun _ _ => none) f x2 d = some (r, d1) → ix_G p l e (ix_rm 6 140 0 0) s m args below meth c (MQ below (ix_Post K (some (.int r)) (ix_w z d1)) args s 0 0 (ix_A K)) K 3 0 0 3 [(0, .ref (K.2.2.1 + a0)), (1, .int x1), (2, .int x2)] [] (ix_w z d) := by
    intro f
    induction f with
    | zero =>
      intro x2 d h
      have h : (none : Option (Int32 × ix_D2)) = some (r, d1) := h
      cases h
    | succ f ih =>
      intro x2 d h
      exact tb_X12_solving_3 hKp X hr hlk (rec3 := ix_fix (b_X12_solving_3 n z  a0 x1) (fun _ _ => none) f)  ih h
  exact key n x2 d h
set_option maxRecDepth 20000 in
theorem c_X12_solving {l : Launch} {K : ix_Cx} (hKp : ix_Kp K) {n : Nat} {z : ix_Z} {a0 : Nat} {x1 : Int32} {d : ix_D2} {r : Int32} {d1 : ix_D2} (h : f_X12_solving n z a0 x1 d = some (r, d1)) : ix_M l K yX12_solving cX12_solving 3 (some .int) 6 140 0 0 [.ref (K.2.2.1 + a0), .int x1] (ix_w z d) (some (.int r)) (ix_w z d1) := by
  refine ix_met mf_X12_solving hKp (Nat.le_of_ble_eq_true rfl) ?_
  intro p e s m args below meth c hr hlk hnm X
  have X : ix_X p s m args c K cX12_solving RX12 3 := X
  show ix_G p l e (ix_rm 6 140 0 0) s m args below meth c (MQ below (ix_Post K (some (.int r)) (ix_w z d1)) args s 0 0 (ix_A K)) K 3 0 0 0 [(0, .ref (K.2.2.1 + a0)), (1, .int x1)] [] (ix_w z d)
  unfold f_X12_solving at h
  refine ix_bipush (v := 7) X (ix_tb_at tb_X12_solving 0 rfl) (by decide) (pc1 := 2) rfl ?_
  refine ix_istore_n (i := 2) (L1 := [(2, .int 7), (0, .ref (K.2.2.1 + a0)), (1, .int x1)]) X (ix_tb_at tb_X12_solving 1 rfl) rfl (Nat.le_of_ble_eq_true rfl) rfl (pc1 := 3) rfl ?_
  refine ix_sub (L1 := [(0, .ref (K.2.2.1 + a0)), (1, .int x1), (2, .int 7)]) [1, 2, 0] rfl ?_
  exact t_X12_solving_3 hKp X hr hlk  h
def tab_X12_ended : List (Nat × Instr × Nat) := [(0, .aload_n 0, 1), (1, .getfield 131, 3), (4, .iconst 0, 1), (5, .iload_n 1, 1), (6, .iastore, 1), (7, .aload_n 0, 1), (8, .iload_n 1, 1), (9, .sipush (-1004), 3), (12, .if_icmp .ne 7, 3), (15, .iconst 1, 1), (16, .goto 4, 3), (19, .iconst 0, 1), (20, .putfield 249, 3), (23, .iconst 1, 1), (24, .istore_n 2, 1), (25, .iload_n 2, 1), (26, .aload_n 0, 1), (27, .getfield 116, 3), (30, .iconst 0, 1), (31, .iaload, 1), (32, .if_icmp .gt 26, 3), (35, .iload_n 1, 1), (36, .iconst 1, 1), (37, .if_icmp .ne 21, 3), (40, .aload_n 0, 1), (41, .getfield 113, 3), (44, .iload_n 2, 1), (45, .aload_n 0, 1), (46, .getfield 134, 3), (49, .iload_n 2, 1), (50, .iaload, 1), (51, .iastore, 1), (52, .iinc 2 1, 3), (55, .goto (-30), 3), (58, .iload_n 1, 1), (59, .ireturn, 1)]
theorem tb_X12_ended : ix_tab cX12_ended tab_X12_ended := by
  unfold ix_tab
  decide +kernel
noncomputable def b_X12_ended_25 (n : Nat) (z : ix_Z)  (a0 : Nat) (x1 : Int32) (rec25 : Int32 → ix_D2 → Option (Int32 × ix_D2)) (x2 : Int32) (d : ix_D2) : Option (Int32 × ix_D2) :=
  ix_ck (ix_ok z [11] a0) (ix_bd1 (z.1 a0 61) (fun b_13 => ix_ck (ix_ix z 20 b_13 0) (ix_if (d.1 b_13 (ix_n 0) < x2) (some (x1, d)) (ix_if (x1 = 1) (ix_bd1 (z.1 a0 60) (fun b_18 => ix_bd1 (z.1 a0 69) (fun b_20 => ix_ck (ix_ix z 20 b_20 x2) (ix_ck (ix_ix z 20 b_18 x2) (ix_lt (ix_di d b_18 (ix_n x2) (d.1 b_20 (ix_n x2))) (fun d_24 => ix_lt (x2 + 1) (fun x2_26 => rec25 x2_26 d_24))))))) (some (x1, d))))))
noncomputable def f_X12_ended_25 (n : Nat) (z : ix_Z)  (a0 : Nat) (x1 : Int32) (x2 : Int32) (d : ix_D2) : Option (Int32 × ix_D2) := ix_fix (b_X12_ended_25 n z  a0 x1) (fun _ _ => none) n x2 d
noncomputable def f_X12_ended_20 (n : Nat) (z : ix_Z)  (a0 : Nat) (x1 : Int32) (s0 : Int32) (s1 : Nat) (d : ix_D2) : Option (Int32 × ix_D2) :=
  ix_ck (ix_ok z [11] s1) (ix_ck (s0 = 0 ∨ s0 = 1) (ix_lt (ix_di d s1 57 s0) (fun d_10 => f_X12_ended_25 n z  a0 x1 1 d_10)))
noncomputable def f_X12_ended (n : Nat) (z : ix_Z) (a0 : Nat) (x1 : Int32) (d : ix_D2) : Option (Int32 × ix_D2) :=
  ix_ck (ix_ok z [11] a0) (ix_bd1 (z.1 a0 68) (fun b_2 => ix_ck (ix_ix z 20 b_2 0) (ix_lt (ix_di d b_2 (ix_n 0) x1) (fun d_5 => ix_if (x1 = (-1004)) (f_X12_ended_20 n z  a0 x1 1 a0 d_5) (f_X12_ended_20 n z  a0 x1 0 a0 d_5)))))
set_option maxRecDepth 20000 in
theorem tb_X12_ended_25 {l : Launch} {p : Program} {e : Env} {s : State} {m : MethodId} {args : Array Value} {below : List Frame} {meth : Method} {c : Code} {K : ix_Cx} (hKp : ix_Kp K) {n : Nat} {z : ix_Z} (X : ix_X p s m args c K cX12_ended RX12 3) (hr : meth.sig.returnType = (some .int)) (hlk : meth.locks = false)  {a0 : Nat} {x1 : Int32} {rec25 : Int32 → ix_D2 → Option (Int32 × ix_D2)} {r : Int32} {d1 : ix_D2} (hrec25 : ∀ (x2 : Int32) (d : ix_D2), rec25 x2 d = some (r, d1) → ix_G p l e (ix_rm 0 0 0 0) s m args below meth c (MQ below (ix_Post K (some (.int r)) (ix_w z d1)) args s 0 0 (ix_A K)) K 3 0 0 25 [(0, .ref (K.2.2.1 + a0)), (1, .int x1), (2, .int x2)] [] (ix_w z d)) {x2 : Int32} {d : ix_D2} (h : b_X12_ended_25 n z  a0 x1 rec25 x2 d = some (r, d1)) : ix_G p l e (ix_rm 0 0 0 0) s m args below meth c (MQ below (ix_Post K (some (.int r)) (ix_w z d1)) args s 0 0 (ix_A K)) K 3 0 0 25 [(0, .ref (K.2.2.1 + a0)), (1, .int x1), (2, .int x2)] [] (ix_w z d) := by
  unfold b_X12_ended_25 at h
  refine ix_iload_n (i := 2) (j := 2) X (ix_tb_at tb_X12_ended 15 rfl) rfl rfl (pc1 := 26) rfl ?_
  refine ix_aload_n (i := 0) (j := 0) X (ix_tb_at tb_X12_ended 16 rfl) rfl rfl (pc1 := 27) rfl ?_
  obtain ⟨k_12, h⟩ := ix_ck_some h
  obtain ⟨b_13, q_14, h⟩ := ix_bd1_ex h
  refine iz_getR X fl_RX12_116 k_12 q_14 (ix_tb_at tb_X12_ended 17 rfl) (pc1 := 30) rfl ?_
  refine ix_iconst (v := 0) X (ix_tb_at tb_X12_ended 18 rfl) (by decide) (pc1 := 31) rfl ?_
  obtain ⟨k_15, h⟩ := ix_ck_some h
  refine iz_iald X k_15 (ix_tb_at tb_X12_ended 19 rfl) (pc1 := 32) rfl ?_
  refine ix_icmp_gt (tgt := 58) X (ix_tb_at tb_X12_ended 20 rfl) (by decide) (pc1 := 35) rfl (fun q_16 => ?_) (fun q_16 => ?_)
  · have h := ix_ift q_16 h
    refine ix_iload_n (i := 1) (j := 1) X (ix_tb_at tb_X12_ended 34 rfl) rfl rfl (pc1 := 59) rfl ?_
    exact ix_iret X hr hlk (ix_r2 (f := fun r => some (.int r)) (g := ix_w z) h) (ix_tb_at tb_X12_ended 35 rfl)
  · have h := ix_iff q_16 h
    refine ix_iload_n (i := 1) (j := 1) X (ix_tb_at tb_X12_ended 21 rfl) rfl rfl (pc1 := 36) rfl ?_
    refine ix_iconst (v := 1) X (ix_tb_at tb_X12_ended 22 rfl) (by decide) (pc1 := 37) rfl ?_
    refine ix_icmp_ne (tgt := 58) X (ix_tb_at tb_X12_ended 23 rfl) (by decide) (pc1 := 40) rfl (fun q_17 => ?_) (fun q_17 => ?_)
    · have h := ix_iff q_17 h
      refine ix_iload_n (i := 1) (j := 1) X (ix_tb_at tb_X12_ended 34 rfl) rfl rfl (pc1 := 59) rfl ?_
      exact ix_iret X hr hlk (ix_r2 (f := fun r => some (.int r)) (g := ix_w z) h) (ix_tb_at tb_X12_ended 35 rfl)
    · have h := ix_ift q_17 h
      refine ix_aload_n (i := 0) (j := 0) X (ix_tb_at tb_X12_ended 24 rfl) rfl rfl (pc1 := 41) rfl ?_
      obtain ⟨b_18, q_19, h⟩ := ix_bd1_ex h
      refine iz_getR X fl_RX12_113 k_12 q_19 (ix_tb_at tb_X12_ended 25 rfl) (pc1 := 44) rfl ?_
      refine ix_iload_n (i := 2) (j := 2) X (ix_tb_at tb_X12_ended 26 rfl) rfl rfl (pc1 := 45) rfl ?_
      refine ix_aload_n (i := 0) (j := 0) X (ix_tb_at tb_X12_ended 27 rfl) rfl rfl (pc1 := 46) rfl ?_
      obtain ⟨b_20, q_21, h⟩ := ix_bd1_ex h
      refine iz_getR X fl_RX12_134 k_12 q_21 (ix_tb_at tb_X12_ended 28 rfl) (pc1 := 49) rfl ?_
      refine ix_iload_n (i := 2) (j := 2) X (ix_tb_at tb_X12_ended 29 rfl) rfl rfl (pc1 := 50) rfl ?_
      obtain ⟨k_22, h⟩ := ix_ck_some h
      refine iz_iald X k_22 (ix_tb_at tb_X12_ended 30 rfl) (pc1 := 51) rfl ?_
      obtain ⟨k_23, h⟩ := ix_ck_some h
      obtain ⟨d_24, e_25, h⟩ := ix_lt_ex h
      refine iz_iast X k_23 (ix_tb_at tb_X12_ended 31 rfl) e_25 (pc1 := 52) rfl ?_
      obtain ⟨x2_26, e_27, h⟩ := ix_lt_ex h
      refine ix_iinc (i := 2) (j := 2) (v := x2_26) (L1 := [(2, .int x2_26), (0, .ref (K.2.2.1 + a0)), (1, .int x1)]) X (ix_tb_at tb_X12_ended 32 rfl) rfl (by rw [oi_1]; exact e_27.symm) (Nat.le_of_ble_eq_true rfl) rfl (pc1 := 55) rfl ?_
      refine ix_goto (tgt := 25) X (ix_tb_at tb_X12_ended 33 rfl) (by decide) ?_
      refine ix_sub (L1 := [(0, .ref (K.2.2.1 + a0)), (1, .int x1), (2, .int x2_26)]) [1, 2, 0] rfl ?_
      exact hrec25 x2_26 d_24 h
theorem t_X12_ended_25 {l : Launch} {p : Program} {e : Env} {s : State} {m : MethodId} {args : Array Value} {below : List Frame} {meth : Method} {c : Code} {K : ix_Cx} (hKp : ix_Kp K) {n : Nat} {z : ix_Z} (X : ix_X p s m args c K cX12_ended RX12 3) (hr : meth.sig.returnType = (some .int)) (hlk : meth.locks = false)  {a0 : Nat} {x1 : Int32} {r : Int32} {d1 : ix_D2}  {x2 : Int32} {d : ix_D2} (h : f_X12_ended_25 n z  a0 x1 x2 d = some (r, d1)) : ix_G p l e (ix_rm 0 0 0 0) s m args below meth c (MQ below (ix_Post K (some (.int r)) (ix_w z d1)) args s 0 0 (ix_A K)) K 3 0 0 25 [(0, .ref (K.2.2.1 + a0)), (1, .int x1), (2, .int x2)] [] (ix_w z d) := by
  have key : ∀ (f : Nat) (x2 : Int32) (d : ix_D2), ix_fix (b_X12_ended_25 n z  a0 x1) (fun _ _ => none) f x2 d = some (r, d1) → ix_G p l e (ix_rm 0 0 0 0) s m args below meth c (MQ below (ix_Post K (some (.int r)) (ix_w z d1)) args s 0 0 (ix_A K)) K 3 0 0 25 [(0, .ref (K.2.2.1 + a0)), (1, .int x1), (2, .int x2)] [] (ix_w z d) := by
    intro f
    induction f with
    | zero =>
      intro x2 d h
      have h : (none : Option (Int32 × ix_D2)) = some (r, d1) := h
      cases h
    | succ f ih =>
      intro x2 d h
      exact tb_X12_ended_25 hKp X hr hlk (rec25 := ix_fix (b_X12_ended_25 n z  a0 x1) (fun _ _ => none) f)  ih h
  exact key n x2 d h
set_option maxRecDepth 20000 in
theorem t_X12_ended_20 {l : Launch} {p : Program} {e : Env} {s : State} {m : MethodId} {args : Array Value} {below : List Frame} {meth : Method} {c : Code} {K : ix_Cx} (hKp : ix_Kp K) {n : Nat} {z : ix_Z} (X : ix_X p s m args c K cX12_ended RX12 3) (hr : meth.sig.returnType = (some .int)) (hlk : meth.locks = false)  {a0 : Nat} {x1 : Int32} {s0 : Int32} {s1 : Nat} {r : Int32} {d1 : ix_D2}  {d : ix_D2} (h : f_X12_ended_20 n z  a0 x1 s0 s1 d = some (r, d1)) : ix_G p l e (ix_rm 0 0 0 0) s m args below meth c (MQ below (ix_Post K (some (.int r)) (ix_w z d1)) args s 0 0 (ix_A K)) K 3 0 0 20 [(0, .ref (K.2.2.1 + a0)), (1, .int x1)] [.int s0, .ref (K.2.2.1 + s1)] (ix_w z d) := by
  unfold f_X12_ended_20 at h
  obtain ⟨k_8, h⟩ := ix_ck_some h
  obtain ⟨k_9, h⟩ := ix_ck_some h
  obtain ⟨d_10, e_11, h⟩ := ix_lt_ex h
  refine iz_putZ X fp_RX12_249 k_8 (ix_tb_at tb_X12_ended 12 rfl) k_9 e_11 (pc1 := 23) rfl ?_
  refine ix_iconst (v := 1) X (ix_tb_at tb_X12_ended 13 rfl) (by decide) (pc1 := 24) rfl ?_
  refine ix_istore_n (i := 2) (L1 := [(2, .int 1), (0, .ref (K.2.2.1 + a0)), (1, .int x1)]) X (ix_tb_at tb_X12_ended 14 rfl) rfl (Nat.le_of_ble_eq_true rfl) rfl (pc1 := 25) rfl ?_
  refine ix_sub (L1 := [(0, .ref (K.2.2.1 + a0)), (1, .int x1), (2, .int 1)]) [1, 2, 0] rfl ?_
  exact t_X12_ended_25 hKp X hr hlk  h
set_option maxRecDepth 20000 in
theorem c_X12_ended {l : Launch} {K : ix_Cx} (hKp : ix_Kp K) {n : Nat} {z : ix_Z} {a0 : Nat} {x1 : Int32} {d : ix_D2} {r : Int32} {d1 : ix_D2} (h : f_X12_ended n z a0 x1 d = some (r, d1)) : ix_M l K yX12_ended cX12_ended 3 (some .int) 0 0 0 0 [.ref (K.2.2.1 + a0), .int x1] (ix_w z d) (some (.int r)) (ix_w z d1) := by
  refine ix_met mf_X12_ended hKp (Nat.le_of_ble_eq_true rfl) ?_
  intro p e s m args below meth c hr hlk hnm X
  have X : ix_X p s m args c K cX12_ended RX12 3 := X
  show ix_G p l e (ix_rm 0 0 0 0) s m args below meth c (MQ below (ix_Post K (some (.int r)) (ix_w z d1)) args s 0 0 (ix_A K)) K 3 0 0 0 [(0, .ref (K.2.2.1 + a0)), (1, .int x1)] [] (ix_w z d)
  unfold f_X12_ended at h
  refine ix_aload_n (i := 0) (j := 0) X (ix_tb_at tb_X12_ended 0 rfl) rfl rfl (pc1 := 1) rfl ?_
  obtain ⟨k_1, h⟩ := ix_ck_some h
  obtain ⟨b_2, q_3, h⟩ := ix_bd1_ex h
  refine iz_getR X fl_RX12_131 k_1 q_3 (ix_tb_at tb_X12_ended 1 rfl) (pc1 := 4) rfl ?_
  refine ix_iconst (v := 0) X (ix_tb_at tb_X12_ended 2 rfl) (by decide) (pc1 := 5) rfl ?_
  refine ix_iload_n (i := 1) (j := 1) X (ix_tb_at tb_X12_ended 3 rfl) rfl rfl (pc1 := 6) rfl ?_
  obtain ⟨k_4, h⟩ := ix_ck_some h
  obtain ⟨d_5, e_6, h⟩ := ix_lt_ex h
  refine iz_iast X k_4 (ix_tb_at tb_X12_ended 4 rfl) e_6 (pc1 := 7) rfl ?_
  refine ix_aload_n (i := 0) (j := 0) X (ix_tb_at tb_X12_ended 5 rfl) rfl rfl (pc1 := 8) rfl ?_
  refine ix_iload_n (i := 1) (j := 1) X (ix_tb_at tb_X12_ended 6 rfl) rfl rfl (pc1 := 9) rfl ?_
  refine ix_sipush (v := (-1004)) X (ix_tb_at tb_X12_ended 7 rfl) (by decide) (pc1 := 12) rfl ?_
  refine ix_icmp_ne (tgt := 19) X (ix_tb_at tb_X12_ended 8 rfl) (by decide) (pc1 := 15) rfl (fun q_7 => ?_) (fun q_7 => ?_)
  · have h := ix_iff q_7 h
    refine ix_iconst (v := 0) X (ix_tb_at tb_X12_ended 11 rfl) (by decide) (pc1 := 20) rfl ?_
    refine ix_sub (L1 := [(0, .ref (K.2.2.1 + a0)), (1, .int x1)]) [0, 1] rfl ?_
    exact t_X12_ended_20 hKp X hr hlk  h
  · have h := ix_ift q_7 h
    refine ix_iconst (v := 1) X (ix_tb_at tb_X12_ended 9 rfl) (by decide) (pc1 := 16) rfl ?_
    refine ix_goto (tgt := 20) X (ix_tb_at tb_X12_ended 10 rfl) (by decide) ?_
    refine ix_sub (L1 := [(0, .ref (K.2.2.1 + a0)), (1, .int x1)]) [0, 1] rfl ?_
    exact t_X12_ended_20 hKp X hr hlk  h
def tab_X12_areSteps : List (Nat × Instr × Nat) := [(0, .iload_n 0, 1), (1, .iconst 1, 1), (2, .sipush 5000, 3), (5, .invokestatic 238, 3), (8, .ireturn, 1)]
theorem tb_X12_areSteps : ix_tab cX12_areSteps tab_X12_areSteps := by
  unfold ix_tab
  decide +kernel
noncomputable def f_X12_areSteps (n : Nat) (z : ix_Z) (x0 : Int32) (d : ix_D2) : Option (Int32 × ix_D2) :=
  ix_bd2 (f_X12_in n z x0 1 5000 d) (fun r_3 d_1 => ix_ck (r_3 = 0 ∨ r_3 = 1) (some (r_3, d_1)))
set_option maxRecDepth 20000 in
theorem c_X12_areSteps {l : Launch} {K : ix_Cx} (hKp : ix_Kp K) {n : Nat} {z : ix_Z} {x0 : Int32} {d : ix_D2} {r : Int32} {d1 : ix_D2} (h : f_X12_areSteps n z x0 d = some (r, d1)) : ix_M l K yX12_areSteps cX12_areSteps 1 (some .boolean) 1 22 0 0 [.int x0] (ix_w z d) (some (.int r)) (ix_w z d1) := by
  refine ix_met mf_X12_areSteps hKp (Nat.le_of_ble_eq_true rfl) ?_
  intro p e s m args below meth c hr hlk hnm X
  have X : ix_X p s m args c K cX12_areSteps RX12 1 := X
  show ix_G p l e (ix_rm 1 22 0 0) s m args below meth c (MQ below (ix_Post K (some (.int r)) (ix_w z d1)) args s 0 0 (ix_A K)) K 1 0 0 0 [(0, .int x0)] [] (ix_w z d)
  unfold f_X12_areSteps at h
  refine ix_iload_n (i := 0) (j := 0) X (ix_tb_at tb_X12_areSteps 0 rfl) rfl rfl (pc1 := 1) rfl ?_
  refine ix_iconst (v := 1) X (ix_tb_at tb_X12_areSteps 1 rfl) (by decide) (pc1 := 2) rfl ?_
  refine ix_sipush (v := 5000) X (ix_tb_at tb_X12_areSteps 2 rfl) (by decide) (pc1 := 5) rfl ?_
  obtain ⟨r_3, d_1, h_2, h⟩ := ix_bd2_ex h
  refine ix_callS (As := [.int x0, .int 1, .int 5000]) (rest := []) X mf_X12_in st_X12_in ml_RX12_238 ⟨Nat.le_of_ble_eq_true rfl, Nat.le_of_ble_eq_true rfl⟩ ⟨Nat.le_of_ble_eq_true rfl, Nat.le_of_ble_eq_true rfl⟩ rfl (Nat.le_of_ble_eq_true rfl) (ix_tb_at tb_X12_areSteps 3 rfl) (c_X12_in hKp h_2) rfl (pc1 := 8) rfl ?_
  obtain ⟨k_4, h⟩ := ix_ck_some h
  exact ix_zret X hr hlk k_4 (ix_r2 (f := fun r => some (.int r)) (g := ix_w z) h) (ix_tb_at tb_X12_areSteps 4 rfl)
def tab_X12_solve : List (Nat × Instr × Nat) := [(0, .iload_n 1, 1), (1, .invokestatic 578, 3), (4, .ifCond .ne 11, 3), (7, .aload_n 0, 1), (8, .sipush (-1001), 3), (11, .invokevirtual 242, 3), (14, .ireturn, 1), (15, .aload_n 0, 1), (16, .iconst 0, 1), (17, .invokevirtual 581, 3), (20, .aload_n 0, 1), (21, .iconst 0, 1), (22, .invokevirtual 584, 3), (25, .aload_n 0, 1), (26, .iconst 0, 1), (27, .putfield 470, 3), (30, .aload_n 0, 1), (31, .aload_n 0, 1), (32, .getfield 264, 3), (35, .putfield 400, 3), (38, .aload_n 0, 1), (39, .iconst 0, 1), (40, .putfield 533, 3), (43, .aload_n 0, 1), (44, .iload_n 1, 1), (45, .putfield 490, 3), (48, .aload_n 0, 1), (49, .aload_n 0, 1), (50, .iconst 0, 1), (51, .invokevirtual 587, 3), (54, .invokevirtual 590, 3), (57, .ireturn, 1)]
theorem tb_X12_solve : ix_tab cX12_solve tab_X12_solve := by
  unfold ix_tab
  decide +kernel
noncomputable def f_X12_solve (n : Nat) (z : ix_Z) (a0 : Nat) (x1 : Int32) (d : ix_D2) : Option (Int32 × ix_D2) :=
  ix_bd2 (f_X12_areSteps n z x1 d) (fun r_3 d_1 => ix_if (r_3 = 0) (ix_ck (ix_ok z [11] a0) (ix_bd2 (f_X12_fail n z a0 ((-1001)) d_1) (fun r_27 d_24 => some (r_27, d_24)))) (ix_ck (ix_ok z [11] a0) (ix_bd1 (f_X12_prepare n z a0 0 d_1) (fun d_5 => ix_bd1 (f_X12_askAll n z a0 0 d_5) (fun d_8 => ix_lt (ix_di d_8 a0 58 0) (fun d_10 => ix_lt (ix_di d_10 a0 59 (d_10.1 a0 11)) (fun d_12 => ix_lt (ix_di d_12 a0 91 0) (fun d_14 => ix_lt (ix_di d_14 a0 89 x1) (fun d_16 => ix_bd2 (f_X12_solving n z a0 0 d_16) (fun r_20 d_18 => ix_bd2 (f_X12_ended n z a0 r_20 d_18) (fun r_23 d_21 => some (r_23, d_21))))))))))))
set_option maxRecDepth 20000 in
theorem c_X12_solve {l : Launch} {K : ix_Cx} (hKp : ix_Kp K) {n : Nat} {z : ix_Z} {a0 : Nat} {x1 : Int32} {d : ix_D2} {r : Int32} {d1 : ix_D2} (h : f_X12_solve n z a0 x1 d = some (r, d1)) : ix_M l K yX12_solve cX12_solve 2 (some .int) 7 162 0 0 [.ref (K.2.2.1 + a0), .int x1] (ix_w z d) (some (.int r)) (ix_w z d1) := by
  refine ix_met mf_X12_solve hKp (Nat.le_of_ble_eq_true rfl) ?_
  intro p e s m args below meth c hr hlk hnm X
  have X : ix_X p s m args c K cX12_solve RX12 2 := X
  show ix_G p l e (ix_rm 7 162 0 0) s m args below meth c (MQ below (ix_Post K (some (.int r)) (ix_w z d1)) args s 0 0 (ix_A K)) K 2 0 0 0 [(0, .ref (K.2.2.1 + a0)), (1, .int x1)] [] (ix_w z d)
  unfold f_X12_solve at h
  refine ix_iload_n (i := 1) (j := 1) X (ix_tb_at tb_X12_solve 0 rfl) rfl rfl (pc1 := 1) rfl ?_
  obtain ⟨r_3, d_1, h_2, h⟩ := ix_bd2_ex h
  refine ix_callS (As := [.int x1]) (rest := []) X mf_X12_areSteps st_X12_areSteps ml_RX12_578 ⟨Nat.le_of_ble_eq_true rfl, Nat.le_of_ble_eq_true rfl⟩ ⟨Nat.le_of_ble_eq_true rfl, Nat.le_of_ble_eq_true rfl⟩ rfl (Nat.le_of_ble_eq_true rfl) (ix_tb_at tb_X12_solve 1 rfl) (c_X12_areSteps hKp h_2) rfl (pc1 := 4) rfl ?_
  refine ix_if_ne (tgt := 15) X (ix_tb_at tb_X12_solve 2 rfl) (by decide) (pc1 := 7) rfl (fun q_4 => ?_) (fun q_4 => ?_)
  · have h := ix_iff q_4 h
    refine ix_aload_n (i := 0) (j := 0) X (ix_tb_at tb_X12_solve 7 rfl) rfl rfl (pc1 := 16) rfl ?_
    refine ix_iconst (v := 0) X (ix_tb_at tb_X12_solve 8 rfl) (by decide) (pc1 := 17) rfl ?_
    obtain ⟨k_7, h⟩ := ix_ck_some h
    obtain ⟨d_5, h_6, h⟩ := ix_bd1_ex h
    refine ix_callV (As := [.int 0]) (rest := []) (ci := 11) (T := TX12) (nf := 116) X mf_X12_prepare mi_X12_prepare ms_X12_prepare rfl (Nat.le_of_ble_eq_true rfl) ml_RX12_581 ⟨Nat.le_of_ble_eq_true rfl, Nat.le_of_ble_eq_true rfl⟩ ⟨Nat.le_of_ble_eq_true rfl, Nat.le_of_ble_eq_true rfl⟩ rfl (Nat.le_of_ble_eq_true rfl) (ix_tb_at tb_X12_solve 9 rfl) ⟨k_7.1, List.mem_singleton.mp k_7.2⟩ (c_X12_prepare hKp h_6) rfl (pc1 := 20) rfl ?_
    refine ix_aload_n (i := 0) (j := 0) X (ix_tb_at tb_X12_solve 10 rfl) rfl rfl (pc1 := 21) rfl ?_
    refine ix_iconst (v := 0) X (ix_tb_at tb_X12_solve 11 rfl) (by decide) (pc1 := 22) rfl ?_
    obtain ⟨d_8, h_9, h⟩ := ix_bd1_ex h
    refine ix_callV (As := [.int 0]) (rest := []) (ci := 11) (T := TX12) (nf := 116) X mf_X12_askAll mi_X12_askAll ms_X12_askAll rfl (Nat.le_of_ble_eq_true rfl) ml_RX12_584 ⟨Nat.le_of_ble_eq_true rfl, Nat.le_of_ble_eq_true rfl⟩ ⟨Nat.le_of_ble_eq_true rfl, Nat.le_of_ble_eq_true rfl⟩ rfl (Nat.le_of_ble_eq_true rfl) (ix_tb_at tb_X12_solve 12 rfl) ⟨k_7.1, List.mem_singleton.mp k_7.2⟩ (c_X12_askAll hKp h_9) rfl (pc1 := 25) rfl ?_
    refine ix_aload_n (i := 0) (j := 0) X (ix_tb_at tb_X12_solve 13 rfl) rfl rfl (pc1 := 26) rfl ?_
    refine ix_iconst (v := 0) X (ix_tb_at tb_X12_solve 14 rfl) (by decide) (pc1 := 27) rfl ?_
    obtain ⟨d_10, e_11, h⟩ := ix_lt_ex h
    refine iz_putZ X fp_RX12_470 k_7 (ix_tb_at tb_X12_solve 15 rfl) (by decide) e_11 (pc1 := 30) rfl ?_
    refine ix_aload_n (i := 0) (j := 0) X (ix_tb_at tb_X12_solve 16 rfl) rfl rfl (pc1 := 31) rfl ?_
    refine ix_aload_n (i := 0) (j := 0) X (ix_tb_at tb_X12_solve 17 rfl) rfl rfl (pc1 := 32) rfl ?_
    refine iz_getI X fl_RX12_264 k_7 (ix_tb_at tb_X12_solve 18 rfl) (pc1 := 35) rfl ?_
    obtain ⟨d_12, e_13, h⟩ := ix_lt_ex h
    refine iz_putI X fp_RX12_400 k_7 (ix_tb_at tb_X12_solve 19 rfl) e_13 (pc1 := 38) rfl ?_
    refine ix_aload_n (i := 0) (j := 0) X (ix_tb_at tb_X12_solve 20 rfl) rfl rfl (pc1 := 39) rfl ?_
    refine ix_iconst (v := 0) X (ix_tb_at tb_X12_solve 21 rfl) (by decide) (pc1 := 40) rfl ?_
    obtain ⟨d_14, e_15, h⟩ := ix_lt_ex h
    refine iz_putZ X fp_RX12_533 k_7 (ix_tb_at tb_X12_solve 22 rfl) (by decide) e_15 (pc1 := 43) rfl ?_
    refine ix_aload_n (i := 0) (j := 0) X (ix_tb_at tb_X12_solve 23 rfl) rfl rfl (pc1 := 44) rfl ?_
    refine ix_iload_n (i := 1) (j := 1) X (ix_tb_at tb_X12_solve 24 rfl) rfl rfl (pc1 := 45) rfl ?_
    obtain ⟨d_16, e_17, h⟩ := ix_lt_ex h
    refine iz_putI X fp_RX12_490 k_7 (ix_tb_at tb_X12_solve 25 rfl) e_17 (pc1 := 48) rfl ?_
    refine ix_aload_n (i := 0) (j := 0) X (ix_tb_at tb_X12_solve 26 rfl) rfl rfl (pc1 := 49) rfl ?_
    refine ix_aload_n (i := 0) (j := 0) X (ix_tb_at tb_X12_solve 27 rfl) rfl rfl (pc1 := 50) rfl ?_
    refine ix_iconst (v := 0) X (ix_tb_at tb_X12_solve 28 rfl) (by decide) (pc1 := 51) rfl ?_
    obtain ⟨r_20, d_18, h_19, h⟩ := ix_bd2_ex h
    refine ix_callV (As := [.int 0]) (rest := [.ref (K.2.2.1 + a0)]) (ci := 11) (T := TX12) (nf := 116) X mf_X12_solving mi_X12_solving ms_X12_solving rfl (Nat.le_of_ble_eq_true rfl) ml_RX12_587 ⟨Nat.le_of_ble_eq_true rfl, Nat.le_of_ble_eq_true rfl⟩ ⟨Nat.le_of_ble_eq_true rfl, Nat.le_of_ble_eq_true rfl⟩ rfl (Nat.le_of_ble_eq_true rfl) (ix_tb_at tb_X12_solve 29 rfl) ⟨k_7.1, List.mem_singleton.mp k_7.2⟩ (c_X12_solving hKp h_19) rfl (pc1 := 54) rfl ?_
    obtain ⟨r_23, d_21, h_22, h⟩ := ix_bd2_ex h
    refine ix_callV (As := [.int r_20]) (rest := []) (ci := 11) (T := TX12) (nf := 116) X mf_X12_ended mi_X12_ended ms_X12_ended rfl (Nat.le_of_ble_eq_true rfl) ml_RX12_590 ⟨Nat.le_of_ble_eq_true rfl, Nat.le_of_ble_eq_true rfl⟩ ⟨Nat.le_of_ble_eq_true rfl, Nat.le_of_ble_eq_true rfl⟩ rfl (Nat.le_of_ble_eq_true rfl) (ix_tb_at tb_X12_solve 30 rfl) ⟨k_7.1, List.mem_singleton.mp k_7.2⟩ (c_X12_ended hKp h_22) rfl (pc1 := 57) rfl ?_
    exact ix_iret X hr hlk (ix_r2 (f := fun r => some (.int r)) (g := ix_w z) h) (ix_tb_at tb_X12_solve 31 rfl)
  · have h := ix_ift q_4 h
    refine ix_aload_n (i := 0) (j := 0) X (ix_tb_at tb_X12_solve 3 rfl) rfl rfl (pc1 := 8) rfl ?_
    refine ix_sipush (v := (-1001)) X (ix_tb_at tb_X12_solve 4 rfl) (by decide) (pc1 := 11) rfl ?_
    obtain ⟨k_26, h⟩ := ix_ck_some h
    obtain ⟨r_27, d_24, h_25, h⟩ := ix_bd2_ex h
    refine ix_callV (As := [.int ((-1001))]) (rest := []) (ci := 11) (T := TX12) (nf := 116) X mf_X12_fail mi_X12_fail ms_X12_fail rfl (Nat.le_of_ble_eq_true rfl) ml_RX12_242 ⟨Nat.le_of_ble_eq_true rfl, Nat.le_of_ble_eq_true rfl⟩ ⟨Nat.le_of_ble_eq_true rfl, Nat.le_of_ble_eq_true rfl⟩ rfl (Nat.le_of_ble_eq_true rfl) (ix_tb_at tb_X12_solve 5 rfl) ⟨k_26.1, List.mem_singleton.mp k_26.2⟩ (c_X12_fail hKp h_25) rfl (pc1 := 14) rfl ?_
    exact ix_iret X hr hlk (ix_r2 (f := fun r => some (.int r)) (g := ix_w z) h) (ix_tb_at tb_X12_solve 6 rfl)
def tab_X12_goOn : List (Nat × Instr × Nat) := [(0, .iload_n 1, 1), (1, .invokestatic 578, 3), (4, .ifCond .ne 11, 3), (7, .aload_n 0, 1), (8, .sipush (-1001), 3), (11, .invokevirtual 242, 3), (14, .ireturn, 1), (15, .aload_n 0, 1), (16, .getfield 249, 3), (19, .ifCond .ne 11, 3), (22, .aload_n 0, 1), (23, .sipush (-1002), 3), (26, .invokevirtual 242, 3), (29, .ireturn, 1), (30, .aload_n 0, 1), (31, .iload_n 1, 1), (32, .putfield 490, 3), (35, .aload_n 0, 1), (36, .aload_n 0, 1), (37, .iconst 0, 1), (38, .invokevirtual 587, 3), (41, .invokevirtual 590, 3), (44, .ireturn, 1)]
theorem tb_X12_goOn : ix_tab cX12_goOn tab_X12_goOn := by
  unfold ix_tab
  decide +kernel
noncomputable def f_X12_goOn (n : Nat) (z : ix_Z) (a0 : Nat) (x1 : Int32) (d : ix_D2) : Option (Int32 × ix_D2) :=
  ix_bd2 (f_X12_areSteps n z x1 d) (fun r_3 d_1 => ix_if (r_3 = 0) (ix_ck (ix_ok z [11] a0) (ix_bd2 (f_X12_fail n z a0 ((-1001)) d_1) (fun r_21 d_18 => some (r_21, d_18)))) (ix_ck (ix_ok z [11] a0) (ix_if (d_1.1 a0 57 = 0) (ix_bd2 (f_X12_fail n z a0 ((-1002)) d_1) (fun r_17 d_15 => some (r_17, d_15))) (ix_lt (ix_di d_1 a0 89 x1) (fun d_7 => ix_bd2 (f_X12_solving n z a0 0 d_7) (fun r_11 d_9 => ix_bd2 (f_X12_ended n z a0 r_11 d_9) (fun r_14 d_12 => some (r_14, d_12))))))))
set_option maxRecDepth 20000 in
theorem c_X12_goOn {l : Launch} {K : ix_Cx} (hKp : ix_Kp K) {n : Nat} {z : ix_Z} {a0 : Nat} {x1 : Int32} {d : ix_D2} {r : Int32} {d1 : ix_D2} (h : f_X12_goOn n z a0 x1 d = some (r, d1)) : ix_M l K yX12_goOn cX12_goOn 2 (some .int) 7 162 0 0 [.ref (K.2.2.1 + a0), .int x1] (ix_w z d) (some (.int r)) (ix_w z d1) := by
  refine ix_met mf_X12_goOn hKp (Nat.le_of_ble_eq_true rfl) ?_
  intro p e s m args below meth c hr hlk hnm X
  have X : ix_X p s m args c K cX12_goOn RX12 2 := X
  show ix_G p l e (ix_rm 7 162 0 0) s m args below meth c (MQ below (ix_Post K (some (.int r)) (ix_w z d1)) args s 0 0 (ix_A K)) K 2 0 0 0 [(0, .ref (K.2.2.1 + a0)), (1, .int x1)] [] (ix_w z d)
  unfold f_X12_goOn at h
  refine ix_iload_n (i := 1) (j := 1) X (ix_tb_at tb_X12_goOn 0 rfl) rfl rfl (pc1 := 1) rfl ?_
  obtain ⟨r_3, d_1, h_2, h⟩ := ix_bd2_ex h
  refine ix_callS (As := [.int x1]) (rest := []) X mf_X12_areSteps st_X12_areSteps ml_RX12_578 ⟨Nat.le_of_ble_eq_true rfl, Nat.le_of_ble_eq_true rfl⟩ ⟨Nat.le_of_ble_eq_true rfl, Nat.le_of_ble_eq_true rfl⟩ rfl (Nat.le_of_ble_eq_true rfl) (ix_tb_at tb_X12_goOn 1 rfl) (c_X12_areSteps hKp h_2) rfl (pc1 := 4) rfl ?_
  refine ix_if_ne (tgt := 15) X (ix_tb_at tb_X12_goOn 2 rfl) (by decide) (pc1 := 7) rfl (fun q_4 => ?_) (fun q_4 => ?_)
  · have h := ix_iff q_4 h
    refine ix_aload_n (i := 0) (j := 0) X (ix_tb_at tb_X12_goOn 7 rfl) rfl rfl (pc1 := 16) rfl ?_
    obtain ⟨k_5, h⟩ := ix_ck_some h
    refine iz_getI X fl_RX12_249 k_5 (ix_tb_at tb_X12_goOn 8 rfl) (pc1 := 19) rfl ?_
    refine ix_if_ne (tgt := 30) X (ix_tb_at tb_X12_goOn 9 rfl) (by decide) (pc1 := 22) rfl (fun q_6 => ?_) (fun q_6 => ?_)
    · have h := ix_iff q_6 h
      refine ix_aload_n (i := 0) (j := 0) X (ix_tb_at tb_X12_goOn 14 rfl) rfl rfl (pc1 := 31) rfl ?_
      refine ix_iload_n (i := 1) (j := 1) X (ix_tb_at tb_X12_goOn 15 rfl) rfl rfl (pc1 := 32) rfl ?_
      obtain ⟨d_7, e_8, h⟩ := ix_lt_ex h
      refine iz_putI X fp_RX12_490 k_5 (ix_tb_at tb_X12_goOn 16 rfl) e_8 (pc1 := 35) rfl ?_
      refine ix_aload_n (i := 0) (j := 0) X (ix_tb_at tb_X12_goOn 17 rfl) rfl rfl (pc1 := 36) rfl ?_
      refine ix_aload_n (i := 0) (j := 0) X (ix_tb_at tb_X12_goOn 18 rfl) rfl rfl (pc1 := 37) rfl ?_
      refine ix_iconst (v := 0) X (ix_tb_at tb_X12_goOn 19 rfl) (by decide) (pc1 := 38) rfl ?_
      obtain ⟨r_11, d_9, h_10, h⟩ := ix_bd2_ex h
      refine ix_callV (As := [.int 0]) (rest := [.ref (K.2.2.1 + a0)]) (ci := 11) (T := TX12) (nf := 116) X mf_X12_solving mi_X12_solving ms_X12_solving rfl (Nat.le_of_ble_eq_true rfl) ml_RX12_587 ⟨Nat.le_of_ble_eq_true rfl, Nat.le_of_ble_eq_true rfl⟩ ⟨Nat.le_of_ble_eq_true rfl, Nat.le_of_ble_eq_true rfl⟩ rfl (Nat.le_of_ble_eq_true rfl) (ix_tb_at tb_X12_goOn 20 rfl) ⟨k_5.1, List.mem_singleton.mp k_5.2⟩ (c_X12_solving hKp h_10) rfl (pc1 := 41) rfl ?_
      obtain ⟨r_14, d_12, h_13, h⟩ := ix_bd2_ex h
      refine ix_callV (As := [.int r_11]) (rest := []) (ci := 11) (T := TX12) (nf := 116) X mf_X12_ended mi_X12_ended ms_X12_ended rfl (Nat.le_of_ble_eq_true rfl) ml_RX12_590 ⟨Nat.le_of_ble_eq_true rfl, Nat.le_of_ble_eq_true rfl⟩ ⟨Nat.le_of_ble_eq_true rfl, Nat.le_of_ble_eq_true rfl⟩ rfl (Nat.le_of_ble_eq_true rfl) (ix_tb_at tb_X12_goOn 21 rfl) ⟨k_5.1, List.mem_singleton.mp k_5.2⟩ (c_X12_ended hKp h_13) rfl (pc1 := 44) rfl ?_
      exact ix_iret X hr hlk (ix_r2 (f := fun r => some (.int r)) (g := ix_w z) h) (ix_tb_at tb_X12_goOn 22 rfl)
    · have h := ix_ift q_6 h
      refine ix_aload_n (i := 0) (j := 0) X (ix_tb_at tb_X12_goOn 10 rfl) rfl rfl (pc1 := 23) rfl ?_
      refine ix_sipush (v := (-1002)) X (ix_tb_at tb_X12_goOn 11 rfl) (by decide) (pc1 := 26) rfl ?_
      obtain ⟨r_17, d_15, h_16, h⟩ := ix_bd2_ex h
      refine ix_callV (As := [.int ((-1002))]) (rest := []) (ci := 11) (T := TX12) (nf := 116) X mf_X12_fail mi_X12_fail ms_X12_fail rfl (Nat.le_of_ble_eq_true rfl) ml_RX12_242 ⟨Nat.le_of_ble_eq_true rfl, Nat.le_of_ble_eq_true rfl⟩ ⟨Nat.le_of_ble_eq_true rfl, Nat.le_of_ble_eq_true rfl⟩ rfl (Nat.le_of_ble_eq_true rfl) (ix_tb_at tb_X12_goOn 12 rfl) ⟨k_5.1, List.mem_singleton.mp k_5.2⟩ (c_X12_fail hKp h_16) rfl (pc1 := 29) rfl ?_
      exact ix_iret X hr hlk (ix_r2 (f := fun r => some (.int r)) (g := ix_w z) h) (ix_tb_at tb_X12_goOn 13 rfl)
  · have h := ix_ift q_4 h
    refine ix_aload_n (i := 0) (j := 0) X (ix_tb_at tb_X12_goOn 3 rfl) rfl rfl (pc1 := 8) rfl ?_
    refine ix_sipush (v := (-1001)) X (ix_tb_at tb_X12_goOn 4 rfl) (by decide) (pc1 := 11) rfl ?_
    obtain ⟨k_20, h⟩ := ix_ck_some h
    obtain ⟨r_21, d_18, h_19, h⟩ := ix_bd2_ex h
    refine ix_callV (As := [.int ((-1001))]) (rest := []) (ci := 11) (T := TX12) (nf := 116) X mf_X12_fail mi_X12_fail ms_X12_fail rfl (Nat.le_of_ble_eq_true rfl) ml_RX12_242 ⟨Nat.le_of_ble_eq_true rfl, Nat.le_of_ble_eq_true rfl⟩ ⟨Nat.le_of_ble_eq_true rfl, Nat.le_of_ble_eq_true rfl⟩ rfl (Nat.le_of_ble_eq_true rfl) (ix_tb_at tb_X12_goOn 5 rfl) ⟨k_20.1, List.mem_singleton.mp k_20.2⟩ (c_X12_fail hKp h_19) rfl (pc1 := 14) rfl ?_
    exact ix_iret X hr hlk (ix_r2 (f := fun r => some (.int r)) (g := ix_w z) h) (ix_tb_at tb_X12_goOn 6 rfl)
def tab_X12_truth : List (Nat × Instr × Nat) := [(0, .aload_n 0, 1), (1, .iload_n 1, 1), (2, .invokevirtual 433, 3), (5, .ifCond .ne 11, 3), (8, .aload_n 0, 1), (9, .sipush (-1001), 3), (12, .invokevirtual 242, 3), (15, .ireturn, 1), (16, .aload_n 0, 1), (17, .getfield 131, 3), (20, .iconst 0, 1), (21, .iaload, 1), (22, .iconst 1, 1), (23, .if_icmp .eq 11, 3), (26, .aload_n 0, 1), (27, .sipush (-1002), 3), (30, .invokevirtual 242, 3), (33, .ireturn, 1), (34, .iload_n 1, 1), (35, .aload_n 0, 1), (36, .getfield 116, 3), (39, .iconst 0, 1), (40, .iaload, 1), (41, .if_icmp .gt 12, 3), (44, .aload_n 0, 1), (45, .getfield 113, 3), (48, .iload_n 1, 1), (49, .iaload, 1), (50, .goto 6, 3), (53, .sipush (-1005), 3), (56, .ireturn, 1)]
theorem tb_X12_truth : ix_tab cX12_truth tab_X12_truth := by
  unfold ix_tab
  decide +kernel
noncomputable def f_X12_truth (n : Nat) (z : ix_Z) (a0 : Nat) (x1 : Int32) (d : ix_D2) : Option (Int32 × ix_D2) :=
  ix_ck (ix_ok z [11] a0) (ix_bd2 (f_X12_isName n z a0 x1 d) (fun r_4 d_1 => ix_if (r_4 = 0) (ix_bd2 (f_X12_fail n z a0 ((-1001)) d_1) (fun r_22 d_20 => some (r_22, d_20))) (ix_bd1 (z.1 a0 68) (fun b_6 => ix_ck (ix_ix z 20 b_6 0) (ix_if (d_1.1 b_6 (ix_n 0) = 1) (ix_bd1 (z.1 a0 61) (fun b_10 => ix_ck (ix_ix z 20 b_10 0) (ix_if (d_1.1 b_10 (ix_n 0) < x1) (some ((-1005), d_1)) (ix_bd1 (z.1 a0 60) (fun b_14 => ix_ck (ix_ix z 20 b_14 x1) (some (d_1.1 b_14 (ix_n x1), d_1))))))) (ix_bd2 (f_X12_fail n z a0 ((-1002)) d_1) (fun r_19 d_17 => some (r_19, d_17))))))))
set_option maxRecDepth 20000 in
theorem c_X12_truth {l : Launch} {K : ix_Cx} (hKp : ix_Kp K) {n : Nat} {z : ix_Z} {a0 : Nat} {x1 : Int32} {d : ix_D2} {r : Int32} {d1 : ix_D2} (h : f_X12_truth n z a0 x1 d = some (r, d1)) : ix_M l K yX12_truth cX12_truth 2 (some .int) 2 43 0 0 [.ref (K.2.2.1 + a0), .int x1] (ix_w z d) (some (.int r)) (ix_w z d1) := by
  refine ix_met mf_X12_truth hKp (Nat.le_of_ble_eq_true rfl) ?_
  intro p e s m args below meth c hr hlk hnm X
  have X : ix_X p s m args c K cX12_truth RX12 2 := X
  show ix_G p l e (ix_rm 2 43 0 0) s m args below meth c (MQ below (ix_Post K (some (.int r)) (ix_w z d1)) args s 0 0 (ix_A K)) K 2 0 0 0 [(0, .ref (K.2.2.1 + a0)), (1, .int x1)] [] (ix_w z d)
  unfold f_X12_truth at h
  refine ix_aload_n (i := 0) (j := 0) X (ix_tb_at tb_X12_truth 0 rfl) rfl rfl (pc1 := 1) rfl ?_
  refine ix_iload_n (i := 1) (j := 1) X (ix_tb_at tb_X12_truth 1 rfl) rfl rfl (pc1 := 2) rfl ?_
  obtain ⟨k_3, h⟩ := ix_ck_some h
  obtain ⟨r_4, d_1, h_2, h⟩ := ix_bd2_ex h
  refine ix_callV (As := [.int x1]) (rest := []) (ci := 11) (T := TX12) (nf := 116) X mf_X12_isName mi_X12_isName ms_X12_isName rfl (Nat.le_of_ble_eq_true rfl) ml_RX12_433 ⟨Nat.le_of_ble_eq_true rfl, Nat.le_of_ble_eq_true rfl⟩ ⟨Nat.le_of_ble_eq_true rfl, Nat.le_of_ble_eq_true rfl⟩ rfl (Nat.le_of_ble_eq_true rfl) (ix_tb_at tb_X12_truth 2 rfl) ⟨k_3.1, List.mem_singleton.mp k_3.2⟩ (c_X12_isName hKp h_2) rfl (pc1 := 5) rfl ?_
  refine ix_if_ne (tgt := 16) X (ix_tb_at tb_X12_truth 3 rfl) (by decide) (pc1 := 8) rfl (fun q_5 => ?_) (fun q_5 => ?_)
  · have h := ix_iff q_5 h
    refine ix_aload_n (i := 0) (j := 0) X (ix_tb_at tb_X12_truth 8 rfl) rfl rfl (pc1 := 17) rfl ?_
    obtain ⟨b_6, q_7, h⟩ := ix_bd1_ex h
    refine iz_getR X fl_RX12_131 k_3 q_7 (ix_tb_at tb_X12_truth 9 rfl) (pc1 := 20) rfl ?_
    refine ix_iconst (v := 0) X (ix_tb_at tb_X12_truth 10 rfl) (by decide) (pc1 := 21) rfl ?_
    obtain ⟨k_8, h⟩ := ix_ck_some h
    refine iz_iald X k_8 (ix_tb_at tb_X12_truth 11 rfl) (pc1 := 22) rfl ?_
    refine ix_iconst (v := 1) X (ix_tb_at tb_X12_truth 12 rfl) (by decide) (pc1 := 23) rfl ?_
    refine ix_icmp_eq (tgt := 34) X (ix_tb_at tb_X12_truth 13 rfl) (by decide) (pc1 := 26) rfl (fun q_9 => ?_) (fun q_9 => ?_)
    · have h := ix_ift q_9 h
      refine ix_iload_n (i := 1) (j := 1) X (ix_tb_at tb_X12_truth 18 rfl) rfl rfl (pc1 := 35) rfl ?_
      refine ix_aload_n (i := 0) (j := 0) X (ix_tb_at tb_X12_truth 19 rfl) rfl rfl (pc1 := 36) rfl ?_
      obtain ⟨b_10, q_11, h⟩ := ix_bd1_ex h
      refine iz_getR X fl_RX12_116 k_3 q_11 (ix_tb_at tb_X12_truth 20 rfl) (pc1 := 39) rfl ?_
      refine ix_iconst (v := 0) X (ix_tb_at tb_X12_truth 21 rfl) (by decide) (pc1 := 40) rfl ?_
      obtain ⟨k_12, h⟩ := ix_ck_some h
      refine iz_iald X k_12 (ix_tb_at tb_X12_truth 22 rfl) (pc1 := 41) rfl ?_
      refine ix_icmp_gt (tgt := 53) X (ix_tb_at tb_X12_truth 23 rfl) (by decide) (pc1 := 44) rfl (fun q_13 => ?_) (fun q_13 => ?_)
      · have h := ix_ift q_13 h
        refine ix_sipush (v := (-1005)) X (ix_tb_at tb_X12_truth 29 rfl) (by decide) (pc1 := 56) rfl ?_
        exact ix_iret X hr hlk (ix_r2 (f := fun r => some (.int r)) (g := ix_w z) h) (ix_tb_at tb_X12_truth 30 rfl)
      · have h := ix_iff q_13 h
        refine ix_aload_n (i := 0) (j := 0) X (ix_tb_at tb_X12_truth 24 rfl) rfl rfl (pc1 := 45) rfl ?_
        obtain ⟨b_14, q_15, h⟩ := ix_bd1_ex h
        refine iz_getR X fl_RX12_113 k_3 q_15 (ix_tb_at tb_X12_truth 25 rfl) (pc1 := 48) rfl ?_
        refine ix_iload_n (i := 1) (j := 1) X (ix_tb_at tb_X12_truth 26 rfl) rfl rfl (pc1 := 49) rfl ?_
        obtain ⟨k_16, h⟩ := ix_ck_some h
        refine iz_iald X k_16 (ix_tb_at tb_X12_truth 27 rfl) (pc1 := 50) rfl ?_
        refine ix_goto (tgt := 56) X (ix_tb_at tb_X12_truth 28 rfl) (by decide) ?_
        exact ix_iret X hr hlk (ix_r2 (f := fun r => some (.int r)) (g := ix_w z) h) (ix_tb_at tb_X12_truth 30 rfl)
    · have h := ix_iff q_9 h
      refine ix_aload_n (i := 0) (j := 0) X (ix_tb_at tb_X12_truth 14 rfl) rfl rfl (pc1 := 27) rfl ?_
      refine ix_sipush (v := (-1002)) X (ix_tb_at tb_X12_truth 15 rfl) (by decide) (pc1 := 30) rfl ?_
      obtain ⟨r_19, d_17, h_18, h⟩ := ix_bd2_ex h
      refine ix_callV (As := [.int ((-1002))]) (rest := []) (ci := 11) (T := TX12) (nf := 116) X mf_X12_fail mi_X12_fail ms_X12_fail rfl (Nat.le_of_ble_eq_true rfl) ml_RX12_242 ⟨Nat.le_of_ble_eq_true rfl, Nat.le_of_ble_eq_true rfl⟩ ⟨Nat.le_of_ble_eq_true rfl, Nat.le_of_ble_eq_true rfl⟩ rfl (Nat.le_of_ble_eq_true rfl) (ix_tb_at tb_X12_truth 16 rfl) ⟨k_3.1, List.mem_singleton.mp k_3.2⟩ (c_X12_fail hKp h_18) rfl (pc1 := 33) rfl ?_
      exact ix_iret X hr hlk (ix_r2 (f := fun r => some (.int r)) (g := ix_w z) h) (ix_tb_at tb_X12_truth 17 rfl)
  · have h := ix_ift q_5 h
    refine ix_aload_n (i := 0) (j := 0) X (ix_tb_at tb_X12_truth 4 rfl) rfl rfl (pc1 := 9) rfl ?_
    refine ix_sipush (v := (-1001)) X (ix_tb_at tb_X12_truth 5 rfl) (by decide) (pc1 := 12) rfl ?_
    obtain ⟨r_22, d_20, h_21, h⟩ := ix_bd2_ex h
    refine ix_callV (As := [.int ((-1001))]) (rest := []) (ci := 11) (T := TX12) (nf := 116) X mf_X12_fail mi_X12_fail ms_X12_fail rfl (Nat.le_of_ble_eq_true rfl) ml_RX12_242 ⟨Nat.le_of_ble_eq_true rfl, Nat.le_of_ble_eq_true rfl⟩ ⟨Nat.le_of_ble_eq_true rfl, Nat.le_of_ble_eq_true rfl⟩ rfl (Nat.le_of_ble_eq_true rfl) (ix_tb_at tb_X12_truth 6 rfl) ⟨k_3.1, List.mem_singleton.mp k_3.2⟩ (c_X12_fail hKp h_21) rfl (pc1 := 15) rfl ?_
    exact ix_iret X hr hlk (ix_r2 (f := fun r => some (.int r)) (g := ix_w z) h) (ix_tb_at tb_X12_truth 7 rfl)
def tab_X12_solved : List (Nat × Instr × Nat) := [(0, .iload_n 1, 1), (1, .iconst 0, 1), (2, .bipush 9, 2), (4, .invokestatic 238, 3), (7, .ifCond .ne 11, 3), (10, .aload_n 0, 1), (11, .sipush (-1001), 3), (14, .invokevirtual 242, 3), (17, .ireturn, 1), (18, .iload_n 1, 1), (19, .ifCond .ne 12, 3), (22, .aload_n 0, 1), (23, .getfield 131, 3), (26, .iconst 0, 1), (27, .iaload, 1), (28, .goto 38, 3), (31, .iload_n 1, 1), (32, .bipush 7, 2), (34, .if_icmp .ne 11, 3), (37, .aload_n 0, 1), (38, .iconst 0, 1), (39, .invokevirtual 572, 3), (42, .goto 24, 3), (45, .iload_n 1, 1), (46, .bipush 8, 2), (48, .if_icmp .ne 12, 3), (51, .aload_n 0, 1), (52, .getfield 168, 3), (55, .iconst 0, 1), (56, .iaload, 1), (57, .goto 9, 3), (60, .aload_n 0, 1), (61, .getfield 195, 3), (64, .iload_n 1, 1), (65, .iaload, 1), (66, .ireturn, 1)]
theorem tb_X12_solved : ix_tab cX12_solved tab_X12_solved := by
  unfold ix_tab
  decide +kernel
noncomputable def f_X12_solved (n : Nat) (z : ix_Z) (a0 : Nat) (x1 : Int32) (d : ix_D2) : Option (Int32 × ix_D2) :=
  ix_bd2 (f_X12_in n z x1 0 9 d) (fun r_3 d_1 => ix_if (r_3 = 0) (ix_ck (ix_ok z [11] a0) (ix_bd2 (f_X12_fail n z a0 ((-1001)) d_1) (fun r_27 d_24 => some (r_27, d_24)))) (ix_if (x1 = 0) (ix_ck (ix_ok z [11] a0) (ix_bd1 (z.1 a0 68) (fun b_21 => ix_ck (ix_ix z 20 b_21 0) (some (d_1.1 b_21 (ix_n 0), d_1))))) (ix_if (x1 = 7) (ix_ck (ix_ok z [11] a0) (ix_bd2 (f_X12_thereOf n z a0 0 d_1) (fun r_19 d_16 => some (r_19, d_16)))) (ix_if (x1 = 8) (ix_ck (ix_ok z [11] a0) (ix_bd1 (z.1 a0 80) (fun b_13 => ix_ck (ix_ix z 20 b_13 0) (some (d_1.1 b_13 (ix_n 0), d_1))))) (ix_ck (ix_ok z [11] a0) (ix_bd1 (z.1 a0 90) (fun b_9 => ix_ck (ix_ix z 20 b_9 x1) (some (d_1.1 b_9 (ix_n x1), d_1)))))))))
set_option maxRecDepth 20000 in
theorem c_X12_solved {l : Launch} {K : ix_Cx} (hKp : ix_Kp K) {n : Nat} {z : ix_Z} {a0 : Nat} {x1 : Int32} {d : ix_D2} {r : Int32} {d1 : ix_D2} (h : f_X12_solved n z a0 x1 d = some (r, d1)) : ix_M l K yX12_solved cX12_solved 2 (some .int) 1 23 0 0 [.ref (K.2.2.1 + a0), .int x1] (ix_w z d) (some (.int r)) (ix_w z d1) := by
  refine ix_met mf_X12_solved hKp (Nat.le_of_ble_eq_true rfl) ?_
  intro p e s m args below meth c hr hlk hnm X
  have X : ix_X p s m args c K cX12_solved RX12 2 := X
  show ix_G p l e (ix_rm 1 23 0 0) s m args below meth c (MQ below (ix_Post K (some (.int r)) (ix_w z d1)) args s 0 0 (ix_A K)) K 2 0 0 0 [(0, .ref (K.2.2.1 + a0)), (1, .int x1)] [] (ix_w z d)
  unfold f_X12_solved at h
  refine ix_iload_n (i := 1) (j := 1) X (ix_tb_at tb_X12_solved 0 rfl) rfl rfl (pc1 := 1) rfl ?_
  refine ix_iconst (v := 0) X (ix_tb_at tb_X12_solved 1 rfl) (by decide) (pc1 := 2) rfl ?_
  refine ix_bipush (v := 9) X (ix_tb_at tb_X12_solved 2 rfl) (by decide) (pc1 := 4) rfl ?_
  obtain ⟨r_3, d_1, h_2, h⟩ := ix_bd2_ex h
  refine ix_callS (As := [.int x1, .int 0, .int 9]) (rest := []) X mf_X12_in st_X12_in ml_RX12_238 ⟨Nat.le_of_ble_eq_true rfl, Nat.le_of_ble_eq_true rfl⟩ ⟨Nat.le_of_ble_eq_true rfl, Nat.le_of_ble_eq_true rfl⟩ rfl (Nat.le_of_ble_eq_true rfl) (ix_tb_at tb_X12_solved 3 rfl) (c_X12_in hKp h_2) rfl (pc1 := 7) rfl ?_
  refine ix_if_ne (tgt := 18) X (ix_tb_at tb_X12_solved 4 rfl) (by decide) (pc1 := 10) rfl (fun q_4 => ?_) (fun q_4 => ?_)
  · have h := ix_iff q_4 h
    refine ix_iload_n (i := 1) (j := 1) X (ix_tb_at tb_X12_solved 9 rfl) rfl rfl (pc1 := 19) rfl ?_
    refine ix_if_ne (tgt := 31) X (ix_tb_at tb_X12_solved 10 rfl) (by decide) (pc1 := 22) rfl (fun q_5 => ?_) (fun q_5 => ?_)
    · have h := ix_iff q_5 h
      refine ix_iload_n (i := 1) (j := 1) X (ix_tb_at tb_X12_solved 16 rfl) rfl rfl (pc1 := 32) rfl ?_
      refine ix_bipush (v := 7) X (ix_tb_at tb_X12_solved 17 rfl) (by decide) (pc1 := 34) rfl ?_
      refine ix_icmp_ne (tgt := 45) X (ix_tb_at tb_X12_solved 18 rfl) (by decide) (pc1 := 37) rfl (fun q_6 => ?_) (fun q_6 => ?_)
      · have h := ix_iff q_6 h
        refine ix_iload_n (i := 1) (j := 1) X (ix_tb_at tb_X12_solved 23 rfl) rfl rfl (pc1 := 46) rfl ?_
        refine ix_bipush (v := 8) X (ix_tb_at tb_X12_solved 24 rfl) (by decide) (pc1 := 48) rfl ?_
        refine ix_icmp_ne (tgt := 60) X (ix_tb_at tb_X12_solved 25 rfl) (by decide) (pc1 := 51) rfl (fun q_7 => ?_) (fun q_7 => ?_)
        · have h := ix_iff q_7 h
          refine ix_aload_n (i := 0) (j := 0) X (ix_tb_at tb_X12_solved 31 rfl) rfl rfl (pc1 := 61) rfl ?_
          obtain ⟨k_8, h⟩ := ix_ck_some h
          obtain ⟨b_9, q_10, h⟩ := ix_bd1_ex h
          refine iz_getR X fl_RX12_195 k_8 q_10 (ix_tb_at tb_X12_solved 32 rfl) (pc1 := 64) rfl ?_
          refine ix_iload_n (i := 1) (j := 1) X (ix_tb_at tb_X12_solved 33 rfl) rfl rfl (pc1 := 65) rfl ?_
          obtain ⟨k_11, h⟩ := ix_ck_some h
          refine iz_iald X k_11 (ix_tb_at tb_X12_solved 34 rfl) (pc1 := 66) rfl ?_
          exact ix_iret X hr hlk (ix_r2 (f := fun r => some (.int r)) (g := ix_w z) h) (ix_tb_at tb_X12_solved 35 rfl)
        · have h := ix_ift q_7 h
          refine ix_aload_n (i := 0) (j := 0) X (ix_tb_at tb_X12_solved 26 rfl) rfl rfl (pc1 := 52) rfl ?_
          obtain ⟨k_12, h⟩ := ix_ck_some h
          obtain ⟨b_13, q_14, h⟩ := ix_bd1_ex h
          refine iz_getR X fl_RX12_168 k_12 q_14 (ix_tb_at tb_X12_solved 27 rfl) (pc1 := 55) rfl ?_
          refine ix_iconst (v := 0) X (ix_tb_at tb_X12_solved 28 rfl) (by decide) (pc1 := 56) rfl ?_
          obtain ⟨k_15, h⟩ := ix_ck_some h
          refine iz_iald X k_15 (ix_tb_at tb_X12_solved 29 rfl) (pc1 := 57) rfl ?_
          refine ix_goto (tgt := 66) X (ix_tb_at tb_X12_solved 30 rfl) (by decide) ?_
          exact ix_iret X hr hlk (ix_r2 (f := fun r => some (.int r)) (g := ix_w z) h) (ix_tb_at tb_X12_solved 35 rfl)
      · have h := ix_ift q_6 h
        refine ix_aload_n (i := 0) (j := 0) X (ix_tb_at tb_X12_solved 19 rfl) rfl rfl (pc1 := 38) rfl ?_
        refine ix_iconst (v := 0) X (ix_tb_at tb_X12_solved 20 rfl) (by decide) (pc1 := 39) rfl ?_
        obtain ⟨k_18, h⟩ := ix_ck_some h
        obtain ⟨r_19, d_16, h_17, h⟩ := ix_bd2_ex h
        refine ix_callV (As := [.int 0]) (rest := []) (ci := 11) (T := TX12) (nf := 116) X mf_X12_thereOf mi_X12_thereOf ms_X12_thereOf rfl (Nat.le_of_ble_eq_true rfl) ml_RX12_572 ⟨Nat.le_of_ble_eq_true rfl, Nat.le_of_ble_eq_true rfl⟩ ⟨Nat.le_of_ble_eq_true rfl, Nat.le_of_ble_eq_true rfl⟩ rfl (Nat.le_of_ble_eq_true rfl) (ix_tb_at tb_X12_solved 21 rfl) ⟨k_18.1, List.mem_singleton.mp k_18.2⟩ (c_X12_thereOf hKp h_17) rfl (pc1 := 42) rfl ?_
        refine ix_goto (tgt := 66) X (ix_tb_at tb_X12_solved 22 rfl) (by decide) ?_
        exact ix_iret X hr hlk (ix_r2 (f := fun r => some (.int r)) (g := ix_w z) h) (ix_tb_at tb_X12_solved 35 rfl)
    · have h := ix_ift q_5 h
      refine ix_aload_n (i := 0) (j := 0) X (ix_tb_at tb_X12_solved 11 rfl) rfl rfl (pc1 := 23) rfl ?_
      obtain ⟨k_20, h⟩ := ix_ck_some h
      obtain ⟨b_21, q_22, h⟩ := ix_bd1_ex h
      refine iz_getR X fl_RX12_131 k_20 q_22 (ix_tb_at tb_X12_solved 12 rfl) (pc1 := 26) rfl ?_
      refine ix_iconst (v := 0) X (ix_tb_at tb_X12_solved 13 rfl) (by decide) (pc1 := 27) rfl ?_
      obtain ⟨k_23, h⟩ := ix_ck_some h
      refine iz_iald X k_23 (ix_tb_at tb_X12_solved 14 rfl) (pc1 := 28) rfl ?_
      refine ix_goto (tgt := 66) X (ix_tb_at tb_X12_solved 15 rfl) (by decide) ?_
      exact ix_iret X hr hlk (ix_r2 (f := fun r => some (.int r)) (g := ix_w z) h) (ix_tb_at tb_X12_solved 35 rfl)
  · have h := ix_ift q_4 h
    refine ix_aload_n (i := 0) (j := 0) X (ix_tb_at tb_X12_solved 5 rfl) rfl rfl (pc1 := 11) rfl ?_
    refine ix_sipush (v := (-1001)) X (ix_tb_at tb_X12_solved 6 rfl) (by decide) (pc1 := 14) rfl ?_
    obtain ⟨k_26, h⟩ := ix_ck_some h
    obtain ⟨r_27, d_24, h_25, h⟩ := ix_bd2_ex h
    refine ix_callV (As := [.int ((-1001))]) (rest := []) (ci := 11) (T := TX12) (nf := 116) X mf_X12_fail mi_X12_fail ms_X12_fail rfl (Nat.le_of_ble_eq_true rfl) ml_RX12_242 ⟨Nat.le_of_ble_eq_true rfl, Nat.le_of_ble_eq_true rfl⟩ ⟨Nat.le_of_ble_eq_true rfl, Nat.le_of_ble_eq_true rfl⟩ rfl (Nat.le_of_ble_eq_true rfl) (ix_tb_at tb_X12_solved 7 rfl) ⟨k_26.1, List.mem_singleton.mp k_26.2⟩ (c_X12_fail hKp h_25) rfl (pc1 := 17) rfl ?_
    exact ix_iret X hr hlk (ix_r2 (f := fun r => some (.int r)) (g := ix_w z) h) (ix_tb_at tb_X12_solved 8 rfl)
def tab_X12_quarrel : List (Nat × Instr × Nat) := [(0, .iload_n 1, 1), (1, .iconst 0, 1), (2, .iconst 4, 1), (3, .invokestatic 238, 3), (6, .ifCond .ne 11, 3), (9, .aload_n 0, 1), (10, .sipush (-1001), 3), (13, .invokevirtual 242, 3), (16, .ireturn, 1), (17, .aload_n 0, 1), (18, .getfield 533, 3), (21, .ifCond .eq 12, 3), (24, .aload_n 0, 1), (25, .getfield 198, 3), (28, .iload_n 1, 1), (29, .iaload, 1), (30, .goto 6, 3), (33, .sipush (-1005), 3), (36, .ireturn, 1)]
theorem tb_X12_quarrel : ix_tab cX12_quarrel tab_X12_quarrel := by
  unfold ix_tab
  decide +kernel
noncomputable def f_X12_quarrel (n : Nat) (z : ix_Z) (a0 : Nat) (x1 : Int32) (d : ix_D2) : Option (Int32 × ix_D2) :=
  ix_bd2 (f_X12_in n z x1 0 4 d) (fun r_3 d_1 => ix_if (r_3 = 0) (ix_ck (ix_ok z [11] a0) (ix_bd2 (f_X12_fail n z a0 ((-1001)) d_1) (fun r_13 d_10 => some (r_13, d_10)))) (ix_ck (ix_ok z [11] a0) (ix_if (d_1.1 a0 91 = 0) (some ((-1005), d_1)) (ix_bd1 (z.1 a0 92) (fun b_7 => ix_ck (ix_ix z 20 b_7 x1) (some (d_1.1 b_7 (ix_n x1), d_1)))))))
set_option maxRecDepth 20000 in
theorem c_X12_quarrel {l : Launch} {K : ix_Cx} (hKp : ix_Kp K) {n : Nat} {z : ix_Z} {a0 : Nat} {x1 : Int32} {d : ix_D2} {r : Int32} {d1 : ix_D2} (h : f_X12_quarrel n z a0 x1 d = some (r, d1)) : ix_M l K yX12_quarrel cX12_quarrel 2 (some .int) 1 22 0 0 [.ref (K.2.2.1 + a0), .int x1] (ix_w z d) (some (.int r)) (ix_w z d1) := by
  refine ix_met mf_X12_quarrel hKp (Nat.le_of_ble_eq_true rfl) ?_
  intro p e s m args below meth c hr hlk hnm X
  have X : ix_X p s m args c K cX12_quarrel RX12 2 := X
  show ix_G p l e (ix_rm 1 22 0 0) s m args below meth c (MQ below (ix_Post K (some (.int r)) (ix_w z d1)) args s 0 0 (ix_A K)) K 2 0 0 0 [(0, .ref (K.2.2.1 + a0)), (1, .int x1)] [] (ix_w z d)
  unfold f_X12_quarrel at h
  refine ix_iload_n (i := 1) (j := 1) X (ix_tb_at tb_X12_quarrel 0 rfl) rfl rfl (pc1 := 1) rfl ?_
  refine ix_iconst (v := 0) X (ix_tb_at tb_X12_quarrel 1 rfl) (by decide) (pc1 := 2) rfl ?_
  refine ix_iconst (v := 4) X (ix_tb_at tb_X12_quarrel 2 rfl) (by decide) (pc1 := 3) rfl ?_
  obtain ⟨r_3, d_1, h_2, h⟩ := ix_bd2_ex h
  refine ix_callS (As := [.int x1, .int 0, .int 4]) (rest := []) X mf_X12_in st_X12_in ml_RX12_238 ⟨Nat.le_of_ble_eq_true rfl, Nat.le_of_ble_eq_true rfl⟩ ⟨Nat.le_of_ble_eq_true rfl, Nat.le_of_ble_eq_true rfl⟩ rfl (Nat.le_of_ble_eq_true rfl) (ix_tb_at tb_X12_quarrel 3 rfl) (c_X12_in hKp h_2) rfl (pc1 := 6) rfl ?_
  refine ix_if_ne (tgt := 17) X (ix_tb_at tb_X12_quarrel 4 rfl) (by decide) (pc1 := 9) rfl (fun q_4 => ?_) (fun q_4 => ?_)
  · have h := ix_iff q_4 h
    refine ix_aload_n (i := 0) (j := 0) X (ix_tb_at tb_X12_quarrel 9 rfl) rfl rfl (pc1 := 18) rfl ?_
    obtain ⟨k_5, h⟩ := ix_ck_some h
    refine iz_getI X fl_RX12_533 k_5 (ix_tb_at tb_X12_quarrel 10 rfl) (pc1 := 21) rfl ?_
    refine ix_if_eq (tgt := 33) X (ix_tb_at tb_X12_quarrel 11 rfl) (by decide) (pc1 := 24) rfl (fun q_6 => ?_) (fun q_6 => ?_)
    · have h := ix_ift q_6 h
      refine ix_sipush (v := (-1005)) X (ix_tb_at tb_X12_quarrel 17 rfl) (by decide) (pc1 := 36) rfl ?_
      exact ix_iret X hr hlk (ix_r2 (f := fun r => some (.int r)) (g := ix_w z) h) (ix_tb_at tb_X12_quarrel 18 rfl)
    · have h := ix_iff q_6 h
      refine ix_aload_n (i := 0) (j := 0) X (ix_tb_at tb_X12_quarrel 12 rfl) rfl rfl (pc1 := 25) rfl ?_
      obtain ⟨b_7, q_8, h⟩ := ix_bd1_ex h
      refine iz_getR X fl_RX12_198 k_5 q_8 (ix_tb_at tb_X12_quarrel 13 rfl) (pc1 := 28) rfl ?_
      refine ix_iload_n (i := 1) (j := 1) X (ix_tb_at tb_X12_quarrel 14 rfl) rfl rfl (pc1 := 29) rfl ?_
      obtain ⟨k_9, h⟩ := ix_ck_some h
      refine iz_iald X k_9 (ix_tb_at tb_X12_quarrel 15 rfl) (pc1 := 30) rfl ?_
      refine ix_goto (tgt := 36) X (ix_tb_at tb_X12_quarrel 16 rfl) (by decide) ?_
      exact ix_iret X hr hlk (ix_r2 (f := fun r => some (.int r)) (g := ix_w z) h) (ix_tb_at tb_X12_quarrel 18 rfl)
  · have h := ix_ift q_4 h
    refine ix_aload_n (i := 0) (j := 0) X (ix_tb_at tb_X12_quarrel 5 rfl) rfl rfl (pc1 := 10) rfl ?_
    refine ix_sipush (v := (-1001)) X (ix_tb_at tb_X12_quarrel 6 rfl) (by decide) (pc1 := 13) rfl ?_
    obtain ⟨k_12, h⟩ := ix_ck_some h
    obtain ⟨r_13, d_10, h_11, h⟩ := ix_bd2_ex h
    refine ix_callV (As := [.int ((-1001))]) (rest := []) (ci := 11) (T := TX12) (nf := 116) X mf_X12_fail mi_X12_fail ms_X12_fail rfl (Nat.le_of_ble_eq_true rfl) ml_RX12_242 ⟨Nat.le_of_ble_eq_true rfl, Nat.le_of_ble_eq_true rfl⟩ ⟨Nat.le_of_ble_eq_true rfl, Nat.le_of_ble_eq_true rfl⟩ rfl (Nat.le_of_ble_eq_true rfl) (ix_tb_at tb_X12_quarrel 7 rfl) ⟨k_12.1, List.mem_singleton.mp k_12.2⟩ (c_X12_fail hKp h_11) rfl (pc1 := 16) rfl ?_
    exact ix_iret X hr hlk (ix_r2 (f := fun r => some (.int r)) (g := ix_w z) h) (ix_tb_at tb_X12_quarrel 8 rfl)
def tab_X12_hasCore : List (Nat × Instr × Nat) := [(0, .aload_n 0, 1), (1, .getfield 131, 3), (4, .iconst 0, 1), (5, .iaload, 1), (6, .ifCond .ne 14, 3), (9, .aload_n 0, 1), (10, .getfield 470, 3), (13, .ifCond .ne 7, 3), (16, .iconst 1, 1), (17, .goto 4, 3), (20, .iconst 0, 1), (21, .ireturn, 1)]
theorem tb_X12_hasCore : ix_tab cX12_hasCore tab_X12_hasCore := by
  unfold ix_tab
  decide +kernel
noncomputable def f_X12_hasCore (n : Nat) (z : ix_Z) (a0 : Nat) (d : ix_D2) : Option (Int32 × ix_D2) :=
  ix_ck (ix_ok z [11] a0) (ix_bd1 (z.1 a0 68) (fun b_2 => ix_ck (ix_ix z 20 b_2 0) (ix_if (d.1 b_2 (ix_n 0) = 0) (ix_if (d.1 a0 58 = 0) (some (1, d)) (some (0, d))) (some (0, d)))))
set_option maxRecDepth 20000 in
theorem c_X12_hasCore {l : Launch} {K : ix_Cx} (hKp : ix_Kp K) {n : Nat} {z : ix_Z} {a0 : Nat} {d : ix_D2} {r : Int32} {d1 : ix_D2} (h : f_X12_hasCore n z a0 d = some (r, d1)) : ix_M l K yX12_hasCore cX12_hasCore 1 (some .boolean) 0 0 0 0 [.ref (K.2.2.1 + a0)] (ix_w z d) (some (.int r)) (ix_w z d1) := by
  refine ix_met mf_X12_hasCore hKp (Nat.le_of_ble_eq_true rfl) ?_
  intro p e s m args below meth c hr hlk hnm X
  have X : ix_X p s m args c K cX12_hasCore RX12 1 := X
  show ix_G p l e (ix_rm 0 0 0 0) s m args below meth c (MQ below (ix_Post K (some (.int r)) (ix_w z d1)) args s 0 0 (ix_A K)) K 1 0 0 0 [(0, .ref (K.2.2.1 + a0))] [] (ix_w z d)
  unfold f_X12_hasCore at h
  refine ix_aload_n (i := 0) (j := 0) X (ix_tb_at tb_X12_hasCore 0 rfl) rfl rfl (pc1 := 1) rfl ?_
  obtain ⟨k_1, h⟩ := ix_ck_some h
  obtain ⟨b_2, q_3, h⟩ := ix_bd1_ex h
  refine iz_getR X fl_RX12_131 k_1 q_3 (ix_tb_at tb_X12_hasCore 1 rfl) (pc1 := 4) rfl ?_
  refine ix_iconst (v := 0) X (ix_tb_at tb_X12_hasCore 2 rfl) (by decide) (pc1 := 5) rfl ?_
  obtain ⟨k_4, h⟩ := ix_ck_some h
  refine iz_iald X k_4 (ix_tb_at tb_X12_hasCore 3 rfl) (pc1 := 6) rfl ?_
  refine ix_if_ne (tgt := 20) X (ix_tb_at tb_X12_hasCore 4 rfl) (by decide) (pc1 := 9) rfl (fun q_5 => ?_) (fun q_5 => ?_)
  · have h := ix_iff q_5 h
    refine ix_iconst (v := 0) X (ix_tb_at tb_X12_hasCore 10 rfl) (by decide) (pc1 := 21) rfl ?_
    exact ix_zret X hr hlk (by decide) (ix_r2 (f := fun r => some (.int r)) (g := ix_w z) h) (ix_tb_at tb_X12_hasCore 11 rfl)
  · have h := ix_ift q_5 h
    refine ix_aload_n (i := 0) (j := 0) X (ix_tb_at tb_X12_hasCore 5 rfl) rfl rfl (pc1 := 10) rfl ?_
    refine iz_getI X fl_RX12_470 k_1 (ix_tb_at tb_X12_hasCore 6 rfl) (pc1 := 13) rfl ?_
    refine ix_if_ne (tgt := 20) X (ix_tb_at tb_X12_hasCore 7 rfl) (by decide) (pc1 := 16) rfl (fun q_6 => ?_) (fun q_6 => ?_)
    · have h := ix_iff q_6 h
      refine ix_iconst (v := 0) X (ix_tb_at tb_X12_hasCore 10 rfl) (by decide) (pc1 := 21) rfl ?_
      exact ix_zret X hr hlk (by decide) (ix_r2 (f := fun r => some (.int r)) (g := ix_w z) h) (ix_tb_at tb_X12_hasCore 11 rfl)
    · have h := ix_ift q_6 h
      refine ix_iconst (v := 1) X (ix_tb_at tb_X12_hasCore 8 rfl) (by decide) (pc1 := 17) rfl ?_
      refine ix_goto (tgt := 21) X (ix_tb_at tb_X12_hasCore 9 rfl) (by decide) ?_
      exact ix_zret X hr hlk (by decide) (ix_r2 (f := fun r => some (.int r)) (g := ix_w z) h) (ix_tb_at tb_X12_hasCore 11 rfl)
def tab_X12_core : List (Nat × Instr × Nat) := [(0, .iload_n 1, 1), (1, .iconst 0, 1), (2, .iconst 1, 1), (3, .invokestatic 238, 3), (6, .ifCond .ne 11, 3), (9, .aload_n 0, 1), (10, .sipush (-1001), 3), (13, .invokevirtual 242, 3), (16, .ireturn, 1), (17, .aload_n 0, 1), (18, .invokevirtual 593, 3), (21, .ifCond .ne 11, 3), (24, .aload_n 0, 1), (25, .sipush (-1002), 3), (28, .invokevirtual 242, 3), (31, .ireturn, 1), (32, .iload_n 1, 1), (33, .ifCond .ne 10, 3), (36, .aload_n 0, 1), (37, .getfield 514, 3), (40, .goto 7, 3), (43, .aload_n 0, 1), (44, .getfield 526, 3), (47, .ireturn, 1)]
theorem tb_X12_core : ix_tab cX12_core tab_X12_core := by
  unfold ix_tab
  decide +kernel
noncomputable def f_X12_core (n : Nat) (z : ix_Z) (a0 : Nat) (x1 : Int32) (d : ix_D2) : Option (Int32 × ix_D2) :=
  ix_bd2 (f_X12_in n z x1 0 1 d) (fun r_3 d_1 => ix_if (r_3 = 0) (ix_ck (ix_ok z [11] a0) (ix_bd2 (f_X12_fail n z a0 ((-1001)) d_1) (fun r_17 d_14 => some (r_17, d_14)))) (ix_ck (ix_ok z [11] a0) (ix_bd2 (f_X12_hasCore n z a0 d_1) (fun r_8 d_5 => ix_if (r_8 = 0) (ix_bd2 (f_X12_fail n z a0 ((-1002)) d_5) (fun r_13 d_11 => some (r_13, d_11))) (ix_if (x1 = 0) (some (d_5.1 a0 94, d_5)) (some (d_5.1 a0 96, d_5)))))))
set_option maxRecDepth 20000 in
theorem c_X12_core {l : Launch} {K : ix_Cx} (hKp : ix_Kp K) {n : Nat} {z : ix_Z} {a0 : Nat} {x1 : Int32} {d : ix_D2} {r : Int32} {d1 : ix_D2} (h : f_X12_core n z a0 x1 d = some (r, d1)) : ix_M l K yX12_core cX12_core 2 (some .int) 1 22 0 0 [.ref (K.2.2.1 + a0), .int x1] (ix_w z d) (some (.int r)) (ix_w z d1) := by
  refine ix_met mf_X12_core hKp (Nat.le_of_ble_eq_true rfl) ?_
  intro p e s m args below meth c hr hlk hnm X
  have X : ix_X p s m args c K cX12_core RX12 2 := X
  show ix_G p l e (ix_rm 1 22 0 0) s m args below meth c (MQ below (ix_Post K (some (.int r)) (ix_w z d1)) args s 0 0 (ix_A K)) K 2 0 0 0 [(0, .ref (K.2.2.1 + a0)), (1, .int x1)] [] (ix_w z d)
  unfold f_X12_core at h
  refine ix_iload_n (i := 1) (j := 1) X (ix_tb_at tb_X12_core 0 rfl) rfl rfl (pc1 := 1) rfl ?_
  refine ix_iconst (v := 0) X (ix_tb_at tb_X12_core 1 rfl) (by decide) (pc1 := 2) rfl ?_
  refine ix_iconst (v := 1) X (ix_tb_at tb_X12_core 2 rfl) (by decide) (pc1 := 3) rfl ?_
  obtain ⟨r_3, d_1, h_2, h⟩ := ix_bd2_ex h
  refine ix_callS (As := [.int x1, .int 0, .int 1]) (rest := []) X mf_X12_in st_X12_in ml_RX12_238 ⟨Nat.le_of_ble_eq_true rfl, Nat.le_of_ble_eq_true rfl⟩ ⟨Nat.le_of_ble_eq_true rfl, Nat.le_of_ble_eq_true rfl⟩ rfl (Nat.le_of_ble_eq_true rfl) (ix_tb_at tb_X12_core 3 rfl) (c_X12_in hKp h_2) rfl (pc1 := 6) rfl ?_
  refine ix_if_ne (tgt := 17) X (ix_tb_at tb_X12_core 4 rfl) (by decide) (pc1 := 9) rfl (fun q_4 => ?_) (fun q_4 => ?_)
  · have h := ix_iff q_4 h
    refine ix_aload_n (i := 0) (j := 0) X (ix_tb_at tb_X12_core 9 rfl) rfl rfl (pc1 := 18) rfl ?_
    obtain ⟨k_7, h⟩ := ix_ck_some h
    obtain ⟨r_8, d_5, h_6, h⟩ := ix_bd2_ex h
    refine ix_callV (As := []) (rest := []) (ci := 11) (T := TX12) (nf := 116) X mf_X12_hasCore mi_X12_hasCore ms_X12_hasCore rfl (Nat.le_of_ble_eq_true rfl) ml_RX12_593 ⟨Nat.le_of_ble_eq_true rfl, Nat.le_of_ble_eq_true rfl⟩ ⟨Nat.le_of_ble_eq_true rfl, Nat.le_of_ble_eq_true rfl⟩ rfl (Nat.le_of_ble_eq_true rfl) (ix_tb_at tb_X12_core 10 rfl) ⟨k_7.1, List.mem_singleton.mp k_7.2⟩ (c_X12_hasCore hKp h_6) rfl (pc1 := 21) rfl ?_
    refine ix_if_ne (tgt := 32) X (ix_tb_at tb_X12_core 11 rfl) (by decide) (pc1 := 24) rfl (fun q_9 => ?_) (fun q_9 => ?_)
    · have h := ix_iff q_9 h
      refine ix_iload_n (i := 1) (j := 1) X (ix_tb_at tb_X12_core 16 rfl) rfl rfl (pc1 := 33) rfl ?_
      refine ix_if_ne (tgt := 43) X (ix_tb_at tb_X12_core 17 rfl) (by decide) (pc1 := 36) rfl (fun q_10 => ?_) (fun q_10 => ?_)
      · have h := ix_iff q_10 h
        refine ix_aload_n (i := 0) (j := 0) X (ix_tb_at tb_X12_core 21 rfl) rfl rfl (pc1 := 44) rfl ?_
        refine iz_getI X fl_RX12_526 k_7 (ix_tb_at tb_X12_core 22 rfl) (pc1 := 47) rfl ?_
        exact ix_iret X hr hlk (ix_r2 (f := fun r => some (.int r)) (g := ix_w z) h) (ix_tb_at tb_X12_core 23 rfl)
      · have h := ix_ift q_10 h
        refine ix_aload_n (i := 0) (j := 0) X (ix_tb_at tb_X12_core 18 rfl) rfl rfl (pc1 := 37) rfl ?_
        refine iz_getI X fl_RX12_514 k_7 (ix_tb_at tb_X12_core 19 rfl) (pc1 := 40) rfl ?_
        refine ix_goto (tgt := 47) X (ix_tb_at tb_X12_core 20 rfl) (by decide) ?_
        exact ix_iret X hr hlk (ix_r2 (f := fun r => some (.int r)) (g := ix_w z) h) (ix_tb_at tb_X12_core 23 rfl)
    · have h := ix_ift q_9 h
      refine ix_aload_n (i := 0) (j := 0) X (ix_tb_at tb_X12_core 12 rfl) rfl rfl (pc1 := 25) rfl ?_
      refine ix_sipush (v := (-1002)) X (ix_tb_at tb_X12_core 13 rfl) (by decide) (pc1 := 28) rfl ?_
      obtain ⟨r_13, d_11, h_12, h⟩ := ix_bd2_ex h
      refine ix_callV (As := [.int ((-1002))]) (rest := []) (ci := 11) (T := TX12) (nf := 116) X mf_X12_fail mi_X12_fail ms_X12_fail rfl (Nat.le_of_ble_eq_true rfl) ml_RX12_242 ⟨Nat.le_of_ble_eq_true rfl, Nat.le_of_ble_eq_true rfl⟩ ⟨Nat.le_of_ble_eq_true rfl, Nat.le_of_ble_eq_true rfl⟩ rfl (Nat.le_of_ble_eq_true rfl) (ix_tb_at tb_X12_core 14 rfl) ⟨k_7.1, List.mem_singleton.mp k_7.2⟩ (c_X12_fail hKp h_12) rfl (pc1 := 31) rfl ?_
      exact ix_iret X hr hlk (ix_r2 (f := fun r => some (.int r)) (g := ix_w z) h) (ix_tb_at tb_X12_core 15 rfl)
  · have h := ix_ift q_4 h
    refine ix_aload_n (i := 0) (j := 0) X (ix_tb_at tb_X12_core 5 rfl) rfl rfl (pc1 := 10) rfl ?_
    refine ix_sipush (v := (-1001)) X (ix_tb_at tb_X12_core 6 rfl) (by decide) (pc1 := 13) rfl ?_
    obtain ⟨k_16, h⟩ := ix_ck_some h
    obtain ⟨r_17, d_14, h_15, h⟩ := ix_bd2_ex h
    refine ix_callV (As := [.int ((-1001))]) (rest := []) (ci := 11) (T := TX12) (nf := 116) X mf_X12_fail mi_X12_fail ms_X12_fail rfl (Nat.le_of_ble_eq_true rfl) ml_RX12_242 ⟨Nat.le_of_ble_eq_true rfl, Nat.le_of_ble_eq_true rfl⟩ ⟨Nat.le_of_ble_eq_true rfl, Nat.le_of_ble_eq_true rfl⟩ rfl (Nat.le_of_ble_eq_true rfl) (ix_tb_at tb_X12_core 7 rfl) ⟨k_16.1, List.mem_singleton.mp k_16.2⟩ (c_X12_fail hKp h_15) rfl (pc1 := 16) rfl ?_
    exact ix_iret X hr hlk (ix_r2 (f := fun r => some (.int r)) (g := ix_w z) h) (ix_tb_at tb_X12_core 8 rfl)
def tab_X12_coreAt : List (Nat × Instr × Nat) := [(0, .aload_n 0, 1), (1, .iload_n 1, 1), (2, .invokevirtual 596, 3), (5, .istore_n 3, 1), (6, .iload_n 3, 1), (7, .ifCond .ge 5, 3), (10, .iload_n 3, 1), (11, .ireturn, 1), (12, .iload_n 2, 1), (13, .iconst 0, 1), (14, .iload_n 3, 1), (15, .iconst 1, 1), (16, .isub, 1), (17, .invokestatic 238, 3), (20, .ifCond .ne 9, 3), (23, .sipush (-1005), 3), (26, .goto 22, 3), (29, .iload_n 1, 1), (30, .ifCond .ne 12, 3), (33, .aload_n 0, 1), (34, .getfield 201, 3), (37, .iload_n 2, 1), (38, .iaload, 1), (39, .goto 9, 3), (42, .aload_n 0, 1), (43, .getfield 204, 3), (46, .iload_n 2, 1), (47, .iaload, 1), (48, .ireturn, 1)]
theorem tb_X12_coreAt : ix_tab cX12_coreAt tab_X12_coreAt := by
  unfold ix_tab
  decide +kernel
noncomputable def f_X12_coreAt (n : Nat) (z : ix_Z) (a0 : Nat) (x1 : Int32) (x2 : Int32) (d : ix_D2) : Option (Int32 × ix_D2) :=
  ix_ck (ix_ok z [11] a0) (ix_bd2 (f_X12_core n z a0 x1 d) (fun r_4 d_1 => ix_if (0 ≤ r_4) (ix_bd2 (f_X12_in n z x2 0 (r_4 - 1) d_1) (fun r_8 d_6 => ix_if (r_8 = 0) (some ((-1005), d_6)) (ix_if (x1 = 0) (ix_bd1 (z.1 a0 93) (fun b_14 => ix_ck (ix_ix z 20 b_14 x2) (some (d_6.1 b_14 (ix_n x2), d_6)))) (ix_bd1 (z.1 a0 95) (fun b_11 => ix_ck (ix_ix z 20 b_11 x2) (some (d_6.1 b_11 (ix_n x2), d_6))))))) (some (r_4, d_1))))
set_option maxRecDepth 20000 in
theorem c_X12_coreAt {l : Launch} {K : ix_Cx} (hKp : ix_Kp K) {n : Nat} {z : ix_Z} {a0 : Nat} {x1 : Int32} {x2 : Int32} {d : ix_D2} {r : Int32} {d1 : ix_D2} (h : f_X12_coreAt n z a0 x1 x2 d = some (r, d1)) : ix_M l K yX12_coreAt cX12_coreAt 4 (some .int) 2 43 0 0 [.ref (K.2.2.1 + a0), .int x1, .int x2] (ix_w z d) (some (.int r)) (ix_w z d1) := by
  refine ix_met mf_X12_coreAt hKp (Nat.le_of_ble_eq_true rfl) ?_
  intro p e s m args below meth c hr hlk hnm X
  have X : ix_X p s m args c K cX12_coreAt RX12 4 := X
  show ix_G p l e (ix_rm 2 43 0 0) s m args below meth c (MQ below (ix_Post K (some (.int r)) (ix_w z d1)) args s 0 0 (ix_A K)) K 4 0 0 0 [(0, .ref (K.2.2.1 + a0)), (1, .int x1), (2, .int x2)] [] (ix_w z d)
  unfold f_X12_coreAt at h
  refine ix_aload_n (i := 0) (j := 0) X (ix_tb_at tb_X12_coreAt 0 rfl) rfl rfl (pc1 := 1) rfl ?_
  refine ix_iload_n (i := 1) (j := 1) X (ix_tb_at tb_X12_coreAt 1 rfl) rfl rfl (pc1 := 2) rfl ?_
  obtain ⟨k_3, h⟩ := ix_ck_some h
  obtain ⟨r_4, d_1, h_2, h⟩ := ix_bd2_ex h
  refine ix_callV (As := [.int x1]) (rest := []) (ci := 11) (T := TX12) (nf := 116) X mf_X12_core mi_X12_core ms_X12_core rfl (Nat.le_of_ble_eq_true rfl) ml_RX12_596 ⟨Nat.le_of_ble_eq_true rfl, Nat.le_of_ble_eq_true rfl⟩ ⟨Nat.le_of_ble_eq_true rfl, Nat.le_of_ble_eq_true rfl⟩ rfl (Nat.le_of_ble_eq_true rfl) (ix_tb_at tb_X12_coreAt 2 rfl) ⟨k_3.1, List.mem_singleton.mp k_3.2⟩ (c_X12_core hKp h_2) rfl (pc1 := 5) rfl ?_
  refine ix_istore_n (i := 3) (L1 := [(3, .int r_4), (0, .ref (K.2.2.1 + a0)), (1, .int x1), (2, .int x2)]) X (ix_tb_at tb_X12_coreAt 3 rfl) rfl (Nat.le_of_ble_eq_true rfl) rfl (pc1 := 6) rfl ?_
  refine ix_iload_n (i := 3) (j := 0) X (ix_tb_at tb_X12_coreAt 4 rfl) rfl rfl (pc1 := 7) rfl ?_
  refine ix_if_ge (tgt := 12) X (ix_tb_at tb_X12_coreAt 5 rfl) (by decide) (pc1 := 10) rfl (fun q_5 => ?_) (fun q_5 => ?_)
  · have h := ix_ift q_5 h
    refine ix_iload_n (i := 2) (j := 3) X (ix_tb_at tb_X12_coreAt 8 rfl) rfl rfl (pc1 := 13) rfl ?_
    refine ix_iconst (v := 0) X (ix_tb_at tb_X12_coreAt 9 rfl) (by decide) (pc1 := 14) rfl ?_
    refine ix_iload_n (i := 3) (j := 0) X (ix_tb_at tb_X12_coreAt 10 rfl) rfl rfl (pc1 := 15) rfl ?_
    refine ix_iconst (v := 1) X (ix_tb_at tb_X12_coreAt 11 rfl) (by decide) (pc1 := 16) rfl ?_
    refine ix_isub X (ix_tb_at tb_X12_coreAt 12 rfl) (pc1 := 17) rfl ?_
    obtain ⟨r_8, d_6, h_7, h⟩ := ix_bd2_ex h
    refine ix_callS (As := [.int x2, .int 0, .int (r_4 - 1)]) (rest := []) X mf_X12_in st_X12_in ml_RX12_238 ⟨Nat.le_of_ble_eq_true rfl, Nat.le_of_ble_eq_true rfl⟩ ⟨Nat.le_of_ble_eq_true rfl, Nat.le_of_ble_eq_true rfl⟩ rfl (Nat.le_of_ble_eq_true rfl) (ix_tb_at tb_X12_coreAt 13 rfl) (c_X12_in hKp h_7) rfl (pc1 := 20) rfl ?_
    refine ix_if_ne (tgt := 29) X (ix_tb_at tb_X12_coreAt 14 rfl) (by decide) (pc1 := 23) rfl (fun q_9 => ?_) (fun q_9 => ?_)
    · have h := ix_iff q_9 h
      refine ix_iload_n (i := 1) (j := 2) X (ix_tb_at tb_X12_coreAt 17 rfl) rfl rfl (pc1 := 30) rfl ?_
      refine ix_if_ne (tgt := 42) X (ix_tb_at tb_X12_coreAt 18 rfl) (by decide) (pc1 := 33) rfl (fun q_10 => ?_) (fun q_10 => ?_)
      · have h := ix_iff q_10 h
        refine ix_aload_n (i := 0) (j := 1) X (ix_tb_at tb_X12_coreAt 24 rfl) rfl rfl (pc1 := 43) rfl ?_
        obtain ⟨b_11, q_12, h⟩ := ix_bd1_ex h
        refine iz_getR X fl_RX12_204 k_3 q_12 (ix_tb_at tb_X12_coreAt 25 rfl) (pc1 := 46) rfl ?_
        refine ix_iload_n (i := 2) (j := 3) X (ix_tb_at tb_X12_coreAt 26 rfl) rfl rfl (pc1 := 47) rfl ?_
        obtain ⟨k_13, h⟩ := ix_ck_some h
        refine iz_iald X k_13 (ix_tb_at tb_X12_coreAt 27 rfl) (pc1 := 48) rfl ?_
        exact ix_iret X hr hlk (ix_r2 (f := fun r => some (.int r)) (g := ix_w z) h) (ix_tb_at tb_X12_coreAt 28 rfl)
      · have h := ix_ift q_10 h
        refine ix_aload_n (i := 0) (j := 1) X (ix_tb_at tb_X12_coreAt 19 rfl) rfl rfl (pc1 := 34) rfl ?_
        obtain ⟨b_14, q_15, h⟩ := ix_bd1_ex h
        refine iz_getR X fl_RX12_201 k_3 q_15 (ix_tb_at tb_X12_coreAt 20 rfl) (pc1 := 37) rfl ?_
        refine ix_iload_n (i := 2) (j := 3) X (ix_tb_at tb_X12_coreAt 21 rfl) rfl rfl (pc1 := 38) rfl ?_
        obtain ⟨k_16, h⟩ := ix_ck_some h
        refine iz_iald X k_16 (ix_tb_at tb_X12_coreAt 22 rfl) (pc1 := 39) rfl ?_
        refine ix_goto (tgt := 48) X (ix_tb_at tb_X12_coreAt 23 rfl) (by decide) ?_
        exact ix_iret X hr hlk (ix_r2 (f := fun r => some (.int r)) (g := ix_w z) h) (ix_tb_at tb_X12_coreAt 28 rfl)
    · have h := ix_ift q_9 h
      refine ix_sipush (v := (-1005)) X (ix_tb_at tb_X12_coreAt 15 rfl) (by decide) (pc1 := 26) rfl ?_
      refine ix_goto (tgt := 48) X (ix_tb_at tb_X12_coreAt 16 rfl) (by decide) ?_
      exact ix_iret X hr hlk (ix_r2 (f := fun r => some (.int r)) (g := ix_w z) h) (ix_tb_at tb_X12_coreAt 28 rfl)
  · have h := ix_iff q_5 h
    refine ix_iload_n (i := 3) (j := 0) X (ix_tb_at tb_X12_coreAt 6 rfl) rfl rfl (pc1 := 11) rfl ?_
    exact ix_iret X hr hlk (ix_r2 (f := fun r => some (.int r)) (g := ix_w z) h) (ix_tb_at tb_X12_coreAt 7 rfl)
def tab_X12_tried : List (Nat × Instr × Nat) := [(0, .aload_n 0, 1), (1, .iconst 1, 1), (2, .invokevirtual 581, 3), (5, .iconst 0, 1), (6, .istore 4, 2), (8, .iload 4, 2), (10, .sipush 500, 3), (13, .if_icmp .ge 21, 3), (16, .aload_n 0, 1), (17, .getfield 122, 3), (20, .sipush 500, 3), (23, .iload 4, 2), (25, .iadd, 1), (26, .iconst 0, 1), (27, .bastore, 1), (28, .iinc 4 1, 3), (31, .goto (-23), 3), (34, .iconst 0, 1), (35, .istore 4, 2), (37, .iload 4, 2), (39, .aload_n 0, 1), (40, .getfield 514, 3), (43, .if_icmp .ge 50, 3), (46, .aload_n 0, 1), (47, .getfield 122, 3), (50, .sipush 500, 3), (53, .aload_n 0, 1), (54, .getfield 201, 3), (57, .iload 4, 2), (59, .iaload, 1), (60, .iadd, 1), (61, .iload 4, 2), (63, .iload_n 1, 1), (64, .if_icmp .eq 21, 3), (67, .iload_n 3, 1), (68, .ifCond .lt 13, 3), (71, .iload_n 3, 1), (72, .iload 4, 2), (74, .ishr, 1), (75, .iconst 1, 1), (76, .iand, 1), (77, .iconst 1, 1), (78, .if_icmp .ne 7, 3), (81, .iconst 1, 1), (82, .goto 4, 3), (85, .iconst 0, 1), (86, .bastore, 1), (87, .iinc 4 1, 3), (90, .goto (-53), 3), (93, .iconst 0, 1), (94, .istore 4, 2), (96, .iload 4, 2), (98, .aload_n 0, 1), (99, .getfield 526, 3), (102, .if_icmp .ge 46, 3), (105, .iload 4, 2), (107, .iload_n 2, 1), (108, .if_icmp .eq 34, 3), (111, .aload_n 0, 1), (112, .getfield 125, 3), (115, .bipush 20, 2), (117, .aload_n 0, 1), (118, .getfield 128, 3), (121, .iconst 1, 1), (122, .iaload, 1), (123, .iadd, 1), (124, .aload_n 0, 1), (125, .getfield 204, 3), (128, .iload 4, 2), (130, .iaload, 1), (131, .iastore, 1), (132, .aload_n 0, 1), (133, .getfield 128, 3), (136, .iconst 1, 1), (137, .dup2, 1), (138, .iaload, 1), (139, .iconst 1, 1), (140, .iadd, 1), (141, .iastore, 1), (142, .iinc 4 1, 3), (145, .goto (-49), 3), (148, .aload_n 0, 1), (149, .iconst 1, 1), (150, .invokevirtual 587, 3), (153, .ireturn, 1)]
theorem tb_X12_tried : ix_tab cX12_tried tab_X12_tried := by
  unfold ix_tab
  decide +kernel
noncomputable def f_X12_tried_142 (n : Nat) (z : ix_Z) (rec96 : Int32 → ix_D2 → Option (Int32 × ix_D2)) (a0 : Nat) (x2 : Int32) (x4 : Int32) (d : ix_D2) : Option (Int32 × ix_D2) :=
  ix_lt (x4 + 1) (fun x4_13 => rec96 x4_13 d)
noncomputable def b_X12_tried_96 (n : Nat) (z : ix_Z)  (a0 : Nat) (x2 : Int32) (rec96 : Int32 → ix_D2 → Option (Int32 × ix_D2)) (x4 : Int32) (d : ix_D2) : Option (Int32 × ix_D2) :=
  ix_ck (ix_ok z [11] a0) (ix_if (d.1 a0 96 ≤ x4) (ix_bd2 (f_X12_solving n z a0 1 d) (fun r_11 d_9 => some (r_11, d_9))) (ix_if (x4 = x2) (f_X12_tried_142 n z rec96 a0 x2 x4 d) (ix_bd1 (z.1 a0 64) (fun b_15 => ix_bd1 (z.1 a0 65) (fun b_17 => ix_ck (ix_ix z 20 b_17 1) (ix_bd1 (z.1 a0 95) (fun b_20 => ix_ck (ix_ix z 20 b_20 x4) (ix_ck (ix_ix z 20 b_15 (20 + (d.1 b_17 (ix_n 1)))) (ix_lt (ix_di d b_15 (ix_n (20 + (d.1 b_17 (ix_n 1)))) (d.1 b_20 (ix_n x4))) (fun d_24 => ix_lt (ix_di d_24 b_17 (ix_n 1) ((d_24.1 b_17 (ix_n 1)) + 1)) (fun d_26 => f_X12_tried_142 n z rec96 a0 x2 x4 d_26)))))))))))
noncomputable def f_X12_tried_96 (n : Nat) (z : ix_Z)  (a0 : Nat) (x2 : Int32) (x4 : Int32) (d : ix_D2) : Option (Int32 × ix_D2) := ix_fix (b_X12_tried_96 n z  a0 x2) (fun _ _ => none) n x4 d
noncomputable def f_X12_tried_86 (n : Nat) (z : ix_Z) (rec37 : Int32 → ix_D2 → Option (Int32 × ix_D2)) (a0 : Nat) (x1 : Int32) (x2 : Int32) (x3 : Int32) (x4 : Int32) (s0 : Int32) (s1 : Int32) (s2 : Nat) (d : ix_D2) : Option (Int32 × ix_D2) :=
  ix_ck (ix_ix z 22 s2 s1) (ix_lt (ix_di d s2 (ix_n s1) (vp_nar .boolean s0)) (fun d_35 => ix_lt (x4 + 1) (fun x4_37 => rec37 x4_37 d_35)))
noncomputable def f_X12_tried_85 (n : Nat) (z : ix_Z) (rec37 : Int32 → ix_D2 → Option (Int32 × ix_D2)) (a0 : Nat) (x1 : Int32) (x2 : Int32) (x3 : Int32) (x4 : Int32) (s0 : Int32) (s1 : Nat) (d : ix_D2) : Option (Int32 × ix_D2) :=
  f_X12_tried_86 n z rec37 a0 x1 x2 x3 x4 0 s0 s1 d
noncomputable def f_X12_tried_81 (n : Nat) (z : ix_Z) (rec37 : Int32 → ix_D2 → Option (Int32 × ix_D2)) (a0 : Nat) (x1 : Int32) (x2 : Int32) (x3 : Int32) (x4 : Int32) (s0 : Int32) (s1 : Nat) (d : ix_D2) : Option (Int32 × ix_D2) :=
  f_X12_tried_86 n z rec37 a0 x1 x2 x3 x4 1 s0 s1 d
noncomputable def b_X12_tried_37 (n : Nat) (z : ix_Z)  (a0 : Nat) (x1 : Int32) (x2 : Int32) (x3 : Int32) (rec37 : Int32 → ix_D2 → Option (Int32 × ix_D2)) (x4 : Int32) (d : ix_D2) : Option (Int32 × ix_D2) :=
  ix_ck (ix_ok z [11] a0) (ix_if (d.1 a0 94 ≤ x4) (f_X12_tried_96 n z  a0 x2 0 d) (ix_bd1 (z.1 a0 63) (fun b_28 => ix_bd1 (z.1 a0 93) (fun b_30 => ix_ck (ix_ix z 20 b_30 x4) (ix_if (x4 = x1) (f_X12_tried_85 n z rec37 a0 x1 x2 x3 x4 (500 + (d.1 b_30 (ix_n x4))) b_28 d) (ix_if (x3 < 0) (f_X12_tried_81 n z rec37 a0 x1 x2 x3 x4 (500 + (d.1 b_30 (ix_n x4))) b_28 d) (ix_if ((x3 >>> (x4 &&& 31)) &&& 1 = 1) (f_X12_tried_81 n z rec37 a0 x1 x2 x3 x4 (500 + (d.1 b_30 (ix_n x4))) b_28 d) (f_X12_tried_85 n z rec37 a0 x1 x2 x3 x4 (500 + (d.1 b_30 (ix_n x4))) b_28 d))))))))
noncomputable def f_X12_tried_37 (n : Nat) (z : ix_Z)  (a0 : Nat) (x1 : Int32) (x2 : Int32) (x3 : Int32) (x4 : Int32) (d : ix_D2) : Option (Int32 × ix_D2) := ix_fix (b_X12_tried_37 n z  a0 x1 x2 x3) (fun _ _ => none) n x4 d
noncomputable def b_X12_tried_8 (n : Nat) (z : ix_Z)  (a0 : Nat) (x1 : Int32) (x2 : Int32) (x3 : Int32) (rec8 : Int32 → ix_D2 → Option (Int32 × ix_D2)) (x4 : Int32) (d : ix_D2) : Option (Int32 × ix_D2) :=
  ix_if (500 ≤ x4) (f_X12_tried_37 n z  a0 x1 x2 x3 0 d) (ix_ck (ix_ok z [11] a0) (ix_bd1 (z.1 a0 63) (fun b_42 => ix_ck (ix_ix z 22 b_42 (500 + x4)) (ix_lt (ix_di d b_42 (ix_n (500 + x4)) (vp_nar .boolean 0)) (fun d_45 => ix_lt (x4 + 1) (fun x4_47 => rec8 x4_47 d_45))))))
noncomputable def f_X12_tried_8 (n : Nat) (z : ix_Z)  (a0 : Nat) (x1 : Int32) (x2 : Int32) (x3 : Int32) (x4 : Int32) (d : ix_D2) : Option (Int32 × ix_D2) := ix_fix (b_X12_tried_8 n z  a0 x1 x2 x3) (fun _ _ => none) n x4 d
noncomputable def f_X12_tried (n : Nat) (z : ix_Z) (a0 : Nat) (x1 : Int32) (x2 : Int32) (x3 : Int32) (d : ix_D2) : Option (Int32 × ix_D2) :=
  ix_ck (ix_ok z [11] a0) (ix_bd1 (f_X12_prepare n z a0 1 d) (fun d_1 => f_X12_tried_8 n z  a0 x1 x2 x3 0 d_1))
set_option maxRecDepth 20000 in
theorem t_X12_tried_142 {l : Launch} {p : Program} {e : Env} {s : State} {m : MethodId} {args : Array Value} {below : List Frame} {meth : Method} {c : Code} {K : ix_Cx} (hKp : ix_Kp K) {n : Nat} {z : ix_Z} (X : ix_X p s m args c K cX12_tried RX12 5) (hr : meth.sig.returnType = (some .int)) (hlk : meth.locks = false) {rec96 : Int32 → ix_D2 → Option (Int32 × ix_D2)} {a0 : Nat} {x2 : Int32} {x4 : Int32} {r : Int32} {d1 : ix_D2} (hrec96 : ∀ (x4 : Int32) (d : ix_D2), rec96 x4 d = some (r, d1) → ix_G p l e (ix_rm 7 162 0 0) s m args below meth c (MQ below (ix_Post K (some (.int r)) (ix_w z d1)) args s 0 0 (ix_A K)) K 5 0 0 96 [(0, .ref (K.2.2.1 + a0)), (2, .int x2), (4, .int x4)] [] (ix_w z d)) {d : ix_D2} (h : f_X12_tried_142 n z rec96 a0 x2 x4 d = some (r, d1)) : ix_G p l e (ix_rm 7 162 0 0) s m args below meth c (MQ below (ix_Post K (some (.int r)) (ix_w z d1)) args s 0 0 (ix_A K)) K 5 0 0 142 [(0, .ref (K.2.2.1 + a0)), (2, .int x2), (4, .int x4)] [] (ix_w z d) := by
  unfold f_X12_tried_142 at h
  obtain ⟨x4_13, e_14, h⟩ := ix_lt_ex h
  refine ix_iinc (i := 4) (j := 2) (v := x4_13) (L1 := [(4, .int x4_13), (0, .ref (K.2.2.1 + a0)), (2, .int x2)]) X (ix_tb_at tb_X12_tried 79 rfl) rfl (by rw [oi_1]; exact e_14.symm) (Nat.le_of_ble_eq_true rfl) rfl (pc1 := 145) rfl ?_
  refine ix_goto (tgt := 96) X (ix_tb_at tb_X12_tried 80 rfl) (by decide) ?_
  refine ix_sub (L1 := [(0, .ref (K.2.2.1 + a0)), (2, .int x2), (4, .int x4_13)]) [1, 2, 0] rfl ?_
  exact hrec96 x4_13 d h
set_option maxRecDepth 20000 in
theorem tb_X12_tried_96 {l : Launch} {p : Program} {e : Env} {s : State} {m : MethodId} {args : Array Value} {below : List Frame} {meth : Method} {c : Code} {K : ix_Cx} (hKp : ix_Kp K) {n : Nat} {z : ix_Z} (X : ix_X p s m args c K cX12_tried RX12 5) (hr : meth.sig.returnType = (some .int)) (hlk : meth.locks = false)  {a0 : Nat} {x2 : Int32} {rec96 : Int32 → ix_D2 → Option (Int32 × ix_D2)} {r : Int32} {d1 : ix_D2} (hrec96 : ∀ (x4 : Int32) (d : ix_D2), rec96 x4 d = some (r, d1) → ix_G p l e (ix_rm 7 162 0 0) s m args below meth c (MQ below (ix_Post K (some (.int r)) (ix_w z d1)) args s 0 0 (ix_A K)) K 5 0 0 96 [(0, .ref (K.2.2.1 + a0)), (2, .int x2), (4, .int x4)] [] (ix_w z d)) {x4 : Int32} {d : ix_D2} (h : b_X12_tried_96 n z  a0 x2 rec96 x4 d = some (r, d1)) : ix_G p l e (ix_rm 7 162 0 0) s m args below meth c (MQ below (ix_Post K (some (.int r)) (ix_w z d1)) args s 0 0 (ix_A K)) K 5 0 0 96 [(0, .ref (K.2.2.1 + a0)), (2, .int x2), (4, .int x4)] [] (ix_w z d) := by
  unfold b_X12_tried_96 at h
  refine ix_iload (i := 4) (j := 2) X (ix_tb_at tb_X12_tried 51 rfl) rfl (pc1 := 98) rfl ?_
  refine ix_aload_n (i := 0) (j := 0) X (ix_tb_at tb_X12_tried 52 rfl) rfl rfl (pc1 := 99) rfl ?_
  obtain ⟨k_7, h⟩ := ix_ck_some h
  refine iz_getI X fl_RX12_526 k_7 (ix_tb_at tb_X12_tried 53 rfl) (pc1 := 102) rfl ?_
  refine ix_icmp_ge (tgt := 148) X (ix_tb_at tb_X12_tried 54 rfl) (by decide) (pc1 := 105) rfl (fun q_8 => ?_) (fun q_8 => ?_)
  · have h := ix_ift q_8 h
    refine ix_aload_n (i := 0) (j := 0) X (ix_tb_at tb_X12_tried 81 rfl) rfl rfl (pc1 := 149) rfl ?_
    refine ix_iconst (v := 1) X (ix_tb_at tb_X12_tried 82 rfl) (by decide) (pc1 := 150) rfl ?_
    obtain ⟨r_11, d_9, h_10, h⟩ := ix_bd2_ex h
    refine ix_callV (As := [.int 1]) (rest := []) (ci := 11) (T := TX12) (nf := 116) X mf_X12_solving mi_X12_solving ms_X12_solving rfl (Nat.le_of_ble_eq_true rfl) ml_RX12_587 ⟨Nat.le_of_ble_eq_true rfl, Nat.le_of_ble_eq_true rfl⟩ ⟨Nat.le_of_ble_eq_true rfl, Nat.le_of_ble_eq_true rfl⟩ rfl (Nat.le_of_ble_eq_true rfl) (ix_tb_at tb_X12_tried 83 rfl) ⟨k_7.1, List.mem_singleton.mp k_7.2⟩ (c_X12_solving hKp h_10) rfl (pc1 := 153) rfl ?_
    exact ix_iret X hr hlk (ix_r2 (f := fun r => some (.int r)) (g := ix_w z) h) (ix_tb_at tb_X12_tried 84 rfl)
  · have h := ix_iff q_8 h
    refine ix_iload (i := 4) (j := 2) X (ix_tb_at tb_X12_tried 55 rfl) rfl (pc1 := 107) rfl ?_
    refine ix_iload_n (i := 2) (j := 1) X (ix_tb_at tb_X12_tried 56 rfl) rfl rfl (pc1 := 108) rfl ?_
    refine ix_icmp_eq (tgt := 142) X (ix_tb_at tb_X12_tried 57 rfl) (by decide) (pc1 := 111) rfl (fun q_12 => ?_) (fun q_12 => ?_)
    · have h := ix_ift q_12 h
      refine ix_sub (L1 := [(0, .ref (K.2.2.1 + a0)), (2, .int x2), (4, .int x4)]) [0, 1, 2] rfl ?_
      exact t_X12_tried_142 hKp X hr hlk hrec96 h
    · have h := ix_iff q_12 h
      refine ix_aload_n (i := 0) (j := 0) X (ix_tb_at tb_X12_tried 58 rfl) rfl rfl (pc1 := 112) rfl ?_
      obtain ⟨b_15, q_16, h⟩ := ix_bd1_ex h
      refine iz_getR X fl_RX12_125 k_7 q_16 (ix_tb_at tb_X12_tried 59 rfl) (pc1 := 115) rfl ?_
      refine ix_bipush (v := 20) X (ix_tb_at tb_X12_tried 60 rfl) (by decide) (pc1 := 117) rfl ?_
      refine ix_aload_n (i := 0) (j := 0) X (ix_tb_at tb_X12_tried 61 rfl) rfl rfl (pc1 := 118) rfl ?_
      obtain ⟨b_17, q_18, h⟩ := ix_bd1_ex h
      refine iz_getR X fl_RX12_128 k_7 q_18 (ix_tb_at tb_X12_tried 62 rfl) (pc1 := 121) rfl ?_
      refine ix_iconst (v := 1) X (ix_tb_at tb_X12_tried 63 rfl) (by decide) (pc1 := 122) rfl ?_
      obtain ⟨k_19, h⟩ := ix_ck_some h
      refine iz_iald X k_19 (ix_tb_at tb_X12_tried 64 rfl) (pc1 := 123) rfl ?_
      refine ix_iadd X (ix_tb_at tb_X12_tried 65 rfl) (pc1 := 124) rfl ?_
      refine ix_aload_n (i := 0) (j := 0) X (ix_tb_at tb_X12_tried 66 rfl) rfl rfl (pc1 := 125) rfl ?_
      obtain ⟨b_20, q_21, h⟩ := ix_bd1_ex h
      refine iz_getR X fl_RX12_204 k_7 q_21 (ix_tb_at tb_X12_tried 67 rfl) (pc1 := 128) rfl ?_
      refine ix_iload (i := 4) (j := 2) X (ix_tb_at tb_X12_tried 68 rfl) rfl (pc1 := 130) rfl ?_
      obtain ⟨k_22, h⟩ := ix_ck_some h
      refine iz_iald X k_22 (ix_tb_at tb_X12_tried 69 rfl) (pc1 := 131) rfl ?_
      obtain ⟨k_23, h⟩ := ix_ck_some h
      obtain ⟨d_24, e_25, h⟩ := ix_lt_ex h
      refine iz_iast X k_23 (ix_tb_at tb_X12_tried 70 rfl) e_25 (pc1 := 132) rfl ?_
      refine ix_aload_n (i := 0) (j := 0) X (ix_tb_at tb_X12_tried 71 rfl) rfl rfl (pc1 := 133) rfl ?_
      refine iz_getR X fl_RX12_128 k_7 q_18 (ix_tb_at tb_X12_tried 72 rfl) (pc1 := 136) rfl ?_
      refine ix_iconst (v := 1) X (ix_tb_at tb_X12_tried 73 rfl) (by decide) (pc1 := 137) rfl ?_
      refine ix_dup2 X (ix_tb_at tb_X12_tried 74 rfl) rfl rfl (pc1 := 138) rfl ?_
      refine iz_iald X k_19 (ix_tb_at tb_X12_tried 75 rfl) (pc1 := 139) rfl ?_
      refine ix_iconst (v := 1) X (ix_tb_at tb_X12_tried 76 rfl) (by decide) (pc1 := 140) rfl ?_
      refine ix_iadd X (ix_tb_at tb_X12_tried 77 rfl) (pc1 := 141) rfl ?_
      obtain ⟨d_26, e_27, h⟩ := ix_lt_ex h
      refine iz_iast X k_19 (ix_tb_at tb_X12_tried 78 rfl) e_27 (pc1 := 142) rfl ?_
      refine ix_sub (L1 := [(0, .ref (K.2.2.1 + a0)), (2, .int x2), (4, .int x4)]) [0, 1, 2] rfl ?_
      exact t_X12_tried_142 hKp X hr hlk hrec96 h
theorem t_X12_tried_96 {l : Launch} {p : Program} {e : Env} {s : State} {m : MethodId} {args : Array Value} {below : List Frame} {meth : Method} {c : Code} {K : ix_Cx} (hKp : ix_Kp K) {n : Nat} {z : ix_Z} (X : ix_X p s m args c K cX12_tried RX12 5) (hr : meth.sig.returnType = (some .int)) (hlk : meth.locks = false)  {a0 : Nat} {x2 : Int32} {r : Int32} {d1 : ix_D2}  {x4 : Int32} {d : ix_D2} (h : f_X12_tried_96 n z  a0 x2 x4 d = some (r, d1)) : ix_G p l e (ix_rm 7 162 0 0) s m args below meth c (MQ below (ix_Post K (some (.int r)) (ix_w z d1)) args s 0 0 (ix_A K)) K 5 0 0 96 [(0, .ref (K.2.2.1 + a0)), (2, .int x2), (4, .int x4)] [] (ix_w z d) := by
  have key : ∀ (f : Nat) (x4 : Int32) (d : ix_D2), ix_fix (b_X12_tried_96 n z  a0 x2) (fun _ _ => none) f x4 d = some (r, d1) → ix_G p l e (ix_rm 7 162 0 0) s m args below meth c (MQ below (ix_Post K (some (.int r)) (ix_w z d1)) args s 0 0 (ix_A K)) K 5 0 0 96 [(0, .ref (K.2.2.1 + a0)), (2, .int x2), (4, .int x4)] [] (ix_w z d) := by
    intro f
    induction f with
    | zero =>
      intro x4 d h
      have h : (none : Option (Int32 × ix_D2)) = some (r, d1) := h
      cases h
    | succ f ih =>
      intro x4 d h
      exact tb_X12_tried_96 hKp X hr hlk (rec96 := ix_fix (b_X12_tried_96 n z  a0 x2) (fun _ _ => none) f)  ih h
  exact key n x4 d h
set_option maxRecDepth 20000 in
theorem t_X12_tried_86 {l : Launch} {p : Program} {e : Env} {s : State} {m : MethodId} {args : Array Value} {below : List Frame} {meth : Method} {c : Code} {K : ix_Cx} (hKp : ix_Kp K) {n : Nat} {z : ix_Z} (X : ix_X p s m args c K cX12_tried RX12 5) (hr : meth.sig.returnType = (some .int)) (hlk : meth.locks = false) {rec37 : Int32 → ix_D2 → Option (Int32 × ix_D2)} {a0 : Nat} {x1 : Int32} {x2 : Int32} {x3 : Int32} {x4 : Int32} {s0 : Int32} {s1 : Int32} {s2 : Nat} {r : Int32} {d1 : ix_D2} (hrec37 : ∀ (x4 : Int32) (d : ix_D2), rec37 x4 d = some (r, d1) → ix_G p l e (ix_rm 7 162 0 0) s m args below meth c (MQ below (ix_Post K (some (.int r)) (ix_w z d1)) args s 0 0 (ix_A K)) K 5 0 0 37 [(0, .ref (K.2.2.1 + a0)), (1, .int x1), (2, .int x2), (3, .int x3), (4, .int x4)] [] (ix_w z d)) {d : ix_D2} (h : f_X12_tried_86 n z rec37 a0 x1 x2 x3 x4 s0 s1 s2 d = some (r, d1)) : ix_G p l e (ix_rm 7 162 0 0) s m args below meth c (MQ below (ix_Post K (some (.int r)) (ix_w z d1)) args s 0 0 (ix_A K)) K 5 0 0 86 [(0, .ref (K.2.2.1 + a0)), (1, .int x1), (2, .int x2), (3, .int x3), (4, .int x4)] [.int s0, .int s1, .ref (K.2.2.1 + s2)] (ix_w z d) := by
  unfold f_X12_tried_86 at h
  obtain ⟨k_34, h⟩ := ix_ck_some h
  obtain ⟨d_35, e_36, h⟩ := ix_lt_ex h
  refine iz_zast X k_34 (ix_tb_at tb_X12_tried 46 rfl) e_36 (pc1 := 87) rfl ?_
  obtain ⟨x4_37, e_38, h⟩ := ix_lt_ex h
  refine ix_iinc (i := 4) (j := 4) (v := x4_37) (L1 := [(4, .int x4_37), (0, .ref (K.2.2.1 + a0)), (1, .int x1), (2, .int x2), (3, .int x3)]) X (ix_tb_at tb_X12_tried 47 rfl) rfl (by rw [oi_1]; exact e_38.symm) (Nat.le_of_ble_eq_true rfl) rfl (pc1 := 90) rfl ?_
  refine ix_goto (tgt := 37) X (ix_tb_at tb_X12_tried 48 rfl) (by decide) ?_
  refine ix_sub (L1 := [(0, .ref (K.2.2.1 + a0)), (1, .int x1), (2, .int x2), (3, .int x3), (4, .int x4_37)]) [1, 2, 3, 4, 0] rfl ?_
  exact hrec37 x4_37 d_35 h
set_option maxRecDepth 20000 in
theorem t_X12_tried_85 {l : Launch} {p : Program} {e : Env} {s : State} {m : MethodId} {args : Array Value} {below : List Frame} {meth : Method} {c : Code} {K : ix_Cx} (hKp : ix_Kp K) {n : Nat} {z : ix_Z} (X : ix_X p s m args c K cX12_tried RX12 5) (hr : meth.sig.returnType = (some .int)) (hlk : meth.locks = false) {rec37 : Int32 → ix_D2 → Option (Int32 × ix_D2)} {a0 : Nat} {x1 : Int32} {x2 : Int32} {x3 : Int32} {x4 : Int32} {s0 : Int32} {s1 : Nat} {r : Int32} {d1 : ix_D2} (hrec37 : ∀ (x4 : Int32) (d : ix_D2), rec37 x4 d = some (r, d1) → ix_G p l e (ix_rm 7 162 0 0) s m args below meth c (MQ below (ix_Post K (some (.int r)) (ix_w z d1)) args s 0 0 (ix_A K)) K 5 0 0 37 [(0, .ref (K.2.2.1 + a0)), (1, .int x1), (2, .int x2), (3, .int x3), (4, .int x4)] [] (ix_w z d)) {d : ix_D2} (h : f_X12_tried_85 n z rec37 a0 x1 x2 x3 x4 s0 s1 d = some (r, d1)) : ix_G p l e (ix_rm 7 162 0 0) s m args below meth c (MQ below (ix_Post K (some (.int r)) (ix_w z d1)) args s 0 0 (ix_A K)) K 5 0 0 85 [(0, .ref (K.2.2.1 + a0)), (1, .int x1), (2, .int x2), (3, .int x3), (4, .int x4)] [.int s0, .ref (K.2.2.1 + s1)] (ix_w z d) := by
  unfold f_X12_tried_85 at h
  refine ix_iconst (v := 0) X (ix_tb_at tb_X12_tried 45 rfl) (by decide) (pc1 := 86) rfl ?_
  refine ix_sub (L1 := [(0, .ref (K.2.2.1 + a0)), (1, .int x1), (2, .int x2), (3, .int x3), (4, .int x4)]) [0, 1, 2, 3, 4] rfl ?_
  exact t_X12_tried_86 hKp X hr hlk hrec37 h
set_option maxRecDepth 20000 in
theorem t_X12_tried_81 {l : Launch} {p : Program} {e : Env} {s : State} {m : MethodId} {args : Array Value} {below : List Frame} {meth : Method} {c : Code} {K : ix_Cx} (hKp : ix_Kp K) {n : Nat} {z : ix_Z} (X : ix_X p s m args c K cX12_tried RX12 5) (hr : meth.sig.returnType = (some .int)) (hlk : meth.locks = false) {rec37 : Int32 → ix_D2 → Option (Int32 × ix_D2)} {a0 : Nat} {x1 : Int32} {x2 : Int32} {x3 : Int32} {x4 : Int32} {s0 : Int32} {s1 : Nat} {r : Int32} {d1 : ix_D2} (hrec37 : ∀ (x4 : Int32) (d : ix_D2), rec37 x4 d = some (r, d1) → ix_G p l e (ix_rm 7 162 0 0) s m args below meth c (MQ below (ix_Post K (some (.int r)) (ix_w z d1)) args s 0 0 (ix_A K)) K 5 0 0 37 [(0, .ref (K.2.2.1 + a0)), (1, .int x1), (2, .int x2), (3, .int x3), (4, .int x4)] [] (ix_w z d)) {d : ix_D2} (h : f_X12_tried_81 n z rec37 a0 x1 x2 x3 x4 s0 s1 d = some (r, d1)) : ix_G p l e (ix_rm 7 162 0 0) s m args below meth c (MQ below (ix_Post K (some (.int r)) (ix_w z d1)) args s 0 0 (ix_A K)) K 5 0 0 81 [(0, .ref (K.2.2.1 + a0)), (1, .int x1), (2, .int x2), (3, .int x3), (4, .int x4)] [.int s0, .ref (K.2.2.1 + s1)] (ix_w z d) := by
  unfold f_X12_tried_81 at h
  refine ix_iconst (v := 1) X (ix_tb_at tb_X12_tried 43 rfl) (by decide) (pc1 := 82) rfl ?_
  refine ix_goto (tgt := 86) X (ix_tb_at tb_X12_tried 44 rfl) (by decide) ?_
  refine ix_sub (L1 := [(0, .ref (K.2.2.1 + a0)), (1, .int x1), (2, .int x2), (3, .int x3), (4, .int x4)]) [0, 1, 2, 3, 4] rfl ?_
  exact t_X12_tried_86 hKp X hr hlk hrec37 h
set_option maxRecDepth 20000 in
theorem tb_X12_tried_37 {l : Launch} {p : Program} {e : Env} {s : State} {m : MethodId} {args : Array Value} {below : List Frame} {meth : Method} {c : Code} {K : ix_Cx} (hKp : ix_Kp K) {n : Nat} {z : ix_Z} (X : ix_X p s m args c K cX12_tried RX12 5) (hr : meth.sig.returnType = (some .int)) (hlk : meth.locks = false)  {a0 : Nat} {x1 : Int32} {x2 : Int32} {x3 : Int32} {rec37 : Int32 → ix_D2 → Option (Int32 × ix_D2)} {r : Int32} {d1 : ix_D2} (hrec37 : ∀ (x4 : Int32) (d : ix_D2), rec37 x4 d = some (r, d1) → ix_G p l e (ix_rm 7 162 0 0) s m args below meth c (MQ below (ix_Post K (some (.int r)) (ix_w z d1)) args s 0 0 (ix_A K)) K 5 0 0 37 [(0, .ref (K.2.2.1 + a0)), (1, .int x1), (2, .int x2), (3, .int x3), (4, .int x4)] [] (ix_w z d)) {x4 : Int32} {d : ix_D2} (h : b_X12_tried_37 n z  a0 x1 x2 x3 rec37 x4 d = some (r, d1)) : ix_G p l e (ix_rm 7 162 0 0) s m args below meth c (MQ below (ix_Post K (some (.int r)) (ix_w z d1)) args s 0 0 (ix_A K)) K 5 0 0 37 [(0, .ref (K.2.2.1 + a0)), (1, .int x1), (2, .int x2), (3, .int x3), (4, .int x4)] [] (ix_w z d) := by
  unfold b_X12_tried_37 at h
  refine ix_iload (i := 4) (j := 4) X (ix_tb_at tb_X12_tried 19 rfl) rfl (pc1 := 39) rfl ?_
  refine ix_aload_n (i := 0) (j := 0) X (ix_tb_at tb_X12_tried 20 rfl) rfl rfl (pc1 := 40) rfl ?_
  obtain ⟨k_5, h⟩ := ix_ck_some h
  refine iz_getI X fl_RX12_514 k_5 (ix_tb_at tb_X12_tried 21 rfl) (pc1 := 43) rfl ?_
  refine ix_icmp_ge (tgt := 93) X (ix_tb_at tb_X12_tried 22 rfl) (by decide) (pc1 := 46) rfl (fun q_6 => ?_) (fun q_6 => ?_)
  · have h := ix_ift q_6 h
    refine ix_iconst (v := 0) X (ix_tb_at tb_X12_tried 49 rfl) (by decide) (pc1 := 94) rfl ?_
    refine ix_istore (i := 4) (L1 := [(4, .int 0), (0, .ref (K.2.2.1 + a0)), (1, .int x1), (2, .int x2), (3, .int x3)]) X (ix_tb_at tb_X12_tried 50 rfl) (Nat.le_of_ble_eq_true rfl) rfl (pc1 := 96) rfl ?_
    refine ix_sub (L1 := [(0, .ref (K.2.2.1 + a0)), (2, .int x2), (4, .int 0)]) [1, 3, 0] rfl ?_
    exact t_X12_tried_96 hKp X hr hlk  h
  · have h := ix_iff q_6 h
    refine ix_aload_n (i := 0) (j := 0) X (ix_tb_at tb_X12_tried 23 rfl) rfl rfl (pc1 := 47) rfl ?_
    obtain ⟨b_28, q_29, h⟩ := ix_bd1_ex h
    refine iz_getR X fl_RX12_122 k_5 q_29 (ix_tb_at tb_X12_tried 24 rfl) (pc1 := 50) rfl ?_
    refine ix_sipush (v := 500) X (ix_tb_at tb_X12_tried 25 rfl) (by decide) (pc1 := 53) rfl ?_
    refine ix_aload_n (i := 0) (j := 0) X (ix_tb_at tb_X12_tried 26 rfl) rfl rfl (pc1 := 54) rfl ?_
    obtain ⟨b_30, q_31, h⟩ := ix_bd1_ex h
    refine iz_getR X fl_RX12_201 k_5 q_31 (ix_tb_at tb_X12_tried 27 rfl) (pc1 := 57) rfl ?_
    refine ix_iload (i := 4) (j := 4) X (ix_tb_at tb_X12_tried 28 rfl) rfl (pc1 := 59) rfl ?_
    obtain ⟨k_32, h⟩ := ix_ck_some h
    refine iz_iald X k_32 (ix_tb_at tb_X12_tried 29 rfl) (pc1 := 60) rfl ?_
    refine ix_iadd X (ix_tb_at tb_X12_tried 30 rfl) (pc1 := 61) rfl ?_
    refine ix_iload (i := 4) (j := 4) X (ix_tb_at tb_X12_tried 31 rfl) rfl (pc1 := 63) rfl ?_
    refine ix_iload_n (i := 1) (j := 1) X (ix_tb_at tb_X12_tried 32 rfl) rfl rfl (pc1 := 64) rfl ?_
    refine ix_icmp_eq (tgt := 85) X (ix_tb_at tb_X12_tried 33 rfl) (by decide) (pc1 := 67) rfl (fun q_33 => ?_) (fun q_33 => ?_)
    · have h := ix_ift q_33 h
      refine ix_sub (L1 := [(0, .ref (K.2.2.1 + a0)), (1, .int x1), (2, .int x2), (3, .int x3), (4, .int x4)]) [0, 1, 2, 3, 4] rfl ?_
      exact t_X12_tried_85 hKp X hr hlk hrec37 h
    · have h := ix_iff q_33 h
      refine ix_iload_n (i := 3) (j := 3) X (ix_tb_at tb_X12_tried 34 rfl) rfl rfl (pc1 := 68) rfl ?_
      refine ix_if_lt (tgt := 81) X (ix_tb_at tb_X12_tried 35 rfl) (by decide) (pc1 := 71) rfl (fun q_39 => ?_) (fun q_39 => ?_)
      · have h := ix_ift q_39 h
        refine ix_sub (L1 := [(0, .ref (K.2.2.1 + a0)), (1, .int x1), (2, .int x2), (3, .int x3), (4, .int x4)]) [0, 1, 2, 3, 4] rfl ?_
        exact t_X12_tried_81 hKp X hr hlk hrec37 h
      · have h := ix_iff q_39 h
        refine ix_iload_n (i := 3) (j := 3) X (ix_tb_at tb_X12_tried 36 rfl) rfl rfl (pc1 := 72) rfl ?_
        refine ix_iload (i := 4) (j := 4) X (ix_tb_at tb_X12_tried 37 rfl) rfl (pc1 := 74) rfl ?_
        refine ix_ishr X (ix_tb_at tb_X12_tried 38 rfl) (pc1 := 75) rfl ?_
        refine ix_iconst (v := 1) X (ix_tb_at tb_X12_tried 39 rfl) (by decide) (pc1 := 76) rfl ?_
        refine ix_iand X (ix_tb_at tb_X12_tried 40 rfl) (pc1 := 77) rfl ?_
        refine ix_iconst (v := 1) X (ix_tb_at tb_X12_tried 41 rfl) (by decide) (pc1 := 78) rfl ?_
        refine ix_icmp_ne (tgt := 85) X (ix_tb_at tb_X12_tried 42 rfl) (by decide) (pc1 := 81) rfl (fun q_40 => ?_) (fun q_40 => ?_)
        · have h := ix_iff q_40 h
          refine ix_sub (L1 := [(0, .ref (K.2.2.1 + a0)), (1, .int x1), (2, .int x2), (3, .int x3), (4, .int x4)]) [0, 1, 2, 3, 4] rfl ?_
          exact t_X12_tried_85 hKp X hr hlk hrec37 h
        · have h := ix_ift q_40 h
          refine ix_sub (L1 := [(0, .ref (K.2.2.1 + a0)), (1, .int x1), (2, .int x2), (3, .int x3), (4, .int x4)]) [0, 1, 2, 3, 4] rfl ?_
          exact t_X12_tried_81 hKp X hr hlk hrec37 h
theorem t_X12_tried_37 {l : Launch} {p : Program} {e : Env} {s : State} {m : MethodId} {args : Array Value} {below : List Frame} {meth : Method} {c : Code} {K : ix_Cx} (hKp : ix_Kp K) {n : Nat} {z : ix_Z} (X : ix_X p s m args c K cX12_tried RX12 5) (hr : meth.sig.returnType = (some .int)) (hlk : meth.locks = false)  {a0 : Nat} {x1 : Int32} {x2 : Int32} {x3 : Int32} {r : Int32} {d1 : ix_D2}  {x4 : Int32} {d : ix_D2} (h : f_X12_tried_37 n z  a0 x1 x2 x3 x4 d = some (r, d1)) : ix_G p l e (ix_rm 7 162 0 0) s m args below meth c (MQ below (ix_Post K (some (.int r)) (ix_w z d1)) args s 0 0 (ix_A K)) K 5 0 0 37 [(0, .ref (K.2.2.1 + a0)), (1, .int x1), (2, .int x2), (3, .int x3), (4, .int x4)] [] (ix_w z d) := by
  have key : ∀ (f : Nat) (x4 : Int32) (d : ix_D2), ix_fix (b_X12_tried_37 n z  a0 x1 x2 x3) (fun _ _ => none) f x4 d = some (r, d1) → ix_G p l e (ix_rm 7 162 0 0) s m args below meth c (MQ below (ix_Post K (some (.int r)) (ix_w z d1)) args s 0 0 (ix_A K)) K 5 0 0 37 [(0, .ref (K.2.2.1 + a0)), (1, .int x1), (2, .int x2), (3, .int x3), (4, .int x4)] [] (ix_w z d) := by
    intro f
    induction f with
    | zero =>
      intro x4 d h
      have h : (none : Option (Int32 × ix_D2)) = some (r, d1) := h
      cases h
    | succ f ih =>
      intro x4 d h
      exact tb_X12_tried_37 hKp X hr hlk (rec37 := ix_fix (b_X12_tried_37 n z  a0 x1 x2 x3) (fun _ _ => none) f)  ih h
  exact key n x4 d h
set_option maxRecDepth 20000 in
theorem tb_X12_tried_8 {l : Launch} {p : Program} {e : Env} {s : State} {m : MethodId} {args : Array Value} {below : List Frame} {meth : Method} {c : Code} {K : ix_Cx} (hKp : ix_Kp K) {n : Nat} {z : ix_Z} (X : ix_X p s m args c K cX12_tried RX12 5) (hr : meth.sig.returnType = (some .int)) (hlk : meth.locks = false)  {a0 : Nat} {x1 : Int32} {x2 : Int32} {x3 : Int32} {rec8 : Int32 → ix_D2 → Option (Int32 × ix_D2)} {r : Int32} {d1 : ix_D2} (hrec8 : ∀ (x4 : Int32) (d : ix_D2), rec8 x4 d = some (r, d1) → ix_G p l e (ix_rm 7 162 0 0) s m args below meth c (MQ below (ix_Post K (some (.int r)) (ix_w z d1)) args s 0 0 (ix_A K)) K 5 0 0 8 [(0, .ref (K.2.2.1 + a0)), (1, .int x1), (2, .int x2), (3, .int x3), (4, .int x4)] [] (ix_w z d)) {x4 : Int32} {d : ix_D2} (h : b_X12_tried_8 n z  a0 x1 x2 x3 rec8 x4 d = some (r, d1)) : ix_G p l e (ix_rm 7 162 0 0) s m args below meth c (MQ below (ix_Post K (some (.int r)) (ix_w z d1)) args s 0 0 (ix_A K)) K 5 0 0 8 [(0, .ref (K.2.2.1 + a0)), (1, .int x1), (2, .int x2), (3, .int x3), (4, .int x4)] [] (ix_w z d) := by
  unfold b_X12_tried_8 at h
  refine ix_iload (i := 4) (j := 4) X (ix_tb_at tb_X12_tried 5 rfl) rfl (pc1 := 10) rfl ?_
  refine ix_sipush (v := 500) X (ix_tb_at tb_X12_tried 6 rfl) (by decide) (pc1 := 13) rfl ?_
  refine ix_icmp_ge (tgt := 34) X (ix_tb_at tb_X12_tried 7 rfl) (by decide) (pc1 := 16) rfl (fun q_4 => ?_) (fun q_4 => ?_)
  · have h := ix_ift q_4 h
    refine ix_iconst (v := 0) X (ix_tb_at tb_X12_tried 17 rfl) (by decide) (pc1 := 35) rfl ?_
    refine ix_istore (i := 4) (L1 := [(4, .int 0), (0, .ref (K.2.2.1 + a0)), (1, .int x1), (2, .int x2), (3, .int x3)]) X (ix_tb_at tb_X12_tried 18 rfl) (Nat.le_of_ble_eq_true rfl) rfl (pc1 := 37) rfl ?_
    refine ix_sub (L1 := [(0, .ref (K.2.2.1 + a0)), (1, .int x1), (2, .int x2), (3, .int x3), (4, .int 0)]) [1, 2, 3, 4, 0] rfl ?_
    exact t_X12_tried_37 hKp X hr hlk  h
  · have h := ix_iff q_4 h
    refine ix_aload_n (i := 0) (j := 0) X (ix_tb_at tb_X12_tried 8 rfl) rfl rfl (pc1 := 17) rfl ?_
    obtain ⟨k_41, h⟩ := ix_ck_some h
    obtain ⟨b_42, q_43, h⟩ := ix_bd1_ex h
    refine iz_getR X fl_RX12_122 k_41 q_43 (ix_tb_at tb_X12_tried 9 rfl) (pc1 := 20) rfl ?_
    refine ix_sipush (v := 500) X (ix_tb_at tb_X12_tried 10 rfl) (by decide) (pc1 := 23) rfl ?_
    refine ix_iload (i := 4) (j := 4) X (ix_tb_at tb_X12_tried 11 rfl) rfl (pc1 := 25) rfl ?_
    refine ix_iadd X (ix_tb_at tb_X12_tried 12 rfl) (pc1 := 26) rfl ?_
    refine ix_iconst (v := 0) X (ix_tb_at tb_X12_tried 13 rfl) (by decide) (pc1 := 27) rfl ?_
    obtain ⟨k_44, h⟩ := ix_ck_some h
    obtain ⟨d_45, e_46, h⟩ := ix_lt_ex h
    refine iz_zast X k_44 (ix_tb_at tb_X12_tried 14 rfl) e_46 (pc1 := 28) rfl ?_
    obtain ⟨x4_47, e_48, h⟩ := ix_lt_ex h
    refine ix_iinc (i := 4) (j := 4) (v := x4_47) (L1 := [(4, .int x4_47), (0, .ref (K.2.2.1 + a0)), (1, .int x1), (2, .int x2), (3, .int x3)]) X (ix_tb_at tb_X12_tried 15 rfl) rfl (by rw [oi_1]; exact e_48.symm) (Nat.le_of_ble_eq_true rfl) rfl (pc1 := 31) rfl ?_
    refine ix_goto (tgt := 8) X (ix_tb_at tb_X12_tried 16 rfl) (by decide) ?_
    refine ix_sub (L1 := [(0, .ref (K.2.2.1 + a0)), (1, .int x1), (2, .int x2), (3, .int x3), (4, .int x4_47)]) [1, 2, 3, 4, 0] rfl ?_
    exact hrec8 x4_47 d_45 h
theorem t_X12_tried_8 {l : Launch} {p : Program} {e : Env} {s : State} {m : MethodId} {args : Array Value} {below : List Frame} {meth : Method} {c : Code} {K : ix_Cx} (hKp : ix_Kp K) {n : Nat} {z : ix_Z} (X : ix_X p s m args c K cX12_tried RX12 5) (hr : meth.sig.returnType = (some .int)) (hlk : meth.locks = false)  {a0 : Nat} {x1 : Int32} {x2 : Int32} {x3 : Int32} {r : Int32} {d1 : ix_D2}  {x4 : Int32} {d : ix_D2} (h : f_X12_tried_8 n z  a0 x1 x2 x3 x4 d = some (r, d1)) : ix_G p l e (ix_rm 7 162 0 0) s m args below meth c (MQ below (ix_Post K (some (.int r)) (ix_w z d1)) args s 0 0 (ix_A K)) K 5 0 0 8 [(0, .ref (K.2.2.1 + a0)), (1, .int x1), (2, .int x2), (3, .int x3), (4, .int x4)] [] (ix_w z d) := by
  have key : ∀ (f : Nat) (x4 : Int32) (d : ix_D2), ix_fix (b_X12_tried_8 n z  a0 x1 x2 x3) (fun _ _ => none) f x4 d = some (r, d1) → ix_G p l e (ix_rm 7 162 0 0) s m args below meth c (MQ below (ix_Post K (some (.int r)) (ix_w z d1)) args s 0 0 (ix_A K)) K 5 0 0 8 [(0, .ref (K.2.2.1 + a0)), (1, .int x1), (2, .int x2), (3, .int x3), (4, .int x4)] [] (ix_w z d) := by
    intro f
    induction f with
    | zero =>
      intro x4 d h
      have h : (none : Option (Int32 × ix_D2)) = some (r, d1) := h
      cases h
    | succ f ih =>
      intro x4 d h
      exact tb_X12_tried_8 hKp X hr hlk (rec8 := ix_fix (b_X12_tried_8 n z  a0 x1 x2 x3) (fun _ _ => none) f)  ih h
  exact key n x4 d h
set_option maxRecDepth 20000 in
theorem c_X12_tried {l : Launch} {K : ix_Cx} (hKp : ix_Kp K) {n : Nat} {z : ix_Z} {a0 : Nat} {x1 : Int32} {x2 : Int32} {x3 : Int32} {d : ix_D2} {r : Int32} {d1 : ix_D2} (h : f_X12_tried n z a0 x1 x2 x3 d = some (r, d1)) : ix_M l K yX12_tried cX12_tried 5 (some .int) 7 162 0 0 [.ref (K.2.2.1 + a0), .int x1, .int x2, .int x3] (ix_w z d) (some (.int r)) (ix_w z d1) := by
  refine ix_met mf_X12_tried hKp (Nat.le_of_ble_eq_true rfl) ?_
  intro p e s m args below meth c hr hlk hnm X
  have X : ix_X p s m args c K cX12_tried RX12 5 := X
  show ix_G p l e (ix_rm 7 162 0 0) s m args below meth c (MQ below (ix_Post K (some (.int r)) (ix_w z d1)) args s 0 0 (ix_A K)) K 5 0 0 0 [(0, .ref (K.2.2.1 + a0)), (1, .int x1), (2, .int x2), (3, .int x3)] [] (ix_w z d)
  unfold f_X12_tried at h
  refine ix_aload_n (i := 0) (j := 0) X (ix_tb_at tb_X12_tried 0 rfl) rfl rfl (pc1 := 1) rfl ?_
  refine ix_iconst (v := 1) X (ix_tb_at tb_X12_tried 1 rfl) (by decide) (pc1 := 2) rfl ?_
  obtain ⟨k_3, h⟩ := ix_ck_some h
  obtain ⟨d_1, h_2, h⟩ := ix_bd1_ex h
  refine ix_callV (As := [.int 1]) (rest := []) (ci := 11) (T := TX12) (nf := 116) X mf_X12_prepare mi_X12_prepare ms_X12_prepare rfl (Nat.le_of_ble_eq_true rfl) ml_RX12_581 ⟨Nat.le_of_ble_eq_true rfl, Nat.le_of_ble_eq_true rfl⟩ ⟨Nat.le_of_ble_eq_true rfl, Nat.le_of_ble_eq_true rfl⟩ rfl (Nat.le_of_ble_eq_true rfl) (ix_tb_at tb_X12_tried 2 rfl) ⟨k_3.1, List.mem_singleton.mp k_3.2⟩ (c_X12_prepare hKp h_2) rfl (pc1 := 5) rfl ?_
  refine ix_iconst (v := 0) X (ix_tb_at tb_X12_tried 3 rfl) (by decide) (pc1 := 6) rfl ?_
  refine ix_istore (i := 4) (L1 := [(4, .int 0), (0, .ref (K.2.2.1 + a0)), (1, .int x1), (2, .int x2), (3, .int x3)]) X (ix_tb_at tb_X12_tried 4 rfl) (Nat.le_of_ble_eq_true rfl) rfl (pc1 := 8) rfl ?_
  refine ix_sub (L1 := [(0, .ref (K.2.2.1 + a0)), (1, .int x1), (2, .int x2), (3, .int x3), (4, .int 0)]) [1, 2, 3, 4, 0] rfl ?_
  exact t_X12_tried_8 hKp X hr hlk  h
def tab_X12_shrink : List (Nat × Instr × Nat) := [(0, .iload_n 1, 1), (1, .invokestatic 578, 3), (4, .ifCond .ne 11, 3), (7, .aload_n 0, 1), (8, .sipush (-1001), 3), (11, .invokevirtual 242, 3), (14, .ireturn, 1), (15, .aload_n 0, 1), (16, .invokevirtual 593, 3), (19, .ifCond .ne 11, 3), (22, .aload_n 0, 1), (23, .sipush (-1002), 3), (26, .invokevirtual 242, 3), (29, .ireturn, 1), (30, .aload_n 0, 1), (31, .iload_n 1, 1), (32, .putfield 490, 3), (35, .iconst 0, 1), (36, .istore_n 2, 1), (37, .iload_n 2, 1), (38, .aload_n 0, 1), (39, .getfield 514, 3), (42, .if_icmp .ge 78, 3), (45, .aload_n 0, 1), (46, .iload_n 2, 1), (47, .sipush (-1005), 3), (50, .sipush (-1005), 3), (53, .invokevirtual 599, 3), (56, .istore_n 3, 1), (57, .iload_n 3, 1), (58, .ifCond .ge 5, 3), (61, .iload_n 3, 1), (62, .ireturn, 1), (63, .iload_n 3, 1), (64, .ifCond .ne 50, 3), (67, .aload_n 0, 1), (68, .dup, 1), (69, .getfield 514, 3), (72, .iconst 1, 1), (73, .isub, 1), (74, .putfield 514, 3), (77, .iload_n 2, 1), (78, .istore 4, 2), (80, .iload 4, 2), (82, .aload_n 0, 1), (83, .getfield 514, 3), (86, .if_icmp .ge 25, 3), (89, .aload_n 0, 1), (90, .getfield 201, 3), (93, .iload 4, 2), (95, .aload_n 0, 1), (96, .getfield 201, 3), (99, .iload 4, 2), (101, .iconst 1, 1), (102, .iadd, 1), (103, .iaload, 1), (104, .iastore, 1), (105, .iinc 4 1, 3), (108, .goto (-28), 3), (111, .goto 6, 3), (114, .iinc 2 1, 3), (117, .goto (-80), 3), (120, .iconst 0, 1), (121, .istore_n 2, 1), (122, .iload_n 2, 1), (123, .aload_n 0, 1), (124, .getfield 526, 3), (127, .if_icmp .ge 78, 3), (130, .aload_n 0, 1), (131, .sipush (-1005), 3), (134, .iload_n 2, 1), (135, .sipush (-1005), 3), (138, .invokevirtual 599, 3), (141, .istore_n 3, 1), (142, .iload_n 3, 1), (143, .ifCond .ge 5, 3), (146, .iload_n 3, 1), (147, .ireturn, 1), (148, .iload_n 3, 1), (149, .ifCond .ne 50, 3), (152, .aload_n 0, 1), (153, .dup, 1), (154, .getfield 526, 3), (157, .iconst 1, 1), (158, .isub, 1), (159, .putfield 526, 3), (162, .iload_n 2, 1), (163, .istore 4, 2), (165, .iload 4, 2), (167, .aload_n 0, 1), (168, .getfield 526, 3), (171, .if_icmp .ge 25, 3), (174, .aload_n 0, 1), (175, .getfield 204, 3), (178, .iload 4, 2), (180, .aload_n 0, 1), (181, .getfield 204, 3), (184, .iload 4, 2), (186, .iconst 1, 1), (187, .iadd, 1), (188, .iaload, 1), (189, .iastore, 1), (190, .iinc 4 1, 3), (193, .goto (-28), 3), (196, .goto 6, 3), (199, .iinc 2 1, 3), (202, .goto (-80), 3), (205, .aload_n 0, 1), (206, .getfield 514, 3), (209, .aload_n 0, 1), (210, .getfield 526, 3), (213, .iadd, 1), (214, .ireturn, 1)]
theorem tb_X12_shrink : ix_tab cX12_shrink tab_X12_shrink := by
  unfold ix_tab
  decide +kernel
noncomputable def f_X12_shrink_202 (n : Nat) (z : ix_Z) (rec122 : Int32 → ix_D2 → Option (Int32 × ix_D2)) (a0 : Nat) (x2 : Int32) (d : ix_D2) : Option (Int32 × ix_D2) :=
  rec122 x2 d
noncomputable def b_X12_shrink_165 (n : Nat) (z : ix_Z) (rec122 : Int32 → ix_D2 → Option (Int32 × ix_D2)) (a0 : Nat) (x2 : Int32) (rec165 : Int32 → ix_D2 → Option (Int32 × ix_D2)) (x4 : Int32) (d : ix_D2) : Option (Int32 × ix_D2) :=
  ix_ck (ix_ok z [11] a0) (ix_if (d.1 a0 96 ≤ x4) (f_X12_shrink_202 n z rec122 a0 x2 d) (ix_bd1 (z.1 a0 95) (fun b_27 => ix_ck (ix_ix z 20 b_27 (x4 + 1)) (ix_ck (ix_ix z 20 b_27 x4) (ix_lt (ix_di d b_27 (ix_n x4) (d.1 b_27 (ix_n (x4 + 1)))) (fun d_31 => ix_lt (x4 + 1) (fun x4_33 => rec165 x4_33 d_31)))))))
noncomputable def f_X12_shrink_165 (n : Nat) (z : ix_Z) (rec122 : Int32 → ix_D2 → Option (Int32 × ix_D2)) (a0 : Nat) (x2 : Int32) (x4 : Int32) (d : ix_D2) : Option (Int32 × ix_D2) := ix_fix (b_X12_shrink_165 n z rec122 a0 x2) (fun _ _ => none) n x4 d
noncomputable def b_X12_shrink_122 (n : Nat) (z : ix_Z)  (a0 : Nat) (rec122 : Int32 → ix_D2 → Option (Int32 × ix_D2)) (x2 : Int32) (d : ix_D2) : Option (Int32 × ix_D2) :=
  ix_ck (ix_ok z [11] a0) (ix_if (d.1 a0 96 ≤ x2) (some ((d.1 a0 94) + (d.1 a0 96), d)) (ix_bd2 (f_X12_tried n z a0 ((-1005)) x2 ((-1005)) d) (fun r_18 d_16 => ix_if (0 ≤ r_18) (ix_if (r_18 = 0) (ix_lt (ix_di d_16 a0 96 ((d_16.1 a0 96) - 1)) (fun d_23 => f_X12_shrink_165 n z rec122 a0 x2 x2 d_23)) (ix_lt (x2 + 1) (fun x2_21 => f_X12_shrink_202 n z rec122 a0 x2_21 d_16))) (some (r_18, d_16)))))
noncomputable def f_X12_shrink_122 (n : Nat) (z : ix_Z)  (a0 : Nat) (x2 : Int32) (d : ix_D2) : Option (Int32 × ix_D2) := ix_fix (b_X12_shrink_122 n z  a0) (fun _ _ => none) n x2 d
noncomputable def f_X12_shrink_117 (n : Nat) (z : ix_Z) (rec37 : Int32 → ix_D2 → Option (Int32 × ix_D2)) (a0 : Nat) (x2 : Int32) (d : ix_D2) : Option (Int32 × ix_D2) :=
  rec37 x2 d
noncomputable def b_X12_shrink_80 (n : Nat) (z : ix_Z) (rec37 : Int32 → ix_D2 → Option (Int32 × ix_D2)) (a0 : Nat) (x2 : Int32) (rec80 : Int32 → ix_D2 → Option (Int32 × ix_D2)) (x4 : Int32) (d : ix_D2) : Option (Int32 × ix_D2) :=
  ix_ck (ix_ok z [11] a0) (ix_if (d.1 a0 94 ≤ x4) (f_X12_shrink_117 n z rec37 a0 x2 d) (ix_bd1 (z.1 a0 93) (fun b_46 => ix_ck (ix_ix z 20 b_46 (x4 + 1)) (ix_ck (ix_ix z 20 b_46 x4) (ix_lt (ix_di d b_46 (ix_n x4) (d.1 b_46 (ix_n (x4 + 1)))) (fun d_50 => ix_lt (x4 + 1) (fun x4_52 => rec80 x4_52 d_50)))))))
noncomputable def f_X12_shrink_80 (n : Nat) (z : ix_Z) (rec37 : Int32 → ix_D2 → Option (Int32 × ix_D2)) (a0 : Nat) (x2 : Int32) (x4 : Int32) (d : ix_D2) : Option (Int32 × ix_D2) := ix_fix (b_X12_shrink_80 n z rec37 a0 x2) (fun _ _ => none) n x4 d
noncomputable def b_X12_shrink_37 (n : Nat) (z : ix_Z)  (a0 : Nat) (rec37 : Int32 → ix_D2 → Option (Int32 × ix_D2)) (x2 : Int32) (d : ix_D2) : Option (Int32 × ix_D2) :=
  ix_ck (ix_ok z [11] a0) (ix_if (d.1 a0 94 ≤ x2) (f_X12_shrink_122 n z  a0 0 d) (ix_bd2 (f_X12_tried n z a0 x2 ((-1005)) ((-1005)) d) (fun r_37 d_35 => ix_if (0 ≤ r_37) (ix_if (r_37 = 0) (ix_lt (ix_di d_35 a0 94 ((d_35.1 a0 94) - 1)) (fun d_42 => f_X12_shrink_80 n z rec37 a0 x2 x2 d_42)) (ix_lt (x2 + 1) (fun x2_40 => f_X12_shrink_117 n z rec37 a0 x2_40 d_35))) (some (r_37, d_35)))))
noncomputable def f_X12_shrink_37 (n : Nat) (z : ix_Z)  (a0 : Nat) (x2 : Int32) (d : ix_D2) : Option (Int32 × ix_D2) := ix_fix (b_X12_shrink_37 n z  a0) (fun _ _ => none) n x2 d
noncomputable def f_X12_shrink (n : Nat) (z : ix_Z) (a0 : Nat) (x1 : Int32) (d : ix_D2) : Option (Int32 × ix_D2) :=
  ix_bd2 (f_X12_areSteps n z x1 d) (fun r_3 d_1 => ix_if (r_3 = 0) (ix_ck (ix_ok z [11] a0) (ix_bd2 (f_X12_fail n z a0 ((-1001)) d_1) (fun r_60 d_57 => some (r_60, d_57)))) (ix_ck (ix_ok z [11] a0) (ix_bd2 (f_X12_hasCore n z a0 d_1) (fun r_8 d_5 => ix_if (r_8 = 0) (ix_bd2 (f_X12_fail n z a0 ((-1002)) d_5) (fun r_56 d_54 => some (r_56, d_54))) (ix_lt (ix_di d_5 a0 89 x1) (fun d_10 => f_X12_shrink_37 n z  a0 0 d_10))))))
set_option maxRecDepth 20000 in
theorem t_X12_shrink_202 {l : Launch} {p : Program} {e : Env} {s : State} {m : MethodId} {args : Array Value} {below : List Frame} {meth : Method} {c : Code} {K : ix_Cx} (hKp : ix_Kp K) {n : Nat} {z : ix_Z} (X : ix_X p s m args c K cX12_shrink RX12 5) (hr : meth.sig.returnType = (some .int)) (hlk : meth.locks = false) {rec122 : Int32 → ix_D2 → Option (Int32 × ix_D2)} {a0 : Nat} {x2 : Int32} {r : Int32} {d1 : ix_D2} (hrec122 : ∀ (x2 : Int32) (d : ix_D2), rec122 x2 d = some (r, d1) → ix_G p l e (ix_rm 8 186 0 0) s m args below meth c (MQ below (ix_Post K (some (.int r)) (ix_w z d1)) args s 0 0 (ix_A K)) K 5 0 0 122 [(0, .ref (K.2.2.1 + a0)), (2, .int x2)] [] (ix_w z d)) {d : ix_D2} (h : f_X12_shrink_202 n z rec122 a0 x2 d = some (r, d1)) : ix_G p l e (ix_rm 8 186 0 0) s m args below meth c (MQ below (ix_Post K (some (.int r)) (ix_w z d1)) args s 0 0 (ix_A K)) K 5 0 0 202 [(0, .ref (K.2.2.1 + a0)), (2, .int x2)] [] (ix_w z d) := by
  unfold f_X12_shrink_202 at h
  refine ix_goto (tgt := 122) X (ix_tb_at tb_X12_shrink 106 rfl) (by decide) ?_
  refine ix_sub (L1 := [(0, .ref (K.2.2.1 + a0)), (2, .int x2)]) [0, 1] rfl ?_
  exact hrec122 x2 d h
set_option maxRecDepth 20000 in
theorem tb_X12_shrink_165 {l : Launch} {p : Program} {e : Env} {s : State} {m : MethodId} {args : Array Value} {below : List Frame} {meth : Method} {c : Code} {K : ix_Cx} (hKp : ix_Kp K) {n : Nat} {z : ix_Z} (X : ix_X p s m args c K cX12_shrink RX12 5) (hr : meth.sig.returnType = (some .int)) (hlk : meth.locks = false) {rec122 : Int32 → ix_D2 → Option (Int32 × ix_D2)} {a0 : Nat} {x2 : Int32} {rec165 : Int32 → ix_D2 → Option (Int32 × ix_D2)} {r : Int32} {d1 : ix_D2} (hrec122 : ∀ (x2 : Int32) (d : ix_D2), rec122 x2 d = some (r, d1) → ix_G p l e (ix_rm 8 186 0 0) s m args below meth c (MQ below (ix_Post K (some (.int r)) (ix_w z d1)) args s 0 0 (ix_A K)) K 5 0 0 122 [(0, .ref (K.2.2.1 + a0)), (2, .int x2)] [] (ix_w z d)) (hrec165 : ∀ (x4 : Int32) (d : ix_D2), rec165 x4 d = some (r, d1) → ix_G p l e (ix_rm 8 186 0 0) s m args below meth c (MQ below (ix_Post K (some (.int r)) (ix_w z d1)) args s 0 0 (ix_A K)) K 5 0 0 165 [(0, .ref (K.2.2.1 + a0)), (2, .int x2), (4, .int x4)] [] (ix_w z d)) {x4 : Int32} {d : ix_D2} (h : b_X12_shrink_165 n z rec122 a0 x2 rec165 x4 d = some (r, d1)) : ix_G p l e (ix_rm 8 186 0 0) s m args below meth c (MQ below (ix_Post K (some (.int r)) (ix_w z d1)) args s 0 0 (ix_A K)) K 5 0 0 165 [(0, .ref (K.2.2.1 + a0)), (2, .int x2), (4, .int x4)] [] (ix_w z d) := by
  unfold b_X12_shrink_165 at h
  refine ix_iload (i := 4) (j := 2) X (ix_tb_at tb_X12_shrink 88 rfl) rfl (pc1 := 167) rfl ?_
  refine ix_aload_n (i := 0) (j := 0) X (ix_tb_at tb_X12_shrink 89 rfl) rfl rfl (pc1 := 168) rfl ?_
  obtain ⟨k_25, h⟩ := ix_ck_some h
  refine iz_getI X fl_RX12_526 k_25 (ix_tb_at tb_X12_shrink 90 rfl) (pc1 := 171) rfl ?_
  refine ix_icmp_ge (tgt := 196) X (ix_tb_at tb_X12_shrink 91 rfl) (by decide) (pc1 := 174) rfl (fun q_26 => ?_) (fun q_26 => ?_)
  · have h := ix_ift q_26 h
    refine ix_goto (tgt := 202) X (ix_tb_at tb_X12_shrink 104 rfl) (by decide) ?_
    refine ix_sub (L1 := [(0, .ref (K.2.2.1 + a0)), (2, .int x2)]) [0, 1] rfl ?_
    exact t_X12_shrink_202 hKp X hr hlk hrec122 h
  · have h := ix_iff q_26 h
    refine ix_aload_n (i := 0) (j := 0) X (ix_tb_at tb_X12_shrink 92 rfl) rfl rfl (pc1 := 175) rfl ?_
    obtain ⟨b_27, q_28, h⟩ := ix_bd1_ex h
    refine iz_getR X fl_RX12_204 k_25 q_28 (ix_tb_at tb_X12_shrink 93 rfl) (pc1 := 178) rfl ?_
    refine ix_iload (i := 4) (j := 2) X (ix_tb_at tb_X12_shrink 94 rfl) rfl (pc1 := 180) rfl ?_
    refine ix_aload_n (i := 0) (j := 0) X (ix_tb_at tb_X12_shrink 95 rfl) rfl rfl (pc1 := 181) rfl ?_
    refine iz_getR X fl_RX12_204 k_25 q_28 (ix_tb_at tb_X12_shrink 96 rfl) (pc1 := 184) rfl ?_
    refine ix_iload (i := 4) (j := 2) X (ix_tb_at tb_X12_shrink 97 rfl) rfl (pc1 := 186) rfl ?_
    refine ix_iconst (v := 1) X (ix_tb_at tb_X12_shrink 98 rfl) (by decide) (pc1 := 187) rfl ?_
    refine ix_iadd X (ix_tb_at tb_X12_shrink 99 rfl) (pc1 := 188) rfl ?_
    obtain ⟨k_29, h⟩ := ix_ck_some h
    refine iz_iald X k_29 (ix_tb_at tb_X12_shrink 100 rfl) (pc1 := 189) rfl ?_
    obtain ⟨k_30, h⟩ := ix_ck_some h
    obtain ⟨d_31, e_32, h⟩ := ix_lt_ex h
    refine iz_iast X k_30 (ix_tb_at tb_X12_shrink 101 rfl) e_32 (pc1 := 190) rfl ?_
    obtain ⟨x4_33, e_34, h⟩ := ix_lt_ex h
    refine ix_iinc (i := 4) (j := 2) (v := x4_33) (L1 := [(4, .int x4_33), (0, .ref (K.2.2.1 + a0)), (2, .int x2)]) X (ix_tb_at tb_X12_shrink 102 rfl) rfl (by rw [oi_1]; exact e_34.symm) (Nat.le_of_ble_eq_true rfl) rfl (pc1 := 193) rfl ?_
    refine ix_goto (tgt := 165) X (ix_tb_at tb_X12_shrink 103 rfl) (by decide) ?_
    refine ix_sub (L1 := [(0, .ref (K.2.2.1 + a0)), (2, .int x2), (4, .int x4_33)]) [1, 2, 0] rfl ?_
    exact hrec165 x4_33 d_31 h
theorem t_X12_shrink_165 {l : Launch} {p : Program} {e : Env} {s : State} {m : MethodId} {args : Array Value} {below : List Frame} {meth : Method} {c : Code} {K : ix_Cx} (hKp : ix_Kp K) {n : Nat} {z : ix_Z} (X : ix_X p s m args c K cX12_shrink RX12 5) (hr : meth.sig.returnType = (some .int)) (hlk : meth.locks = false) {rec122 : Int32 → ix_D2 → Option (Int32 × ix_D2)} {a0 : Nat} {x2 : Int32} {r : Int32} {d1 : ix_D2} (hrec122 : ∀ (x2 : Int32) (d : ix_D2), rec122 x2 d = some (r, d1) → ix_G p l e (ix_rm 8 186 0 0) s m args below meth c (MQ below (ix_Post K (some (.int r)) (ix_w z d1)) args s 0 0 (ix_A K)) K 5 0 0 122 [(0, .ref (K.2.2.1 + a0)), (2, .int x2)] [] (ix_w z d)) {x4 : Int32} {d : ix_D2} (h : f_X12_shrink_165 n z rec122 a0 x2 x4 d = some (r, d1)) : ix_G p l e (ix_rm 8 186 0 0) s m args below meth c (MQ below (ix_Post K (some (.int r)) (ix_w z d1)) args s 0 0 (ix_A K)) K 5 0 0 165 [(0, .ref (K.2.2.1 + a0)), (2, .int x2), (4, .int x4)] [] (ix_w z d) := by
  have key : ∀ (f : Nat) (x4 : Int32) (d : ix_D2), ix_fix (b_X12_shrink_165 n z rec122 a0 x2) (fun _ _ => none) f x4 d = some (r, d1) → ix_G p l e (ix_rm 8 186 0 0) s m args below meth c (MQ below (ix_Post K (some (.int r)) (ix_w z d1)) args s 0 0 (ix_A K)) K 5 0 0 165 [(0, .ref (K.2.2.1 + a0)), (2, .int x2), (4, .int x4)] [] (ix_w z d) := by
    intro f
    induction f with
    | zero =>
      intro x4 d h
      have h : (none : Option (Int32 × ix_D2)) = some (r, d1) := h
      cases h
    | succ f ih =>
      intro x4 d h
      exact tb_X12_shrink_165 hKp X hr hlk (rec165 := ix_fix (b_X12_shrink_165 n z rec122 a0 x2) (fun _ _ => none) f) hrec122 ih h
  exact key n x4 d h
set_option maxRecDepth 20000 in
theorem tb_X12_shrink_122 {l : Launch} {p : Program} {e : Env} {s : State} {m : MethodId} {args : Array Value} {below : List Frame} {meth : Method} {c : Code} {K : ix_Cx} (hKp : ix_Kp K) {n : Nat} {z : ix_Z} (X : ix_X p s m args c K cX12_shrink RX12 5) (hr : meth.sig.returnType = (some .int)) (hlk : meth.locks = false)  {a0 : Nat} {rec122 : Int32 → ix_D2 → Option (Int32 × ix_D2)} {r : Int32} {d1 : ix_D2} (hrec122 : ∀ (x2 : Int32) (d : ix_D2), rec122 x2 d = some (r, d1) → ix_G p l e (ix_rm 8 186 0 0) s m args below meth c (MQ below (ix_Post K (some (.int r)) (ix_w z d1)) args s 0 0 (ix_A K)) K 5 0 0 122 [(0, .ref (K.2.2.1 + a0)), (2, .int x2)] [] (ix_w z d)) {x2 : Int32} {d : ix_D2} (h : b_X12_shrink_122 n z  a0 rec122 x2 d = some (r, d1)) : ix_G p l e (ix_rm 8 186 0 0) s m args below meth c (MQ below (ix_Post K (some (.int r)) (ix_w z d1)) args s 0 0 (ix_A K)) K 5 0 0 122 [(0, .ref (K.2.2.1 + a0)), (2, .int x2)] [] (ix_w z d) := by
  unfold b_X12_shrink_122 at h
  refine ix_iload_n (i := 2) (j := 1) X (ix_tb_at tb_X12_shrink 64 rfl) rfl rfl (pc1 := 123) rfl ?_
  refine ix_aload_n (i := 0) (j := 0) X (ix_tb_at tb_X12_shrink 65 rfl) rfl rfl (pc1 := 124) rfl ?_
  obtain ⟨k_14, h⟩ := ix_ck_some h
  refine iz_getI X fl_RX12_526 k_14 (ix_tb_at tb_X12_shrink 66 rfl) (pc1 := 127) rfl ?_
  refine ix_icmp_ge (tgt := 205) X (ix_tb_at tb_X12_shrink 67 rfl) (by decide) (pc1 := 130) rfl (fun q_15 => ?_) (fun q_15 => ?_)
  · have h := ix_ift q_15 h
    refine ix_aload_n (i := 0) (j := 0) X (ix_tb_at tb_X12_shrink 107 rfl) rfl rfl (pc1 := 206) rfl ?_
    refine iz_getI X fl_RX12_514 k_14 (ix_tb_at tb_X12_shrink 108 rfl) (pc1 := 209) rfl ?_
    refine ix_aload_n (i := 0) (j := 0) X (ix_tb_at tb_X12_shrink 109 rfl) rfl rfl (pc1 := 210) rfl ?_
    refine iz_getI X fl_RX12_526 k_14 (ix_tb_at tb_X12_shrink 110 rfl) (pc1 := 213) rfl ?_
    refine ix_iadd X (ix_tb_at tb_X12_shrink 111 rfl) (pc1 := 214) rfl ?_
    exact ix_iret X hr hlk (ix_r2 (f := fun r => some (.int r)) (g := ix_w z) h) (ix_tb_at tb_X12_shrink 112 rfl)
  · have h := ix_iff q_15 h
    refine ix_aload_n (i := 0) (j := 0) X (ix_tb_at tb_X12_shrink 68 rfl) rfl rfl (pc1 := 131) rfl ?_
    refine ix_sipush (v := (-1005)) X (ix_tb_at tb_X12_shrink 69 rfl) (by decide) (pc1 := 134) rfl ?_
    refine ix_iload_n (i := 2) (j := 1) X (ix_tb_at tb_X12_shrink 70 rfl) rfl rfl (pc1 := 135) rfl ?_
    refine ix_sipush (v := (-1005)) X (ix_tb_at tb_X12_shrink 71 rfl) (by decide) (pc1 := 138) rfl ?_
    obtain ⟨r_18, d_16, h_17, h⟩ := ix_bd2_ex h
    refine ix_callV (As := [.int ((-1005)), .int x2, .int ((-1005))]) (rest := []) (ci := 11) (T := TX12) (nf := 116) X mf_X12_tried mi_X12_tried ms_X12_tried rfl (Nat.le_of_ble_eq_true rfl) ml_RX12_599 ⟨Nat.le_of_ble_eq_true rfl, Nat.le_of_ble_eq_true rfl⟩ ⟨Nat.le_of_ble_eq_true rfl, Nat.le_of_ble_eq_true rfl⟩ rfl (Nat.le_of_ble_eq_true rfl) (ix_tb_at tb_X12_shrink 72 rfl) ⟨k_14.1, List.mem_singleton.mp k_14.2⟩ (c_X12_tried hKp h_17) rfl (pc1 := 141) rfl ?_
    refine ix_istore_n (i := 3) (L1 := [(3, .int r_18), (0, .ref (K.2.2.1 + a0)), (2, .int x2)]) X (ix_tb_at tb_X12_shrink 73 rfl) rfl (Nat.le_of_ble_eq_true rfl) rfl (pc1 := 142) rfl ?_
    refine ix_iload_n (i := 3) (j := 0) X (ix_tb_at tb_X12_shrink 74 rfl) rfl rfl (pc1 := 143) rfl ?_
    refine ix_if_ge (tgt := 148) X (ix_tb_at tb_X12_shrink 75 rfl) (by decide) (pc1 := 146) rfl (fun q_19 => ?_) (fun q_19 => ?_)
    · have h := ix_ift q_19 h
      refine ix_iload_n (i := 3) (j := 0) X (ix_tb_at tb_X12_shrink 78 rfl) rfl rfl (pc1 := 149) rfl ?_
      refine ix_if_ne (tgt := 199) X (ix_tb_at tb_X12_shrink 79 rfl) (by decide) (pc1 := 152) rfl (fun q_20 => ?_) (fun q_20 => ?_)
      · have h := ix_iff q_20 h
        obtain ⟨x2_21, e_22, h⟩ := ix_lt_ex h
        refine ix_iinc (i := 2) (j := 2) (v := x2_21) (L1 := [(2, .int x2_21), (3, .int r_18), (0, .ref (K.2.2.1 + a0))]) X (ix_tb_at tb_X12_shrink 105 rfl) rfl (by rw [oi_1]; exact e_22.symm) (Nat.le_of_ble_eq_true rfl) rfl (pc1 := 202) rfl ?_
        refine ix_sub (L1 := [(0, .ref (K.2.2.1 + a0)), (2, .int x2_21)]) [2, 0] rfl ?_
        exact t_X12_shrink_202 hKp X hr hlk hrec122 h
      · have h := ix_ift q_20 h
        refine ix_aload_n (i := 0) (j := 1) X (ix_tb_at tb_X12_shrink 80 rfl) rfl rfl (pc1 := 153) rfl ?_
        refine ix_dup X (ix_tb_at tb_X12_shrink 81 rfl) rfl (pc1 := 154) rfl ?_
        refine iz_getI X fl_RX12_526 k_14 (ix_tb_at tb_X12_shrink 82 rfl) (pc1 := 157) rfl ?_
        refine ix_iconst (v := 1) X (ix_tb_at tb_X12_shrink 83 rfl) (by decide) (pc1 := 158) rfl ?_
        refine ix_isub X (ix_tb_at tb_X12_shrink 84 rfl) (pc1 := 159) rfl ?_
        obtain ⟨d_23, e_24, h⟩ := ix_lt_ex h
        refine iz_putI X fp_RX12_526 k_14 (ix_tb_at tb_X12_shrink 85 rfl) e_24 (pc1 := 162) rfl ?_
        refine ix_iload_n (i := 2) (j := 2) X (ix_tb_at tb_X12_shrink 86 rfl) rfl rfl (pc1 := 163) rfl ?_
        refine ix_istore (i := 4) (L1 := [(4, .int x2), (3, .int r_18), (0, .ref (K.2.2.1 + a0)), (2, .int x2)]) X (ix_tb_at tb_X12_shrink 87 rfl) (Nat.le_of_ble_eq_true rfl) rfl (pc1 := 165) rfl ?_
        refine ix_sub (L1 := [(0, .ref (K.2.2.1 + a0)), (2, .int x2), (4, .int x2)]) [2, 3, 0] rfl ?_
        exact t_X12_shrink_165 hKp X hr hlk hrec122 h
    · have h := ix_iff q_19 h
      refine ix_iload_n (i := 3) (j := 0) X (ix_tb_at tb_X12_shrink 76 rfl) rfl rfl (pc1 := 147) rfl ?_
      exact ix_iret X hr hlk (ix_r2 (f := fun r => some (.int r)) (g := ix_w z) h) (ix_tb_at tb_X12_shrink 77 rfl)
theorem t_X12_shrink_122 {l : Launch} {p : Program} {e : Env} {s : State} {m : MethodId} {args : Array Value} {below : List Frame} {meth : Method} {c : Code} {K : ix_Cx} (hKp : ix_Kp K) {n : Nat} {z : ix_Z} (X : ix_X p s m args c K cX12_shrink RX12 5) (hr : meth.sig.returnType = (some .int)) (hlk : meth.locks = false)  {a0 : Nat} {r : Int32} {d1 : ix_D2}  {x2 : Int32} {d : ix_D2} (h : f_X12_shrink_122 n z  a0 x2 d = some (r, d1)) : ix_G p l e (ix_rm 8 186 0 0) s m args below meth c (MQ below (ix_Post K (some (.int r)) (ix_w z d1)) args s 0 0 (ix_A K)) K 5 0 0 122 [(0, .ref (K.2.2.1 + a0)), (2, .int x2)] [] (ix_w z d) := by
  have key : ∀ (f : Nat) (x2 : Int32) (d : ix_D2), ix_fix (b_X12_shrink_122 n z  a0) (fun _ _ => none) f x2 d = some (r, d1) → ix_G p l e (ix_rm 8 186 0 0) s m args below meth c (MQ below (ix_Post K (some (.int r)) (ix_w z d1)) args s 0 0 (ix_A K)) K 5 0 0 122 [(0, .ref (K.2.2.1 + a0)), (2, .int x2)] [] (ix_w z d) := by
    intro f
    induction f with
    | zero =>
      intro x2 d h
      have h : (none : Option (Int32 × ix_D2)) = some (r, d1) := h
      cases h
    | succ f ih =>
      intro x2 d h
      exact tb_X12_shrink_122 hKp X hr hlk (rec122 := ix_fix (b_X12_shrink_122 n z  a0) (fun _ _ => none) f)  ih h
  exact key n x2 d h
set_option maxRecDepth 20000 in
theorem t_X12_shrink_117 {l : Launch} {p : Program} {e : Env} {s : State} {m : MethodId} {args : Array Value} {below : List Frame} {meth : Method} {c : Code} {K : ix_Cx} (hKp : ix_Kp K) {n : Nat} {z : ix_Z} (X : ix_X p s m args c K cX12_shrink RX12 5) (hr : meth.sig.returnType = (some .int)) (hlk : meth.locks = false) {rec37 : Int32 → ix_D2 → Option (Int32 × ix_D2)} {a0 : Nat} {x2 : Int32} {r : Int32} {d1 : ix_D2} (hrec37 : ∀ (x2 : Int32) (d : ix_D2), rec37 x2 d = some (r, d1) → ix_G p l e (ix_rm 8 186 0 0) s m args below meth c (MQ below (ix_Post K (some (.int r)) (ix_w z d1)) args s 0 0 (ix_A K)) K 5 0 0 37 [(0, .ref (K.2.2.1 + a0)), (2, .int x2)] [] (ix_w z d)) {d : ix_D2} (h : f_X12_shrink_117 n z rec37 a0 x2 d = some (r, d1)) : ix_G p l e (ix_rm 8 186 0 0) s m args below meth c (MQ below (ix_Post K (some (.int r)) (ix_w z d1)) args s 0 0 (ix_A K)) K 5 0 0 117 [(0, .ref (K.2.2.1 + a0)), (2, .int x2)] [] (ix_w z d) := by
  unfold f_X12_shrink_117 at h
  refine ix_goto (tgt := 37) X (ix_tb_at tb_X12_shrink 61 rfl) (by decide) ?_
  refine ix_sub (L1 := [(0, .ref (K.2.2.1 + a0)), (2, .int x2)]) [0, 1] rfl ?_
  exact hrec37 x2 d h
set_option maxRecDepth 20000 in
theorem tb_X12_shrink_80 {l : Launch} {p : Program} {e : Env} {s : State} {m : MethodId} {args : Array Value} {below : List Frame} {meth : Method} {c : Code} {K : ix_Cx} (hKp : ix_Kp K) {n : Nat} {z : ix_Z} (X : ix_X p s m args c K cX12_shrink RX12 5) (hr : meth.sig.returnType = (some .int)) (hlk : meth.locks = false) {rec37 : Int32 → ix_D2 → Option (Int32 × ix_D2)} {a0 : Nat} {x2 : Int32} {rec80 : Int32 → ix_D2 → Option (Int32 × ix_D2)} {r : Int32} {d1 : ix_D2} (hrec37 : ∀ (x2 : Int32) (d : ix_D2), rec37 x2 d = some (r, d1) → ix_G p l e (ix_rm 8 186 0 0) s m args below meth c (MQ below (ix_Post K (some (.int r)) (ix_w z d1)) args s 0 0 (ix_A K)) K 5 0 0 37 [(0, .ref (K.2.2.1 + a0)), (2, .int x2)] [] (ix_w z d)) (hrec80 : ∀ (x4 : Int32) (d : ix_D2), rec80 x4 d = some (r, d1) → ix_G p l e (ix_rm 8 186 0 0) s m args below meth c (MQ below (ix_Post K (some (.int r)) (ix_w z d1)) args s 0 0 (ix_A K)) K 5 0 0 80 [(0, .ref (K.2.2.1 + a0)), (2, .int x2), (4, .int x4)] [] (ix_w z d)) {x4 : Int32} {d : ix_D2} (h : b_X12_shrink_80 n z rec37 a0 x2 rec80 x4 d = some (r, d1)) : ix_G p l e (ix_rm 8 186 0 0) s m args below meth c (MQ below (ix_Post K (some (.int r)) (ix_w z d1)) args s 0 0 (ix_A K)) K 5 0 0 80 [(0, .ref (K.2.2.1 + a0)), (2, .int x2), (4, .int x4)] [] (ix_w z d) := by
  unfold b_X12_shrink_80 at h
  refine ix_iload (i := 4) (j := 2) X (ix_tb_at tb_X12_shrink 43 rfl) rfl (pc1 := 82) rfl ?_
  refine ix_aload_n (i := 0) (j := 0) X (ix_tb_at tb_X12_shrink 44 rfl) rfl rfl (pc1 := 83) rfl ?_
  obtain ⟨k_44, h⟩ := ix_ck_some h
  refine iz_getI X fl_RX12_514 k_44 (ix_tb_at tb_X12_shrink 45 rfl) (pc1 := 86) rfl ?_
  refine ix_icmp_ge (tgt := 111) X (ix_tb_at tb_X12_shrink 46 rfl) (by decide) (pc1 := 89) rfl (fun q_45 => ?_) (fun q_45 => ?_)
  · have h := ix_ift q_45 h
    refine ix_goto (tgt := 117) X (ix_tb_at tb_X12_shrink 59 rfl) (by decide) ?_
    refine ix_sub (L1 := [(0, .ref (K.2.2.1 + a0)), (2, .int x2)]) [0, 1] rfl ?_
    exact t_X12_shrink_117 hKp X hr hlk hrec37 h
  · have h := ix_iff q_45 h
    refine ix_aload_n (i := 0) (j := 0) X (ix_tb_at tb_X12_shrink 47 rfl) rfl rfl (pc1 := 90) rfl ?_
    obtain ⟨b_46, q_47, h⟩ := ix_bd1_ex h
    refine iz_getR X fl_RX12_201 k_44 q_47 (ix_tb_at tb_X12_shrink 48 rfl) (pc1 := 93) rfl ?_
    refine ix_iload (i := 4) (j := 2) X (ix_tb_at tb_X12_shrink 49 rfl) rfl (pc1 := 95) rfl ?_
    refine ix_aload_n (i := 0) (j := 0) X (ix_tb_at tb_X12_shrink 50 rfl) rfl rfl (pc1 := 96) rfl ?_
    refine iz_getR X fl_RX12_201 k_44 q_47 (ix_tb_at tb_X12_shrink 51 rfl) (pc1 := 99) rfl ?_
    refine ix_iload (i := 4) (j := 2) X (ix_tb_at tb_X12_shrink 52 rfl) rfl (pc1 := 101) rfl ?_
    refine ix_iconst (v := 1) X (ix_tb_at tb_X12_shrink 53 rfl) (by decide) (pc1 := 102) rfl ?_
    refine ix_iadd X (ix_tb_at tb_X12_shrink 54 rfl) (pc1 := 103) rfl ?_
    obtain ⟨k_48, h⟩ := ix_ck_some h
    refine iz_iald X k_48 (ix_tb_at tb_X12_shrink 55 rfl) (pc1 := 104) rfl ?_
    obtain ⟨k_49, h⟩ := ix_ck_some h
    obtain ⟨d_50, e_51, h⟩ := ix_lt_ex h
    refine iz_iast X k_49 (ix_tb_at tb_X12_shrink 56 rfl) e_51 (pc1 := 105) rfl ?_
    obtain ⟨x4_52, e_53, h⟩ := ix_lt_ex h
    refine ix_iinc (i := 4) (j := 2) (v := x4_52) (L1 := [(4, .int x4_52), (0, .ref (K.2.2.1 + a0)), (2, .int x2)]) X (ix_tb_at tb_X12_shrink 57 rfl) rfl (by rw [oi_1]; exact e_53.symm) (Nat.le_of_ble_eq_true rfl) rfl (pc1 := 108) rfl ?_
    refine ix_goto (tgt := 80) X (ix_tb_at tb_X12_shrink 58 rfl) (by decide) ?_
    refine ix_sub (L1 := [(0, .ref (K.2.2.1 + a0)), (2, .int x2), (4, .int x4_52)]) [1, 2, 0] rfl ?_
    exact hrec80 x4_52 d_50 h
theorem t_X12_shrink_80 {l : Launch} {p : Program} {e : Env} {s : State} {m : MethodId} {args : Array Value} {below : List Frame} {meth : Method} {c : Code} {K : ix_Cx} (hKp : ix_Kp K) {n : Nat} {z : ix_Z} (X : ix_X p s m args c K cX12_shrink RX12 5) (hr : meth.sig.returnType = (some .int)) (hlk : meth.locks = false) {rec37 : Int32 → ix_D2 → Option (Int32 × ix_D2)} {a0 : Nat} {x2 : Int32} {r : Int32} {d1 : ix_D2} (hrec37 : ∀ (x2 : Int32) (d : ix_D2), rec37 x2 d = some (r, d1) → ix_G p l e (ix_rm 8 186 0 0) s m args below meth c (MQ below (ix_Post K (some (.int r)) (ix_w z d1)) args s 0 0 (ix_A K)) K 5 0 0 37 [(0, .ref (K.2.2.1 + a0)), (2, .int x2)] [] (ix_w z d)) {x4 : Int32} {d : ix_D2} (h : f_X12_shrink_80 n z rec37 a0 x2 x4 d = some (r, d1)) : ix_G p l e (ix_rm 8 186 0 0) s m args below meth c (MQ below (ix_Post K (some (.int r)) (ix_w z d1)) args s 0 0 (ix_A K)) K 5 0 0 80 [(0, .ref (K.2.2.1 + a0)), (2, .int x2), (4, .int x4)] [] (ix_w z d) := by
  have key : ∀ (f : Nat) (x4 : Int32) (d : ix_D2), ix_fix (b_X12_shrink_80 n z rec37 a0 x2) (fun _ _ => none) f x4 d = some (r, d1) → ix_G p l e (ix_rm 8 186 0 0) s m args below meth c (MQ below (ix_Post K (some (.int r)) (ix_w z d1)) args s 0 0 (ix_A K)) K 5 0 0 80 [(0, .ref (K.2.2.1 + a0)), (2, .int x2), (4, .int x4)] [] (ix_w z d) := by
    intro f
    induction f with
    | zero =>
      intro x4 d h
      have h : (none : Option (Int32 × ix_D2)) = some (r, d1) := h
      cases h
    | succ f ih =>
      intro x4 d h
      exact tb_X12_shrink_80 hKp X hr hlk (rec80 := ix_fix (b_X12_shrink_80 n z rec37 a0 x2) (fun _ _ => none) f) hrec37 ih h
  exact key n x4 d h
set_option maxRecDepth 20000 in
theorem tb_X12_shrink_37 {l : Launch} {p : Program} {e : Env} {s : State} {m : MethodId} {args : Array Value} {below : List Frame} {meth : Method} {c : Code} {K : ix_Cx} (hKp : ix_Kp K) {n : Nat} {z : ix_Z} (X : ix_X p s m args c K cX12_shrink RX12 5) (hr : meth.sig.returnType = (some .int)) (hlk : meth.locks = false)  {a0 : Nat} {rec37 : Int32 → ix_D2 → Option (Int32 × ix_D2)} {r : Int32} {d1 : ix_D2} (hrec37 : ∀ (x2 : Int32) (d : ix_D2), rec37 x2 d = some (r, d1) → ix_G p l e (ix_rm 8 186 0 0) s m args below meth c (MQ below (ix_Post K (some (.int r)) (ix_w z d1)) args s 0 0 (ix_A K)) K 5 0 0 37 [(0, .ref (K.2.2.1 + a0)), (2, .int x2)] [] (ix_w z d)) {x2 : Int32} {d : ix_D2} (h : b_X12_shrink_37 n z  a0 rec37 x2 d = some (r, d1)) : ix_G p l e (ix_rm 8 186 0 0) s m args below meth c (MQ below (ix_Post K (some (.int r)) (ix_w z d1)) args s 0 0 (ix_A K)) K 5 0 0 37 [(0, .ref (K.2.2.1 + a0)), (2, .int x2)] [] (ix_w z d) := by
  unfold b_X12_shrink_37 at h
  refine ix_iload_n (i := 2) (j := 1) X (ix_tb_at tb_X12_shrink 19 rfl) rfl rfl (pc1 := 38) rfl ?_
  refine ix_aload_n (i := 0) (j := 0) X (ix_tb_at tb_X12_shrink 20 rfl) rfl rfl (pc1 := 39) rfl ?_
  obtain ⟨k_12, h⟩ := ix_ck_some h
  refine iz_getI X fl_RX12_514 k_12 (ix_tb_at tb_X12_shrink 21 rfl) (pc1 := 42) rfl ?_
  refine ix_icmp_ge (tgt := 120) X (ix_tb_at tb_X12_shrink 22 rfl) (by decide) (pc1 := 45) rfl (fun q_13 => ?_) (fun q_13 => ?_)
  · have h := ix_ift q_13 h
    refine ix_iconst (v := 0) X (ix_tb_at tb_X12_shrink 62 rfl) (by decide) (pc1 := 121) rfl ?_
    refine ix_istore_n (i := 2) (L1 := [(2, .int 0), (0, .ref (K.2.2.1 + a0))]) X (ix_tb_at tb_X12_shrink 63 rfl) rfl (Nat.le_of_ble_eq_true rfl) rfl (pc1 := 122) rfl ?_
    refine ix_sub (L1 := [(0, .ref (K.2.2.1 + a0)), (2, .int 0)]) [1, 0] rfl ?_
    exact t_X12_shrink_122 hKp X hr hlk  h
  · have h := ix_iff q_13 h
    refine ix_aload_n (i := 0) (j := 0) X (ix_tb_at tb_X12_shrink 23 rfl) rfl rfl (pc1 := 46) rfl ?_
    refine ix_iload_n (i := 2) (j := 1) X (ix_tb_at tb_X12_shrink 24 rfl) rfl rfl (pc1 := 47) rfl ?_
    refine ix_sipush (v := (-1005)) X (ix_tb_at tb_X12_shrink 25 rfl) (by decide) (pc1 := 50) rfl ?_
    refine ix_sipush (v := (-1005)) X (ix_tb_at tb_X12_shrink 26 rfl) (by decide) (pc1 := 53) rfl ?_
    obtain ⟨r_37, d_35, h_36, h⟩ := ix_bd2_ex h
    refine ix_callV (As := [.int x2, .int ((-1005)), .int ((-1005))]) (rest := []) (ci := 11) (T := TX12) (nf := 116) X mf_X12_tried mi_X12_tried ms_X12_tried rfl (Nat.le_of_ble_eq_true rfl) ml_RX12_599 ⟨Nat.le_of_ble_eq_true rfl, Nat.le_of_ble_eq_true rfl⟩ ⟨Nat.le_of_ble_eq_true rfl, Nat.le_of_ble_eq_true rfl⟩ rfl (Nat.le_of_ble_eq_true rfl) (ix_tb_at tb_X12_shrink 27 rfl) ⟨k_12.1, List.mem_singleton.mp k_12.2⟩ (c_X12_tried hKp h_36) rfl (pc1 := 56) rfl ?_
    refine ix_istore_n (i := 3) (L1 := [(3, .int r_37), (0, .ref (K.2.2.1 + a0)), (2, .int x2)]) X (ix_tb_at tb_X12_shrink 28 rfl) rfl (Nat.le_of_ble_eq_true rfl) rfl (pc1 := 57) rfl ?_
    refine ix_iload_n (i := 3) (j := 0) X (ix_tb_at tb_X12_shrink 29 rfl) rfl rfl (pc1 := 58) rfl ?_
    refine ix_if_ge (tgt := 63) X (ix_tb_at tb_X12_shrink 30 rfl) (by decide) (pc1 := 61) rfl (fun q_38 => ?_) (fun q_38 => ?_)
    · have h := ix_ift q_38 h
      refine ix_iload_n (i := 3) (j := 0) X (ix_tb_at tb_X12_shrink 33 rfl) rfl rfl (pc1 := 64) rfl ?_
      refine ix_if_ne (tgt := 114) X (ix_tb_at tb_X12_shrink 34 rfl) (by decide) (pc1 := 67) rfl (fun q_39 => ?_) (fun q_39 => ?_)
      · have h := ix_iff q_39 h
        obtain ⟨x2_40, e_41, h⟩ := ix_lt_ex h
        refine ix_iinc (i := 2) (j := 2) (v := x2_40) (L1 := [(2, .int x2_40), (3, .int r_37), (0, .ref (K.2.2.1 + a0))]) X (ix_tb_at tb_X12_shrink 60 rfl) rfl (by rw [oi_1]; exact e_41.symm) (Nat.le_of_ble_eq_true rfl) rfl (pc1 := 117) rfl ?_
        refine ix_sub (L1 := [(0, .ref (K.2.2.1 + a0)), (2, .int x2_40)]) [2, 0] rfl ?_
        exact t_X12_shrink_117 hKp X hr hlk hrec37 h
      · have h := ix_ift q_39 h
        refine ix_aload_n (i := 0) (j := 1) X (ix_tb_at tb_X12_shrink 35 rfl) rfl rfl (pc1 := 68) rfl ?_
        refine ix_dup X (ix_tb_at tb_X12_shrink 36 rfl) rfl (pc1 := 69) rfl ?_
        refine iz_getI X fl_RX12_514 k_12 (ix_tb_at tb_X12_shrink 37 rfl) (pc1 := 72) rfl ?_
        refine ix_iconst (v := 1) X (ix_tb_at tb_X12_shrink 38 rfl) (by decide) (pc1 := 73) rfl ?_
        refine ix_isub X (ix_tb_at tb_X12_shrink 39 rfl) (pc1 := 74) rfl ?_
        obtain ⟨d_42, e_43, h⟩ := ix_lt_ex h
        refine iz_putI X fp_RX12_514 k_12 (ix_tb_at tb_X12_shrink 40 rfl) e_43 (pc1 := 77) rfl ?_
        refine ix_iload_n (i := 2) (j := 2) X (ix_tb_at tb_X12_shrink 41 rfl) rfl rfl (pc1 := 78) rfl ?_
        refine ix_istore (i := 4) (L1 := [(4, .int x2), (3, .int r_37), (0, .ref (K.2.2.1 + a0)), (2, .int x2)]) X (ix_tb_at tb_X12_shrink 42 rfl) (Nat.le_of_ble_eq_true rfl) rfl (pc1 := 80) rfl ?_
        refine ix_sub (L1 := [(0, .ref (K.2.2.1 + a0)), (2, .int x2), (4, .int x2)]) [2, 3, 0] rfl ?_
        exact t_X12_shrink_80 hKp X hr hlk hrec37 h
    · have h := ix_iff q_38 h
      refine ix_iload_n (i := 3) (j := 0) X (ix_tb_at tb_X12_shrink 31 rfl) rfl rfl (pc1 := 62) rfl ?_
      exact ix_iret X hr hlk (ix_r2 (f := fun r => some (.int r)) (g := ix_w z) h) (ix_tb_at tb_X12_shrink 32 rfl)
theorem t_X12_shrink_37 {l : Launch} {p : Program} {e : Env} {s : State} {m : MethodId} {args : Array Value} {below : List Frame} {meth : Method} {c : Code} {K : ix_Cx} (hKp : ix_Kp K) {n : Nat} {z : ix_Z} (X : ix_X p s m args c K cX12_shrink RX12 5) (hr : meth.sig.returnType = (some .int)) (hlk : meth.locks = false)  {a0 : Nat} {r : Int32} {d1 : ix_D2}  {x2 : Int32} {d : ix_D2} (h : f_X12_shrink_37 n z  a0 x2 d = some (r, d1)) : ix_G p l e (ix_rm 8 186 0 0) s m args below meth c (MQ below (ix_Post K (some (.int r)) (ix_w z d1)) args s 0 0 (ix_A K)) K 5 0 0 37 [(0, .ref (K.2.2.1 + a0)), (2, .int x2)] [] (ix_w z d) := by
  have key : ∀ (f : Nat) (x2 : Int32) (d : ix_D2), ix_fix (b_X12_shrink_37 n z  a0) (fun _ _ => none) f x2 d = some (r, d1) → ix_G p l e (ix_rm 8 186 0 0) s m args below meth c (MQ below (ix_Post K (some (.int r)) (ix_w z d1)) args s 0 0 (ix_A K)) K 5 0 0 37 [(0, .ref (K.2.2.1 + a0)), (2, .int x2)] [] (ix_w z d) := by
    intro f
    induction f with
    | zero =>
      intro x2 d h
      have h : (none : Option (Int32 × ix_D2)) = some (r, d1) := h
      cases h
    | succ f ih =>
      intro x2 d h
      exact tb_X12_shrink_37 hKp X hr hlk (rec37 := ix_fix (b_X12_shrink_37 n z  a0) (fun _ _ => none) f)  ih h
  exact key n x2 d h
set_option maxRecDepth 20000 in
theorem c_X12_shrink {l : Launch} {K : ix_Cx} (hKp : ix_Kp K) {n : Nat} {z : ix_Z} {a0 : Nat} {x1 : Int32} {d : ix_D2} {r : Int32} {d1 : ix_D2} (h : f_X12_shrink n z a0 x1 d = some (r, d1)) : ix_M l K yX12_shrink cX12_shrink 5 (some .int) 8 186 0 0 [.ref (K.2.2.1 + a0), .int x1] (ix_w z d) (some (.int r)) (ix_w z d1) := by
  refine ix_met mf_X12_shrink hKp (Nat.le_of_ble_eq_true rfl) ?_
  intro p e s m args below meth c hr hlk hnm X
  have X : ix_X p s m args c K cX12_shrink RX12 5 := X
  show ix_G p l e (ix_rm 8 186 0 0) s m args below meth c (MQ below (ix_Post K (some (.int r)) (ix_w z d1)) args s 0 0 (ix_A K)) K 5 0 0 0 [(0, .ref (K.2.2.1 + a0)), (1, .int x1)] [] (ix_w z d)
  unfold f_X12_shrink at h
  refine ix_iload_n (i := 1) (j := 1) X (ix_tb_at tb_X12_shrink 0 rfl) rfl rfl (pc1 := 1) rfl ?_
  obtain ⟨r_3, d_1, h_2, h⟩ := ix_bd2_ex h
  refine ix_callS (As := [.int x1]) (rest := []) X mf_X12_areSteps st_X12_areSteps ml_RX12_578 ⟨Nat.le_of_ble_eq_true rfl, Nat.le_of_ble_eq_true rfl⟩ ⟨Nat.le_of_ble_eq_true rfl, Nat.le_of_ble_eq_true rfl⟩ rfl (Nat.le_of_ble_eq_true rfl) (ix_tb_at tb_X12_shrink 1 rfl) (c_X12_areSteps hKp h_2) rfl (pc1 := 4) rfl ?_
  refine ix_if_ne (tgt := 15) X (ix_tb_at tb_X12_shrink 2 rfl) (by decide) (pc1 := 7) rfl (fun q_4 => ?_) (fun q_4 => ?_)
  · have h := ix_iff q_4 h
    refine ix_aload_n (i := 0) (j := 0) X (ix_tb_at tb_X12_shrink 7 rfl) rfl rfl (pc1 := 16) rfl ?_
    obtain ⟨k_7, h⟩ := ix_ck_some h
    obtain ⟨r_8, d_5, h_6, h⟩ := ix_bd2_ex h
    refine ix_callV (As := []) (rest := []) (ci := 11) (T := TX12) (nf := 116) X mf_X12_hasCore mi_X12_hasCore ms_X12_hasCore rfl (Nat.le_of_ble_eq_true rfl) ml_RX12_593 ⟨Nat.le_of_ble_eq_true rfl, Nat.le_of_ble_eq_true rfl⟩ ⟨Nat.le_of_ble_eq_true rfl, Nat.le_of_ble_eq_true rfl⟩ rfl (Nat.le_of_ble_eq_true rfl) (ix_tb_at tb_X12_shrink 8 rfl) ⟨k_7.1, List.mem_singleton.mp k_7.2⟩ (c_X12_hasCore hKp h_6) rfl (pc1 := 19) rfl ?_
    refine ix_if_ne (tgt := 30) X (ix_tb_at tb_X12_shrink 9 rfl) (by decide) (pc1 := 22) rfl (fun q_9 => ?_) (fun q_9 => ?_)
    · have h := ix_iff q_9 h
      refine ix_aload_n (i := 0) (j := 0) X (ix_tb_at tb_X12_shrink 14 rfl) rfl rfl (pc1 := 31) rfl ?_
      refine ix_iload_n (i := 1) (j := 1) X (ix_tb_at tb_X12_shrink 15 rfl) rfl rfl (pc1 := 32) rfl ?_
      obtain ⟨d_10, e_11, h⟩ := ix_lt_ex h
      refine iz_putI X fp_RX12_490 k_7 (ix_tb_at tb_X12_shrink 16 rfl) e_11 (pc1 := 35) rfl ?_
      refine ix_iconst (v := 0) X (ix_tb_at tb_X12_shrink 17 rfl) (by decide) (pc1 := 36) rfl ?_
      refine ix_istore_n (i := 2) (L1 := [(2, .int 0), (0, .ref (K.2.2.1 + a0)), (1, .int x1)]) X (ix_tb_at tb_X12_shrink 18 rfl) rfl (Nat.le_of_ble_eq_true rfl) rfl (pc1 := 37) rfl ?_
      refine ix_sub (L1 := [(0, .ref (K.2.2.1 + a0)), (2, .int 0)]) [1, 0] rfl ?_
      exact t_X12_shrink_37 hKp X hr hlk  h
    · have h := ix_ift q_9 h
      refine ix_aload_n (i := 0) (j := 0) X (ix_tb_at tb_X12_shrink 10 rfl) rfl rfl (pc1 := 23) rfl ?_
      refine ix_sipush (v := (-1002)) X (ix_tb_at tb_X12_shrink 11 rfl) (by decide) (pc1 := 26) rfl ?_
      obtain ⟨r_56, d_54, h_55, h⟩ := ix_bd2_ex h
      refine ix_callV (As := [.int ((-1002))]) (rest := []) (ci := 11) (T := TX12) (nf := 116) X mf_X12_fail mi_X12_fail ms_X12_fail rfl (Nat.le_of_ble_eq_true rfl) ml_RX12_242 ⟨Nat.le_of_ble_eq_true rfl, Nat.le_of_ble_eq_true rfl⟩ ⟨Nat.le_of_ble_eq_true rfl, Nat.le_of_ble_eq_true rfl⟩ rfl (Nat.le_of_ble_eq_true rfl) (ix_tb_at tb_X12_shrink 12 rfl) ⟨k_7.1, List.mem_singleton.mp k_7.2⟩ (c_X12_fail hKp h_55) rfl (pc1 := 29) rfl ?_
      exact ix_iret X hr hlk (ix_r2 (f := fun r => some (.int r)) (g := ix_w z) h) (ix_tb_at tb_X12_shrink 13 rfl)
  · have h := ix_ift q_4 h
    refine ix_aload_n (i := 0) (j := 0) X (ix_tb_at tb_X12_shrink 3 rfl) rfl rfl (pc1 := 8) rfl ?_
    refine ix_sipush (v := (-1001)) X (ix_tb_at tb_X12_shrink 4 rfl) (by decide) (pc1 := 11) rfl ?_
    obtain ⟨k_59, h⟩ := ix_ck_some h
    obtain ⟨r_60, d_57, h_58, h⟩ := ix_bd2_ex h
    refine ix_callV (As := [.int ((-1001))]) (rest := []) (ci := 11) (T := TX12) (nf := 116) X mf_X12_fail mi_X12_fail ms_X12_fail rfl (Nat.le_of_ble_eq_true rfl) ml_RX12_242 ⟨Nat.le_of_ble_eq_true rfl, Nat.le_of_ble_eq_true rfl⟩ ⟨Nat.le_of_ble_eq_true rfl, Nat.le_of_ble_eq_true rfl⟩ rfl (Nat.le_of_ble_eq_true rfl) (ix_tb_at tb_X12_shrink 5 rfl) ⟨k_59.1, List.mem_singleton.mp k_59.2⟩ (c_X12_fail hKp h_58) rfl (pc1 := 14) rfl ?_
    exact ix_iret X hr hlk (ix_r2 (f := fun r => some (.int r)) (g := ix_w z) h) (ix_tb_at tb_X12_shrink 6 rfl)
def tab_X12_bitsOf : List (Nat × Instr × Nat) := [(0, .iconst 0, 1), (1, .istore_n 1, 1), (2, .iconst 0, 1), (3, .istore_n 2, 1), (4, .iload_n 2, 1), (5, .bipush 10, 2), (7, .if_icmp .ge 17, 3), (10, .iload_n 1, 1), (11, .iload_n 0, 1), (12, .iload_n 2, 1), (13, .ishr, 1), (14, .iconst 1, 1), (15, .iand, 1), (16, .iadd, 1), (17, .istore_n 1, 1), (18, .iinc 2 1, 3), (21, .goto (-17), 3), (24, .iload_n 1, 1), (25, .ireturn, 1)]
theorem tb_X12_bitsOf : ix_tab cX12_bitsOf tab_X12_bitsOf := by
  unfold ix_tab
  decide +kernel
noncomputable def b_X12_bitsOf_4 (n : Nat) (z : ix_Z)  (x0 : Int32) (rec4 : Int32 → Int32 → ix_D2 → Option (Int32 × ix_D2)) (x1 : Int32) (x2 : Int32) (d : ix_D2) : Option (Int32 × ix_D2) :=
  ix_if (10 ≤ x2) (some (x1, d)) (ix_lt (x1 + ((x0 >>> (x2 &&& 31)) &&& 1)) (fun x1_2 => ix_lt (x2 + 1) (fun x2_4 => rec4 x1_2 x2_4 d)))
noncomputable def f_X12_bitsOf_4 (n : Nat) (z : ix_Z)  (x0 : Int32) (x1 : Int32) (x2 : Int32) (d : ix_D2) : Option (Int32 × ix_D2) := ix_fix (b_X12_bitsOf_4 n z  x0) (fun _ _ _ => none) n x1 x2 d
noncomputable def f_X12_bitsOf (n : Nat) (z : ix_Z) (x0 : Int32) (d : ix_D2) : Option (Int32 × ix_D2) :=
  f_X12_bitsOf_4 n z  x0 0 0 d
set_option maxRecDepth 20000 in
theorem tb_X12_bitsOf_4 {l : Launch} {p : Program} {e : Env} {s : State} {m : MethodId} {args : Array Value} {below : List Frame} {meth : Method} {c : Code} {K : ix_Cx} (hKp : ix_Kp K) {n : Nat} {z : ix_Z} (X : ix_X p s m args c K cX12_bitsOf RX12 3) (hr : meth.sig.returnType = (some .int)) (hlk : meth.locks = false)  {x0 : Int32} {rec4 : Int32 → Int32 → ix_D2 → Option (Int32 × ix_D2)} {r : Int32} {d1 : ix_D2} (hrec4 : ∀ (x1 : Int32) (x2 : Int32) (d : ix_D2), rec4 x1 x2 d = some (r, d1) → ix_G p l e (ix_rm 0 0 0 0) s m args below meth c (MQ below (ix_Post K (some (.int r)) (ix_w z d1)) args s 0 0 (ix_A K)) K 3 0 0 4 [(0, .int x0), (1, .int x1), (2, .int x2)] [] (ix_w z d)) {x1 : Int32} {x2 : Int32} {d : ix_D2} (h : b_X12_bitsOf_4 n z  x0 rec4 x1 x2 d = some (r, d1)) : ix_G p l e (ix_rm 0 0 0 0) s m args below meth c (MQ below (ix_Post K (some (.int r)) (ix_w z d1)) args s 0 0 (ix_A K)) K 3 0 0 4 [(0, .int x0), (1, .int x1), (2, .int x2)] [] (ix_w z d) := by
  unfold b_X12_bitsOf_4 at h
  refine ix_iload_n (i := 2) (j := 2) X (ix_tb_at tb_X12_bitsOf 4 rfl) rfl rfl (pc1 := 5) rfl ?_
  refine ix_bipush (v := 10) X (ix_tb_at tb_X12_bitsOf 5 rfl) (by decide) (pc1 := 7) rfl ?_
  refine ix_icmp_ge (tgt := 24) X (ix_tb_at tb_X12_bitsOf 6 rfl) (by decide) (pc1 := 10) rfl (fun q_1 => ?_) (fun q_1 => ?_)
  · have h := ix_ift q_1 h
    refine ix_iload_n (i := 1) (j := 1) X (ix_tb_at tb_X12_bitsOf 17 rfl) rfl rfl (pc1 := 25) rfl ?_
    exact ix_iret X hr hlk (ix_r2 (f := fun r => some (.int r)) (g := ix_w z) h) (ix_tb_at tb_X12_bitsOf 18 rfl)
  · have h := ix_iff q_1 h
    refine ix_iload_n (i := 1) (j := 1) X (ix_tb_at tb_X12_bitsOf 7 rfl) rfl rfl (pc1 := 11) rfl ?_
    refine ix_iload_n (i := 0) (j := 0) X (ix_tb_at tb_X12_bitsOf 8 rfl) rfl rfl (pc1 := 12) rfl ?_
    refine ix_iload_n (i := 2) (j := 2) X (ix_tb_at tb_X12_bitsOf 9 rfl) rfl rfl (pc1 := 13) rfl ?_
    refine ix_ishr X (ix_tb_at tb_X12_bitsOf 10 rfl) (pc1 := 14) rfl ?_
    refine ix_iconst (v := 1) X (ix_tb_at tb_X12_bitsOf 11 rfl) (by decide) (pc1 := 15) rfl ?_
    refine ix_iand X (ix_tb_at tb_X12_bitsOf 12 rfl) (pc1 := 16) rfl ?_
    refine ix_iadd X (ix_tb_at tb_X12_bitsOf 13 rfl) (pc1 := 17) rfl ?_
    obtain ⟨x1_2, e_3, h⟩ := ix_lt_ex h
    refine ix_nmi e_3 ?_
    refine ix_istore_n (i := 1) (L1 := [(1, .int x1_2), (0, .int x0), (2, .int x2)]) X (ix_tb_at tb_X12_bitsOf 14 rfl) rfl (Nat.le_of_ble_eq_true rfl) rfl (pc1 := 18) rfl ?_
    obtain ⟨x2_4, e_5, h⟩ := ix_lt_ex h
    refine ix_iinc (i := 2) (j := 2) (v := x2_4) (L1 := [(2, .int x2_4), (1, .int x1_2), (0, .int x0)]) X (ix_tb_at tb_X12_bitsOf 15 rfl) rfl (by rw [oi_1]; exact e_5.symm) (Nat.le_of_ble_eq_true rfl) rfl (pc1 := 21) rfl ?_
    refine ix_goto (tgt := 4) X (ix_tb_at tb_X12_bitsOf 16 rfl) (by decide) ?_
    refine ix_sub (L1 := [(0, .int x0), (1, .int x1_2), (2, .int x2_4)]) [2, 1, 0] rfl ?_
    exact hrec4 x1_2 x2_4 d h
theorem t_X12_bitsOf_4 {l : Launch} {p : Program} {e : Env} {s : State} {m : MethodId} {args : Array Value} {below : List Frame} {meth : Method} {c : Code} {K : ix_Cx} (hKp : ix_Kp K) {n : Nat} {z : ix_Z} (X : ix_X p s m args c K cX12_bitsOf RX12 3) (hr : meth.sig.returnType = (some .int)) (hlk : meth.locks = false)  {x0 : Int32} {r : Int32} {d1 : ix_D2}  {x1 : Int32} {x2 : Int32} {d : ix_D2} (h : f_X12_bitsOf_4 n z  x0 x1 x2 d = some (r, d1)) : ix_G p l e (ix_rm 0 0 0 0) s m args below meth c (MQ below (ix_Post K (some (.int r)) (ix_w z d1)) args s 0 0 (ix_A K)) K 3 0 0 4 [(0, .int x0), (1, .int x1), (2, .int x2)] [] (ix_w z d) := by
  have key : ∀ (f : Nat) (x1 : Int32) (x2 : Int32) (d : ix_D2), ix_fix (b_X12_bitsOf_4 n z  x0) (fun _ _ _ => none) f x1 x2 d = some (r, d1) → ix_G p l e (ix_rm 0 0 0 0) s m args below meth c (MQ below (ix_Post K (some (.int r)) (ix_w z d1)) args s 0 0 (ix_A K)) K 3 0 0 4 [(0, .int x0), (1, .int x1), (2, .int x2)] [] (ix_w z d) := by
    intro f
    induction f with
    | zero =>
      intro x1 x2 d h
      have h : (none : Option (Int32 × ix_D2)) = some (r, d1) := h
      cases h
    | succ f ih =>
      intro x1 x2 d h
      exact tb_X12_bitsOf_4 hKp X hr hlk (rec4 := ix_fix (b_X12_bitsOf_4 n z  x0) (fun _ _ _ => none) f)  ih h
  exact key n x1 x2 d h
set_option maxRecDepth 20000 in
theorem c_X12_bitsOf {l : Launch} {K : ix_Cx} (hKp : ix_Kp K) {n : Nat} {z : ix_Z} {x0 : Int32} {d : ix_D2} {r : Int32} {d1 : ix_D2} (h : f_X12_bitsOf n z x0 d = some (r, d1)) : ix_M l K yX12_bitsOf cX12_bitsOf 3 (some .int) 0 0 0 0 [.int x0] (ix_w z d) (some (.int r)) (ix_w z d1) := by
  refine ix_met mf_X12_bitsOf hKp (Nat.le_of_ble_eq_true rfl) ?_
  intro p e s m args below meth c hr hlk hnm X
  have X : ix_X p s m args c K cX12_bitsOf RX12 3 := X
  show ix_G p l e (ix_rm 0 0 0 0) s m args below meth c (MQ below (ix_Post K (some (.int r)) (ix_w z d1)) args s 0 0 (ix_A K)) K 3 0 0 0 [(0, .int x0)] [] (ix_w z d)
  unfold f_X12_bitsOf at h
  refine ix_iconst (v := 0) X (ix_tb_at tb_X12_bitsOf 0 rfl) (by decide) (pc1 := 1) rfl ?_
  refine ix_istore_n (i := 1) (L1 := [(1, .int 0), (0, .int x0)]) X (ix_tb_at tb_X12_bitsOf 1 rfl) rfl (Nat.le_of_ble_eq_true rfl) rfl (pc1 := 2) rfl ?_
  refine ix_iconst (v := 0) X (ix_tb_at tb_X12_bitsOf 2 rfl) (by decide) (pc1 := 3) rfl ?_
  refine ix_istore_n (i := 2) (L1 := [(2, .int 0), (1, .int 0), (0, .int x0)]) X (ix_tb_at tb_X12_bitsOf 3 rfl) rfl (Nat.le_of_ble_eq_true rfl) rfl (pc1 := 4) rfl ?_
  refine ix_sub (L1 := [(0, .int x0), (1, .int 0), (2, .int 0)]) [2, 1, 0] rfl ?_
  exact t_X12_bitsOf_4 hKp X hr hlk  h
def tab_X12_least : List (Nat × Instr × Nat) := [(0, .iload_n 1, 1), (1, .invokestatic 578, 3), (4, .ifCond .ne 11, 3), (7, .aload_n 0, 1), (8, .sipush (-1001), 3), (11, .invokevirtual 242, 3), (14, .ireturn, 1), (15, .aload_n 0, 1), (16, .invokevirtual 593, 3), (19, .ifCond .eq 12, 3), (22, .aload_n 0, 1), (23, .getfield 514, 3), (26, .bipush 10, 2), (28, .if_icmp .le 11, 3), (31, .aload_n 0, 1), (32, .sipush (-1002), 3), (35, .invokevirtual 242, 3), (38, .ireturn, 1), (39, .aload_n 0, 1), (40, .iload_n 1, 1), (41, .putfield 490, 3), (44, .iconst 0, 1), (45, .istore_n 2, 1), (46, .iload_n 2, 1), (47, .aload_n 0, 1), (48, .getfield 514, 3), (51, .if_icmp .gt 121, 3), (54, .iconst 0, 1), (55, .istore_n 3, 1), (56, .iload_n 3, 1), (57, .iconst 1, 1), (58, .aload_n 0, 1), (59, .getfield 514, 3), (62, .ishl, 1), (63, .if_icmp .ge 103, 3), (66, .iload_n 3, 1), (67, .invokestatic 602, 3), (70, .iload_n 2, 1), (71, .if_icmp .eq 6, 3), (74, .goto 86, 3), (77, .aload_n 0, 1), (78, .sipush (-1005), 3), (81, .sipush (-1005), 3), (84, .iload_n 3, 1), (85, .invokevirtual 599, 3), (88, .istore 4, 2), (90, .iload 4, 2), (92, .ifCond .ge 6, 3), (95, .iload 4, 2), (97, .ireturn, 1), (98, .iload 4, 2), (100, .ifCond .ne 60, 3), (103, .iconst 0, 1), (104, .istore 5, 2), (106, .iconst 0, 1), (107, .istore 6, 2), (109, .iload 6, 2), (111, .aload_n 0, 1), (112, .getfield 514, 3), (115, .if_icmp .ge 36, 3), (118, .iload_n 3, 1), (119, .iload 6, 2), (121, .ishr, 1), (122, .iconst 1, 1), (123, .iand, 1), (124, .iconst 1, 1), (125, .if_icmp .ne 20, 3), (128, .aload_n 0, 1), (129, .getfield 201, 3), (132, .iload 5, 2), (134, .aload_n 0, 1), (135, .getfield 201, 3), (138, .iload 6, 2), (140, .iaload, 1), (141, .iastore, 1), (142, .iinc 5 1, 3), (145, .iinc 6 1, 3), (148, .goto (-39), 3), (151, .aload_n 0, 1), (152, .iload 5, 2), (154, .putfield 514, 3), (157, .iload 5, 2), (159, .ireturn, 1), (160, .iinc 3 1, 3), (163, .goto (-107), 3), (166, .iinc 2 1, 3), (169, .goto (-123), 3), (172, .aload_n 0, 1), (173, .getfield 514, 3), (176, .ireturn, 1)]
theorem tb_X12_least : ix_tab cX12_least tab_X12_least := by
  unfold ix_tab
  decide +kernel
noncomputable def f_X12_least_31 (n : Nat) (z : ix_Z)  (a0 : Nat) (d : ix_D2) : Option (Int32 × ix_D2) :=
  ix_ck (ix_ok z [11] a0) (ix_bd2 (f_X12_fail n z a0 ((-1002)) d) (fun r_13 d_10 => some (r_13, d_10)))
noncomputable def f_X12_least_160 (n : Nat) (z : ix_Z) (rec46 : Int32 → ix_D2 → Option (Int32 × ix_D2)) (rec56 : Int32 → ix_D2 → Option (Int32 × ix_D2)) (a0 : Nat) (x2 : Int32) (x3 : Int32) (d : ix_D2) : Option (Int32 × ix_D2) :=
  ix_lt (x3 + 1) (fun x3_32 => rec56 x3_32 d)
noncomputable def f_X12_least_145 (n : Nat) (z : ix_Z) (rec109 : Int32 → Int32 → ix_D2 → Option (Int32 × ix_D2)) (a0 : Nat) (x3 : Int32) (x5 : Int32) (x6 : Int32) (d : ix_D2) : Option (Int32 × ix_D2) :=
  ix_lt (x6 + 1) (fun x6_39 => rec109 x5 x6_39 d)
noncomputable def b_X12_least_109 (n : Nat) (z : ix_Z)  (a0 : Nat) (x3 : Int32) (rec109 : Int32 → Int32 → ix_D2 → Option (Int32 × ix_D2)) (x5 : Int32) (x6 : Int32) (d : ix_D2) : Option (Int32 × ix_D2) :=
  ix_ck (ix_ok z [11] a0) (ix_if (d.1 a0 94 ≤ x6) (ix_lt (ix_di d a0 94 x5) (fun d_36 => some (x5, d_36))) (ix_if ((x3 >>> (x6 &&& 31)) &&& 1 = 1) (ix_bd1 (z.1 a0 93) (fun b_41 => ix_ck (ix_ix z 20 b_41 x6) (ix_ck (ix_ix z 20 b_41 x5) (ix_lt (ix_di d b_41 (ix_n x5) (d.1 b_41 (ix_n x6))) (fun d_45 => ix_lt (x5 + 1) (fun x5_47 => f_X12_least_145 n z rec109 a0 x3 x5_47 x6 d_45)))))) (f_X12_least_145 n z rec109 a0 x3 x5 x6 d)))
noncomputable def f_X12_least_109 (n : Nat) (z : ix_Z)  (a0 : Nat) (x3 : Int32) (x5 : Int32) (x6 : Int32) (d : ix_D2) : Option (Int32 × ix_D2) := ix_fix (b_X12_least_109 n z  a0 x3) (fun _ _ _ => none) n x5 x6 d
noncomputable def b_X12_least_56 (n : Nat) (z : ix_Z) (rec46 : Int32 → ix_D2 → Option (Int32 × ix_D2)) (a0 : Nat) (x2 : Int32) (rec56 : Int32 → ix_D2 → Option (Int32 × ix_D2)) (x3 : Int32) (d : ix_D2) : Option (Int32 × ix_D2) :=
  ix_ck (ix_ok z [11] a0) (ix_if (1 <<< ((d.1 a0 94) &&& 31) ≤ x3) (ix_lt (x2 + 1) (fun x2_21 => rec46 x2_21 d)) (ix_bd2 (f_X12_bitsOf n z x3 d) (fun r_25 d_23 => ix_if (r_25 = x2) (ix_bd2 (f_X12_tried n z a0 ((-1005)) ((-1005)) x3 d_23) (fun r_29 d_27 => ix_if (0 ≤ r_29) (ix_if (r_29 = 0) (f_X12_least_109 n z  a0 x3 0 0 d_27) (f_X12_least_160 n z rec46 rec56 a0 x2 x3 d_27)) (some (r_29, d_27)))) (f_X12_least_160 n z rec46 rec56 a0 x2 x3 d_23))))
noncomputable def f_X12_least_56 (n : Nat) (z : ix_Z) (rec46 : Int32 → ix_D2 → Option (Int32 × ix_D2)) (a0 : Nat) (x2 : Int32) (x3 : Int32) (d : ix_D2) : Option (Int32 × ix_D2) := ix_fix (b_X12_least_56 n z rec46 a0 x2) (fun _ _ => none) n x3 d
noncomputable def b_X12_least_46 (n : Nat) (z : ix_Z)  (a0 : Nat) (rec46 : Int32 → ix_D2 → Option (Int32 × ix_D2)) (x2 : Int32) (d : ix_D2) : Option (Int32 × ix_D2) :=
  ix_ck (ix_ok z [11] a0) (ix_if (d.1 a0 94 < x2) (some (d.1 a0 94, d)) (f_X12_least_56 n z rec46 a0 x2 0 d))
noncomputable def f_X12_least_46 (n : Nat) (z : ix_Z)  (a0 : Nat) (x2 : Int32) (d : ix_D2) : Option (Int32 × ix_D2) := ix_fix (b_X12_least_46 n z  a0) (fun _ _ => none) n x2 d
noncomputable def f_X12_least (n : Nat) (z : ix_Z) (a0 : Nat) (x1 : Int32) (d : ix_D2) : Option (Int32 × ix_D2) :=
  ix_bd2 (f_X12_areSteps n z x1 d) (fun r_3 d_1 => ix_if (r_3 = 0) (ix_ck (ix_ok z [11] a0) (ix_bd2 (f_X12_fail n z a0 ((-1001)) d_1) (fun r_52 d_49 => some (r_52, d_49)))) (ix_ck (ix_ok z [11] a0) (ix_bd2 (f_X12_hasCore n z a0 d_1) (fun r_8 d_5 => ix_if (r_8 = 0) (f_X12_least_31 n z  a0 d_5) (ix_if (d_5.1 a0 94 ≤ 10) (ix_lt (ix_di d_5 a0 89 x1) (fun d_15 => f_X12_least_46 n z  a0 0 d_15)) (f_X12_least_31 n z  a0 d_5))))))
set_option maxRecDepth 20000 in
theorem t_X12_least_31 {l : Launch} {p : Program} {e : Env} {s : State} {m : MethodId} {args : Array Value} {below : List Frame} {meth : Method} {c : Code} {K : ix_Cx} (hKp : ix_Kp K) {n : Nat} {z : ix_Z} (X : ix_X p s m args c K cX12_least RX12 7) (hr : meth.sig.returnType = (some .int)) (hlk : meth.locks = false)  {a0 : Nat} {r : Int32} {d1 : ix_D2}  {d : ix_D2} (h : f_X12_least_31 n z  a0 d = some (r, d1)) : ix_G p l e (ix_rm 8 186 0 0) s m args below meth c (MQ below (ix_Post K (some (.int r)) (ix_w z d1)) args s 0 0 (ix_A K)) K 7 0 0 31 [(0, .ref (K.2.2.1 + a0))] [] (ix_w z d) := by
  unfold f_X12_least_31 at h
  refine ix_aload_n (i := 0) (j := 0) X (ix_tb_at tb_X12_least 14 rfl) rfl rfl (pc1 := 32) rfl ?_
  refine ix_sipush (v := (-1002)) X (ix_tb_at tb_X12_least 15 rfl) (by decide) (pc1 := 35) rfl ?_
  obtain ⟨k_12, h⟩ := ix_ck_some h
  obtain ⟨r_13, d_10, h_11, h⟩ := ix_bd2_ex h
  refine ix_callV (As := [.int ((-1002))]) (rest := []) (ci := 11) (T := TX12) (nf := 116) X mf_X12_fail mi_X12_fail ms_X12_fail rfl (Nat.le_of_ble_eq_true rfl) ml_RX12_242 ⟨Nat.le_of_ble_eq_true rfl, Nat.le_of_ble_eq_true rfl⟩ ⟨Nat.le_of_ble_eq_true rfl, Nat.le_of_ble_eq_true rfl⟩ rfl (Nat.le_of_ble_eq_true rfl) (ix_tb_at tb_X12_least 16 rfl) ⟨k_12.1, List.mem_singleton.mp k_12.2⟩ (c_X12_fail hKp h_11) rfl (pc1 := 38) rfl ?_
  exact ix_iret X hr hlk (ix_r2 (f := fun r => some (.int r)) (g := ix_w z) h) (ix_tb_at tb_X12_least 17 rfl)
set_option maxRecDepth 20000 in
theorem t_X12_least_160 {l : Launch} {p : Program} {e : Env} {s : State} {m : MethodId} {args : Array Value} {below : List Frame} {meth : Method} {c : Code} {K : ix_Cx} (hKp : ix_Kp K) {n : Nat} {z : ix_Z} (X : ix_X p s m args c K cX12_least RX12 7) (hr : meth.sig.returnType = (some .int)) (hlk : meth.locks = false) {rec46 : Int32 → ix_D2 → Option (Int32 × ix_D2)} {rec56 : Int32 → ix_D2 → Option (Int32 × ix_D2)} {a0 : Nat} {x2 : Int32} {x3 : Int32} {r : Int32} {d1 : ix_D2} (hrec46 : ∀ (x2 : Int32) (d : ix_D2), rec46 x2 d = some (r, d1) → ix_G p l e (ix_rm 8 186 0 0) s m args below meth c (MQ below (ix_Post K (some (.int r)) (ix_w z d1)) args s 0 0 (ix_A K)) K 7 0 0 46 [(0, .ref (K.2.2.1 + a0)), (2, .int x2)] [] (ix_w z d)) (hrec56 : ∀ (x3 : Int32) (d : ix_D2), rec56 x3 d = some (r, d1) → ix_G p l e (ix_rm 8 186 0 0) s m args below meth c (MQ below (ix_Post K (some (.int r)) (ix_w z d1)) args s 0 0 (ix_A K)) K 7 0 0 56 [(0, .ref (K.2.2.1 + a0)), (2, .int x2), (3, .int x3)] [] (ix_w z d)) {d : ix_D2} (h : f_X12_least_160 n z rec46 rec56 a0 x2 x3 d = some (r, d1)) : ix_G p l e (ix_rm 8 186 0 0) s m args below meth c (MQ below (ix_Post K (some (.int r)) (ix_w z d1)) args s 0 0 (ix_A K)) K 7 0 0 160 [(0, .ref (K.2.2.1 + a0)), (2, .int x2), (3, .int x3)] [] (ix_w z d) := by
  unfold f_X12_least_160 at h
  obtain ⟨x3_32, e_33, h⟩ := ix_lt_ex h
  refine ix_iinc (i := 3) (j := 2) (v := x3_32) (L1 := [(3, .int x3_32), (0, .ref (K.2.2.1 + a0)), (2, .int x2)]) X (ix_tb_at tb_X12_least 83 rfl) rfl (by rw [oi_1]; exact e_33.symm) (Nat.le_of_ble_eq_true rfl) rfl (pc1 := 163) rfl ?_
  refine ix_goto (tgt := 56) X (ix_tb_at tb_X12_least 84 rfl) (by decide) ?_
  refine ix_sub (L1 := [(0, .ref (K.2.2.1 + a0)), (2, .int x2), (3, .int x3_32)]) [1, 2, 0] rfl ?_
  exact hrec56 x3_32 d h
set_option maxRecDepth 20000 in
theorem t_X12_least_145 {l : Launch} {p : Program} {e : Env} {s : State} {m : MethodId} {args : Array Value} {below : List Frame} {meth : Method} {c : Code} {K : ix_Cx} (hKp : ix_Kp K) {n : Nat} {z : ix_Z} (X : ix_X p s m args c K cX12_least RX12 7) (hr : meth.sig.returnType = (some .int)) (hlk : meth.locks = false) {rec109 : Int32 → Int32 → ix_D2 → Option (Int32 × ix_D2)} {a0 : Nat} {x3 : Int32} {x5 : Int32} {x6 : Int32} {r : Int32} {d1 : ix_D2} (hrec109 : ∀ (x5 : Int32) (x6 : Int32) (d : ix_D2), rec109 x5 x6 d = some (r, d1) → ix_G p l e (ix_rm 8 186 0 0) s m args below meth c (MQ below (ix_Post K (some (.int r)) (ix_w z d1)) args s 0 0 (ix_A K)) K 7 0 0 109 [(0, .ref (K.2.2.1 + a0)), (3, .int x3), (5, .int x5), (6, .int x6)] [] (ix_w z d)) {d : ix_D2} (h : f_X12_least_145 n z rec109 a0 x3 x5 x6 d = some (r, d1)) : ix_G p l e (ix_rm 8 186 0 0) s m args below meth c (MQ below (ix_Post K (some (.int r)) (ix_w z d1)) args s 0 0 (ix_A K)) K 7 0 0 145 [(0, .ref (K.2.2.1 + a0)), (3, .int x3), (5, .int x5), (6, .int x6)] [] (ix_w z d) := by
  unfold f_X12_least_145 at h
  obtain ⟨x6_39, e_40, h⟩ := ix_lt_ex h
  refine ix_iinc (i := 6) (j := 3) (v := x6_39) (L1 := [(6, .int x6_39), (0, .ref (K.2.2.1 + a0)), (3, .int x3), (5, .int x5)]) X (ix_tb_at tb_X12_least 76 rfl) rfl (by rw [oi_1]; exact e_40.symm) (Nat.le_of_ble_eq_true rfl) rfl (pc1 := 148) rfl ?_
  refine ix_goto (tgt := 109) X (ix_tb_at tb_X12_least 77 rfl) (by decide) ?_
  refine ix_sub (L1 := [(0, .ref (K.2.2.1 + a0)), (3, .int x3), (5, .int x5), (6, .int x6_39)]) [1, 2, 3, 0] rfl ?_
  exact hrec109 x5 x6_39 d h
set_option maxRecDepth 20000 in
theorem tb_X12_least_109 {l : Launch} {p : Program} {e : Env} {s : State} {m : MethodId} {args : Array Value} {below : List Frame} {meth : Method} {c : Code} {K : ix_Cx} (hKp : ix_Kp K) {n : Nat} {z : ix_Z} (X : ix_X p s m args c K cX12_least RX12 7) (hr : meth.sig.returnType = (some .int)) (hlk : meth.locks = false)  {a0 : Nat} {x3 : Int32} {rec109 : Int32 → Int32 → ix_D2 → Option (Int32 × ix_D2)} {r : Int32} {d1 : ix_D2} (hrec109 : ∀ (x5 : Int32) (x6 : Int32) (d : ix_D2), rec109 x5 x6 d = some (r, d1) → ix_G p l e (ix_rm 8 186 0 0) s m args below meth c (MQ below (ix_Post K (some (.int r)) (ix_w z d1)) args s 0 0 (ix_A K)) K 7 0 0 109 [(0, .ref (K.2.2.1 + a0)), (3, .int x3), (5, .int x5), (6, .int x6)] [] (ix_w z d)) {x5 : Int32} {x6 : Int32} {d : ix_D2} (h : b_X12_least_109 n z  a0 x3 rec109 x5 x6 d = some (r, d1)) : ix_G p l e (ix_rm 8 186 0 0) s m args below meth c (MQ below (ix_Post K (some (.int r)) (ix_w z d1)) args s 0 0 (ix_A K)) K 7 0 0 109 [(0, .ref (K.2.2.1 + a0)), (3, .int x3), (5, .int x5), (6, .int x6)] [] (ix_w z d) := by
  unfold b_X12_least_109 at h
  refine ix_iload (i := 6) (j := 3) X (ix_tb_at tb_X12_least 56 rfl) rfl (pc1 := 111) rfl ?_
  refine ix_aload_n (i := 0) (j := 0) X (ix_tb_at tb_X12_least 57 rfl) rfl rfl (pc1 := 112) rfl ?_
  obtain ⟨k_34, h⟩ := ix_ck_some h
  refine iz_getI X fl_RX12_514 k_34 (ix_tb_at tb_X12_least 58 rfl) (pc1 := 115) rfl ?_
  refine ix_icmp_ge (tgt := 151) X (ix_tb_at tb_X12_least 59 rfl) (by decide) (pc1 := 118) rfl (fun q_35 => ?_) (fun q_35 => ?_)
  · have h := ix_ift q_35 h
    refine ix_aload_n (i := 0) (j := 0) X (ix_tb_at tb_X12_least 78 rfl) rfl rfl (pc1 := 152) rfl ?_
    refine ix_iload (i := 5) (j := 2) X (ix_tb_at tb_X12_least 79 rfl) rfl (pc1 := 154) rfl ?_
    obtain ⟨d_36, e_37, h⟩ := ix_lt_ex h
    refine iz_putI X fp_RX12_514 k_34 (ix_tb_at tb_X12_least 80 rfl) e_37 (pc1 := 157) rfl ?_
    refine ix_iload (i := 5) (j := 2) X (ix_tb_at tb_X12_least 81 rfl) rfl (pc1 := 159) rfl ?_
    exact ix_iret X hr hlk (ix_r2 (f := fun r => some (.int r)) (g := ix_w z) h) (ix_tb_at tb_X12_least 82 rfl)
  · have h := ix_iff q_35 h
    refine ix_iload_n (i := 3) (j := 1) X (ix_tb_at tb_X12_least 60 rfl) rfl rfl (pc1 := 119) rfl ?_
    refine ix_iload (i := 6) (j := 3) X (ix_tb_at tb_X12_least 61 rfl) rfl (pc1 := 121) rfl ?_
    refine ix_ishr X (ix_tb_at tb_X12_least 62 rfl) (pc1 := 122) rfl ?_
    refine ix_iconst (v := 1) X (ix_tb_at tb_X12_least 63 rfl) (by decide) (pc1 := 123) rfl ?_
    refine ix_iand X (ix_tb_at tb_X12_least 64 rfl) (pc1 := 124) rfl ?_
    refine ix_iconst (v := 1) X (ix_tb_at tb_X12_least 65 rfl) (by decide) (pc1 := 125) rfl ?_
    refine ix_icmp_ne (tgt := 145) X (ix_tb_at tb_X12_least 66 rfl) (by decide) (pc1 := 128) rfl (fun q_38 => ?_) (fun q_38 => ?_)
    · have h := ix_iff q_38 h
      refine ix_sub (L1 := [(0, .ref (K.2.2.1 + a0)), (3, .int x3), (5, .int x5), (6, .int x6)]) [0, 1, 2, 3] rfl ?_
      exact t_X12_least_145 hKp X hr hlk hrec109 h
    · have h := ix_ift q_38 h
      refine ix_aload_n (i := 0) (j := 0) X (ix_tb_at tb_X12_least 67 rfl) rfl rfl (pc1 := 129) rfl ?_
      obtain ⟨b_41, q_42, h⟩ := ix_bd1_ex h
      refine iz_getR X fl_RX12_201 k_34 q_42 (ix_tb_at tb_X12_least 68 rfl) (pc1 := 132) rfl ?_
      refine ix_iload (i := 5) (j := 2) X (ix_tb_at tb_X12_least 69 rfl) rfl (pc1 := 134) rfl ?_
      refine ix_aload_n (i := 0) (j := 0) X (ix_tb_at tb_X12_least 70 rfl) rfl rfl (pc1 := 135) rfl ?_
      refine iz_getR X fl_RX12_201 k_34 q_42 (ix_tb_at tb_X12_least 71 rfl) (pc1 := 138) rfl ?_
      refine ix_iload (i := 6) (j := 3) X (ix_tb_at tb_X12_least 72 rfl) rfl (pc1 := 140) rfl ?_
      obtain ⟨k_43, h⟩ := ix_ck_some h
      refine iz_iald X k_43 (ix_tb_at tb_X12_least 73 rfl) (pc1 := 141) rfl ?_
      obtain ⟨k_44, h⟩ := ix_ck_some h
      obtain ⟨d_45, e_46, h⟩ := ix_lt_ex h
      refine iz_iast X k_44 (ix_tb_at tb_X12_least 74 rfl) e_46 (pc1 := 142) rfl ?_
      obtain ⟨x5_47, e_48, h⟩ := ix_lt_ex h
      refine ix_iinc (i := 5) (j := 2) (v := x5_47) (L1 := [(5, .int x5_47), (0, .ref (K.2.2.1 + a0)), (3, .int x3), (6, .int x6)]) X (ix_tb_at tb_X12_least 75 rfl) rfl (by rw [oi_1]; exact e_48.symm) (Nat.le_of_ble_eq_true rfl) rfl (pc1 := 145) rfl ?_
      refine ix_sub (L1 := [(0, .ref (K.2.2.1 + a0)), (3, .int x3), (5, .int x5_47), (6, .int x6)]) [1, 2, 0, 3] rfl ?_
      exact t_X12_least_145 hKp X hr hlk hrec109 h
theorem t_X12_least_109 {l : Launch} {p : Program} {e : Env} {s : State} {m : MethodId} {args : Array Value} {below : List Frame} {meth : Method} {c : Code} {K : ix_Cx} (hKp : ix_Kp K) {n : Nat} {z : ix_Z} (X : ix_X p s m args c K cX12_least RX12 7) (hr : meth.sig.returnType = (some .int)) (hlk : meth.locks = false)  {a0 : Nat} {x3 : Int32} {r : Int32} {d1 : ix_D2}  {x5 : Int32} {x6 : Int32} {d : ix_D2} (h : f_X12_least_109 n z  a0 x3 x5 x6 d = some (r, d1)) : ix_G p l e (ix_rm 8 186 0 0) s m args below meth c (MQ below (ix_Post K (some (.int r)) (ix_w z d1)) args s 0 0 (ix_A K)) K 7 0 0 109 [(0, .ref (K.2.2.1 + a0)), (3, .int x3), (5, .int x5), (6, .int x6)] [] (ix_w z d) := by
  have key : ∀ (f : Nat) (x5 : Int32) (x6 : Int32) (d : ix_D2), ix_fix (b_X12_least_109 n z  a0 x3) (fun _ _ _ => none) f x5 x6 d = some (r, d1) → ix_G p l e (ix_rm 8 186 0 0) s m args below meth c (MQ below (ix_Post K (some (.int r)) (ix_w z d1)) args s 0 0 (ix_A K)) K 7 0 0 109 [(0, .ref (K.2.2.1 + a0)), (3, .int x3), (5, .int x5), (6, .int x6)] [] (ix_w z d) := by
    intro f
    induction f with
    | zero =>
      intro x5 x6 d h
      have h : (none : Option (Int32 × ix_D2)) = some (r, d1) := h
      cases h
    | succ f ih =>
      intro x5 x6 d h
      exact tb_X12_least_109 hKp X hr hlk (rec109 := ix_fix (b_X12_least_109 n z  a0 x3) (fun _ _ _ => none) f)  ih h
  exact key n x5 x6 d h
set_option maxRecDepth 20000 in
theorem tb_X12_least_56 {l : Launch} {p : Program} {e : Env} {s : State} {m : MethodId} {args : Array Value} {below : List Frame} {meth : Method} {c : Code} {K : ix_Cx} (hKp : ix_Kp K) {n : Nat} {z : ix_Z} (X : ix_X p s m args c K cX12_least RX12 7) (hr : meth.sig.returnType = (some .int)) (hlk : meth.locks = false) {rec46 : Int32 → ix_D2 → Option (Int32 × ix_D2)} {a0 : Nat} {x2 : Int32} {rec56 : Int32 → ix_D2 → Option (Int32 × ix_D2)} {r : Int32} {d1 : ix_D2} (hrec46 : ∀ (x2 : Int32) (d : ix_D2), rec46 x2 d = some (r, d1) → ix_G p l e (ix_rm 8 186 0 0) s m args below meth c (MQ below (ix_Post K (some (.int r)) (ix_w z d1)) args s 0 0 (ix_A K)) K 7 0 0 46 [(0, .ref (K.2.2.1 + a0)), (2, .int x2)] [] (ix_w z d)) (hrec56 : ∀ (x3 : Int32) (d : ix_D2), rec56 x3 d = some (r, d1) → ix_G p l e (ix_rm 8 186 0 0) s m args below meth c (MQ below (ix_Post K (some (.int r)) (ix_w z d1)) args s 0 0 (ix_A K)) K 7 0 0 56 [(0, .ref (K.2.2.1 + a0)), (2, .int x2), (3, .int x3)] [] (ix_w z d)) {x3 : Int32} {d : ix_D2} (h : b_X12_least_56 n z rec46 a0 x2 rec56 x3 d = some (r, d1)) : ix_G p l e (ix_rm 8 186 0 0) s m args below meth c (MQ below (ix_Post K (some (.int r)) (ix_w z d1)) args s 0 0 (ix_A K)) K 7 0 0 56 [(0, .ref (K.2.2.1 + a0)), (2, .int x2), (3, .int x3)] [] (ix_w z d) := by
  unfold b_X12_least_56 at h
  refine ix_iload_n (i := 3) (j := 2) X (ix_tb_at tb_X12_least 29 rfl) rfl rfl (pc1 := 57) rfl ?_
  refine ix_iconst (v := 1) X (ix_tb_at tb_X12_least 30 rfl) (by decide) (pc1 := 58) rfl ?_
  refine ix_aload_n (i := 0) (j := 0) X (ix_tb_at tb_X12_least 31 rfl) rfl rfl (pc1 := 59) rfl ?_
  obtain ⟨k_19, h⟩ := ix_ck_some h
  refine iz_getI X fl_RX12_514 k_19 (ix_tb_at tb_X12_least 32 rfl) (pc1 := 62) rfl ?_
  refine ix_ishl X (ix_tb_at tb_X12_least 33 rfl) (pc1 := 63) rfl ?_
  refine ix_icmp_ge (tgt := 166) X (ix_tb_at tb_X12_least 34 rfl) (by decide) (pc1 := 66) rfl (fun q_20 => ?_) (fun q_20 => ?_)
  · have h := ix_ift q_20 h
    obtain ⟨x2_21, e_22, h⟩ := ix_lt_ex h
    refine ix_iinc (i := 2) (j := 1) (v := x2_21) (L1 := [(2, .int x2_21), (0, .ref (K.2.2.1 + a0)), (3, .int x3)]) X (ix_tb_at tb_X12_least 85 rfl) rfl (by rw [oi_1]; exact e_22.symm) (Nat.le_of_ble_eq_true rfl) rfl (pc1 := 169) rfl ?_
    refine ix_goto (tgt := 46) X (ix_tb_at tb_X12_least 86 rfl) (by decide) ?_
    refine ix_sub (L1 := [(0, .ref (K.2.2.1 + a0)), (2, .int x2_21)]) [1, 0] rfl ?_
    exact hrec46 x2_21 d h
  · have h := ix_iff q_20 h
    refine ix_iload_n (i := 3) (j := 2) X (ix_tb_at tb_X12_least 35 rfl) rfl rfl (pc1 := 67) rfl ?_
    obtain ⟨r_25, d_23, h_24, h⟩ := ix_bd2_ex h
    refine ix_callS (As := [.int x3]) (rest := []) X mf_X12_bitsOf st_X12_bitsOf ml_RX12_602 ⟨Nat.le_of_ble_eq_true rfl, Nat.le_of_ble_eq_true rfl⟩ ⟨Nat.le_of_ble_eq_true rfl, Nat.le_of_ble_eq_true rfl⟩ rfl (Nat.le_of_ble_eq_true rfl) (ix_tb_at tb_X12_least 36 rfl) (c_X12_bitsOf hKp h_24) rfl (pc1 := 70) rfl ?_
    refine ix_iload_n (i := 2) (j := 1) X (ix_tb_at tb_X12_least 37 rfl) rfl rfl (pc1 := 71) rfl ?_
    refine ix_icmp_eq (tgt := 77) X (ix_tb_at tb_X12_least 38 rfl) (by decide) (pc1 := 74) rfl (fun q_26 => ?_) (fun q_26 => ?_)
    · have h := ix_ift q_26 h
      refine ix_aload_n (i := 0) (j := 0) X (ix_tb_at tb_X12_least 40 rfl) rfl rfl (pc1 := 78) rfl ?_
      refine ix_sipush (v := (-1005)) X (ix_tb_at tb_X12_least 41 rfl) (by decide) (pc1 := 81) rfl ?_
      refine ix_sipush (v := (-1005)) X (ix_tb_at tb_X12_least 42 rfl) (by decide) (pc1 := 84) rfl ?_
      refine ix_iload_n (i := 3) (j := 2) X (ix_tb_at tb_X12_least 43 rfl) rfl rfl (pc1 := 85) rfl ?_
      obtain ⟨r_29, d_27, h_28, h⟩ := ix_bd2_ex h
      refine ix_callV (As := [.int ((-1005)), .int ((-1005)), .int x3]) (rest := []) (ci := 11) (T := TX12) (nf := 116) X mf_X12_tried mi_X12_tried ms_X12_tried rfl (Nat.le_of_ble_eq_true rfl) ml_RX12_599 ⟨Nat.le_of_ble_eq_true rfl, Nat.le_of_ble_eq_true rfl⟩ ⟨Nat.le_of_ble_eq_true rfl, Nat.le_of_ble_eq_true rfl⟩ rfl (Nat.le_of_ble_eq_true rfl) (ix_tb_at tb_X12_least 44 rfl) ⟨k_19.1, List.mem_singleton.mp k_19.2⟩ (c_X12_tried hKp h_28) rfl (pc1 := 88) rfl ?_
      refine ix_istore (i := 4) (L1 := [(4, .int r_29), (0, .ref (K.2.2.1 + a0)), (2, .int x2), (3, .int x3)]) X (ix_tb_at tb_X12_least 45 rfl) (Nat.le_of_ble_eq_true rfl) rfl (pc1 := 90) rfl ?_
      refine ix_iload (i := 4) (j := 0) X (ix_tb_at tb_X12_least 46 rfl) rfl (pc1 := 92) rfl ?_
      refine ix_if_ge (tgt := 98) X (ix_tb_at tb_X12_least 47 rfl) (by decide) (pc1 := 95) rfl (fun q_30 => ?_) (fun q_30 => ?_)
      · have h := ix_ift q_30 h
        refine ix_iload (i := 4) (j := 0) X (ix_tb_at tb_X12_least 50 rfl) rfl (pc1 := 100) rfl ?_
        refine ix_if_ne (tgt := 160) X (ix_tb_at tb_X12_least 51 rfl) (by decide) (pc1 := 103) rfl (fun q_31 => ?_) (fun q_31 => ?_)
        · have h := ix_iff q_31 h
          refine ix_sub (L1 := [(0, .ref (K.2.2.1 + a0)), (2, .int x2), (3, .int x3)]) [1, 2, 3] rfl ?_
          exact t_X12_least_160 hKp X hr hlk hrec46 hrec56 h
        · have h := ix_ift q_31 h
          refine ix_iconst (v := 0) X (ix_tb_at tb_X12_least 52 rfl) (by decide) (pc1 := 104) rfl ?_
          refine ix_istore (i := 5) (L1 := [(5, .int 0), (4, .int r_29), (0, .ref (K.2.2.1 + a0)), (2, .int x2), (3, .int x3)]) X (ix_tb_at tb_X12_least 53 rfl) (Nat.le_of_ble_eq_true rfl) rfl (pc1 := 106) rfl ?_
          refine ix_iconst (v := 0) X (ix_tb_at tb_X12_least 54 rfl) (by decide) (pc1 := 107) rfl ?_
          refine ix_istore (i := 6) (L1 := [(6, .int 0), (5, .int 0), (4, .int r_29), (0, .ref (K.2.2.1 + a0)), (2, .int x2), (3, .int x3)]) X (ix_tb_at tb_X12_least 55 rfl) (Nat.le_of_ble_eq_true rfl) rfl (pc1 := 109) rfl ?_
          refine ix_sub (L1 := [(0, .ref (K.2.2.1 + a0)), (3, .int x3), (5, .int 0), (6, .int 0)]) [3, 5, 1, 0] rfl ?_
          exact t_X12_least_109 hKp X hr hlk  h
      · have h := ix_iff q_30 h
        refine ix_iload (i := 4) (j := 0) X (ix_tb_at tb_X12_least 48 rfl) rfl (pc1 := 97) rfl ?_
        exact ix_iret X hr hlk (ix_r2 (f := fun r => some (.int r)) (g := ix_w z) h) (ix_tb_at tb_X12_least 49 rfl)
    · have h := ix_iff q_26 h
      refine ix_goto (tgt := 160) X (ix_tb_at tb_X12_least 39 rfl) (by decide) ?_
      refine ix_sub (L1 := [(0, .ref (K.2.2.1 + a0)), (2, .int x2), (3, .int x3)]) [0, 1, 2] rfl ?_
      exact t_X12_least_160 hKp X hr hlk hrec46 hrec56 h
theorem t_X12_least_56 {l : Launch} {p : Program} {e : Env} {s : State} {m : MethodId} {args : Array Value} {below : List Frame} {meth : Method} {c : Code} {K : ix_Cx} (hKp : ix_Kp K) {n : Nat} {z : ix_Z} (X : ix_X p s m args c K cX12_least RX12 7) (hr : meth.sig.returnType = (some .int)) (hlk : meth.locks = false) {rec46 : Int32 → ix_D2 → Option (Int32 × ix_D2)} {a0 : Nat} {x2 : Int32} {r : Int32} {d1 : ix_D2} (hrec46 : ∀ (x2 : Int32) (d : ix_D2), rec46 x2 d = some (r, d1) → ix_G p l e (ix_rm 8 186 0 0) s m args below meth c (MQ below (ix_Post K (some (.int r)) (ix_w z d1)) args s 0 0 (ix_A K)) K 7 0 0 46 [(0, .ref (K.2.2.1 + a0)), (2, .int x2)] [] (ix_w z d)) {x3 : Int32} {d : ix_D2} (h : f_X12_least_56 n z rec46 a0 x2 x3 d = some (r, d1)) : ix_G p l e (ix_rm 8 186 0 0) s m args below meth c (MQ below (ix_Post K (some (.int r)) (ix_w z d1)) args s 0 0 (ix_A K)) K 7 0 0 56 [(0, .ref (K.2.2.1 + a0)), (2, .int x2), (3, .int x3)] [] (ix_w z d) := by
  have key : ∀ (f : Nat) (x3 : Int32) (d : ix_D2), ix_fix (b_X12_least_56 n z rec46 a0 x2) (fun _ _ => none) f x3 d = some (r, d1) → ix_G p l e (ix_rm 8 186 0 0) s m args below meth c (MQ below (ix_Post K (some (.int r)) (ix_w z d1)) args s 0 0 (ix_A K)) K 7 0 0 56 [(0, .ref (K.2.2.1 + a0)), (2, .int x2), (3, .int x3)] [] (ix_w z d) := by
    intro f
    induction f with
    | zero =>
      intro x3 d h
      have h : (none : Option (Int32 × ix_D2)) = some (r, d1) := h
      cases h
    | succ f ih =>
      intro x3 d h
      exact tb_X12_least_56 hKp X hr hlk (rec56 := ix_fix (b_X12_least_56 n z rec46 a0 x2) (fun _ _ => none) f) hrec46 ih h
  exact key n x3 d h
set_option maxRecDepth 20000 in
theorem tb_X12_least_46 {l : Launch} {p : Program} {e : Env} {s : State} {m : MethodId} {args : Array Value} {below : List Frame} {meth : Method} {c : Code} {K : ix_Cx} (hKp : ix_Kp K) {n : Nat} {z : ix_Z} (X : ix_X p s m args c K cX12_least RX12 7) (hr : meth.sig.returnType = (some .int)) (hlk : meth.locks = false)  {a0 : Nat} {rec46 : Int32 → ix_D2 → Option (Int32 × ix_D2)} {r : Int32} {d1 : ix_D2} (hrec46 : ∀ (x2 : Int32) (d : ix_D2), rec46 x2 d = some (r, d1) → ix_G p l e (ix_rm 8 186 0 0) s m args below meth c (MQ below (ix_Post K (some (.int r)) (ix_w z d1)) args s 0 0 (ix_A K)) K 7 0 0 46 [(0, .ref (K.2.2.1 + a0)), (2, .int x2)] [] (ix_w z d)) {x2 : Int32} {d : ix_D2} (h : b_X12_least_46 n z  a0 rec46 x2 d = some (r, d1)) : ix_G p l e (ix_rm 8 186 0 0) s m args below meth c (MQ below (ix_Post K (some (.int r)) (ix_w z d1)) args s 0 0 (ix_A K)) K 7 0 0 46 [(0, .ref (K.2.2.1 + a0)), (2, .int x2)] [] (ix_w z d) := by
  unfold b_X12_least_46 at h
  refine ix_iload_n (i := 2) (j := 1) X (ix_tb_at tb_X12_least 23 rfl) rfl rfl (pc1 := 47) rfl ?_
  refine ix_aload_n (i := 0) (j := 0) X (ix_tb_at tb_X12_least 24 rfl) rfl rfl (pc1 := 48) rfl ?_
  obtain ⟨k_17, h⟩ := ix_ck_some h
  refine iz_getI X fl_RX12_514 k_17 (ix_tb_at tb_X12_least 25 rfl) (pc1 := 51) rfl ?_
  refine ix_icmp_gt (tgt := 172) X (ix_tb_at tb_X12_least 26 rfl) (by decide) (pc1 := 54) rfl (fun q_18 => ?_) (fun q_18 => ?_)
  · have h := ix_ift q_18 h
    refine ix_aload_n (i := 0) (j := 0) X (ix_tb_at tb_X12_least 87 rfl) rfl rfl (pc1 := 173) rfl ?_
    refine iz_getI X fl_RX12_514 k_17 (ix_tb_at tb_X12_least 88 rfl) (pc1 := 176) rfl ?_
    exact ix_iret X hr hlk (ix_r2 (f := fun r => some (.int r)) (g := ix_w z) h) (ix_tb_at tb_X12_least 89 rfl)
  · have h := ix_iff q_18 h
    refine ix_iconst (v := 0) X (ix_tb_at tb_X12_least 27 rfl) (by decide) (pc1 := 55) rfl ?_
    refine ix_istore_n (i := 3) (L1 := [(3, .int 0), (0, .ref (K.2.2.1 + a0)), (2, .int x2)]) X (ix_tb_at tb_X12_least 28 rfl) rfl (Nat.le_of_ble_eq_true rfl) rfl (pc1 := 56) rfl ?_
    refine ix_sub (L1 := [(0, .ref (K.2.2.1 + a0)), (2, .int x2), (3, .int 0)]) [1, 2, 0] rfl ?_
    exact t_X12_least_56 hKp X hr hlk hrec46 h
theorem t_X12_least_46 {l : Launch} {p : Program} {e : Env} {s : State} {m : MethodId} {args : Array Value} {below : List Frame} {meth : Method} {c : Code} {K : ix_Cx} (hKp : ix_Kp K) {n : Nat} {z : ix_Z} (X : ix_X p s m args c K cX12_least RX12 7) (hr : meth.sig.returnType = (some .int)) (hlk : meth.locks = false)  {a0 : Nat} {r : Int32} {d1 : ix_D2}  {x2 : Int32} {d : ix_D2} (h : f_X12_least_46 n z  a0 x2 d = some (r, d1)) : ix_G p l e (ix_rm 8 186 0 0) s m args below meth c (MQ below (ix_Post K (some (.int r)) (ix_w z d1)) args s 0 0 (ix_A K)) K 7 0 0 46 [(0, .ref (K.2.2.1 + a0)), (2, .int x2)] [] (ix_w z d) := by
  have key : ∀ (f : Nat) (x2 : Int32) (d : ix_D2), ix_fix (b_X12_least_46 n z  a0) (fun _ _ => none) f x2 d = some (r, d1) → ix_G p l e (ix_rm 8 186 0 0) s m args below meth c (MQ below (ix_Post K (some (.int r)) (ix_w z d1)) args s 0 0 (ix_A K)) K 7 0 0 46 [(0, .ref (K.2.2.1 + a0)), (2, .int x2)] [] (ix_w z d) := by
    intro f
    induction f with
    | zero =>
      intro x2 d h
      have h : (none : Option (Int32 × ix_D2)) = some (r, d1) := h
      cases h
    | succ f ih =>
      intro x2 d h
      exact tb_X12_least_46 hKp X hr hlk (rec46 := ix_fix (b_X12_least_46 n z  a0) (fun _ _ => none) f)  ih h
  exact key n x2 d h
set_option maxRecDepth 20000 in
theorem c_X12_least {l : Launch} {K : ix_Cx} (hKp : ix_Kp K) {n : Nat} {z : ix_Z} {a0 : Nat} {x1 : Int32} {d : ix_D2} {r : Int32} {d1 : ix_D2} (h : f_X12_least n z a0 x1 d = some (r, d1)) : ix_M l K yX12_least cX12_least 7 (some .int) 8 186 0 0 [.ref (K.2.2.1 + a0), .int x1] (ix_w z d) (some (.int r)) (ix_w z d1) := by
  refine ix_met mf_X12_least hKp (Nat.le_of_ble_eq_true rfl) ?_
  intro p e s m args below meth c hr hlk hnm X
  have X : ix_X p s m args c K cX12_least RX12 7 := X
  show ix_G p l e (ix_rm 8 186 0 0) s m args below meth c (MQ below (ix_Post K (some (.int r)) (ix_w z d1)) args s 0 0 (ix_A K)) K 7 0 0 0 [(0, .ref (K.2.2.1 + a0)), (1, .int x1)] [] (ix_w z d)
  unfold f_X12_least at h
  refine ix_iload_n (i := 1) (j := 1) X (ix_tb_at tb_X12_least 0 rfl) rfl rfl (pc1 := 1) rfl ?_
  obtain ⟨r_3, d_1, h_2, h⟩ := ix_bd2_ex h
  refine ix_callS (As := [.int x1]) (rest := []) X mf_X12_areSteps st_X12_areSteps ml_RX12_578 ⟨Nat.le_of_ble_eq_true rfl, Nat.le_of_ble_eq_true rfl⟩ ⟨Nat.le_of_ble_eq_true rfl, Nat.le_of_ble_eq_true rfl⟩ rfl (Nat.le_of_ble_eq_true rfl) (ix_tb_at tb_X12_least 1 rfl) (c_X12_areSteps hKp h_2) rfl (pc1 := 4) rfl ?_
  refine ix_if_ne (tgt := 15) X (ix_tb_at tb_X12_least 2 rfl) (by decide) (pc1 := 7) rfl (fun q_4 => ?_) (fun q_4 => ?_)
  · have h := ix_iff q_4 h
    refine ix_aload_n (i := 0) (j := 0) X (ix_tb_at tb_X12_least 7 rfl) rfl rfl (pc1 := 16) rfl ?_
    obtain ⟨k_7, h⟩ := ix_ck_some h
    obtain ⟨r_8, d_5, h_6, h⟩ := ix_bd2_ex h
    refine ix_callV (As := []) (rest := []) (ci := 11) (T := TX12) (nf := 116) X mf_X12_hasCore mi_X12_hasCore ms_X12_hasCore rfl (Nat.le_of_ble_eq_true rfl) ml_RX12_593 ⟨Nat.le_of_ble_eq_true rfl, Nat.le_of_ble_eq_true rfl⟩ ⟨Nat.le_of_ble_eq_true rfl, Nat.le_of_ble_eq_true rfl⟩ rfl (Nat.le_of_ble_eq_true rfl) (ix_tb_at tb_X12_least 8 rfl) ⟨k_7.1, List.mem_singleton.mp k_7.2⟩ (c_X12_hasCore hKp h_6) rfl (pc1 := 19) rfl ?_
    refine ix_if_eq (tgt := 31) X (ix_tb_at tb_X12_least 9 rfl) (by decide) (pc1 := 22) rfl (fun q_9 => ?_) (fun q_9 => ?_)
    · have h := ix_ift q_9 h
      refine ix_sub (L1 := [(0, .ref (K.2.2.1 + a0))]) [0] rfl ?_
      exact t_X12_least_31 hKp X hr hlk  h
    · have h := ix_iff q_9 h
      refine ix_aload_n (i := 0) (j := 0) X (ix_tb_at tb_X12_least 10 rfl) rfl rfl (pc1 := 23) rfl ?_
      refine iz_getI X fl_RX12_514 k_7 (ix_tb_at tb_X12_least 11 rfl) (pc1 := 26) rfl ?_
      refine ix_bipush (v := 10) X (ix_tb_at tb_X12_least 12 rfl) (by decide) (pc1 := 28) rfl ?_
      refine ix_icmp_le (tgt := 39) X (ix_tb_at tb_X12_least 13 rfl) (by decide) (pc1 := 31) rfl (fun q_14 => ?_) (fun q_14 => ?_)
      · have h := ix_ift q_14 h
        refine ix_aload_n (i := 0) (j := 0) X (ix_tb_at tb_X12_least 18 rfl) rfl rfl (pc1 := 40) rfl ?_
        refine ix_iload_n (i := 1) (j := 1) X (ix_tb_at tb_X12_least 19 rfl) rfl rfl (pc1 := 41) rfl ?_
        obtain ⟨d_15, e_16, h⟩ := ix_lt_ex h
        refine iz_putI X fp_RX12_490 k_7 (ix_tb_at tb_X12_least 20 rfl) e_16 (pc1 := 44) rfl ?_
        refine ix_iconst (v := 0) X (ix_tb_at tb_X12_least 21 rfl) (by decide) (pc1 := 45) rfl ?_
        refine ix_istore_n (i := 2) (L1 := [(2, .int 0), (0, .ref (K.2.2.1 + a0)), (1, .int x1)]) X (ix_tb_at tb_X12_least 22 rfl) rfl (Nat.le_of_ble_eq_true rfl) rfl (pc1 := 46) rfl ?_
        refine ix_sub (L1 := [(0, .ref (K.2.2.1 + a0)), (2, .int 0)]) [1, 0] rfl ?_
        exact t_X12_least_46 hKp X hr hlk  h
      · have h := ix_iff q_14 h
        refine ix_sub (L1 := [(0, .ref (K.2.2.1 + a0))]) [0] rfl ?_
        exact t_X12_least_31 hKp X hr hlk  h
  · have h := ix_ift q_4 h
    refine ix_aload_n (i := 0) (j := 0) X (ix_tb_at tb_X12_least 3 rfl) rfl rfl (pc1 := 8) rfl ?_
    refine ix_sipush (v := (-1001)) X (ix_tb_at tb_X12_least 4 rfl) (by decide) (pc1 := 11) rfl ?_
    obtain ⟨k_51, h⟩ := ix_ck_some h
    obtain ⟨r_52, d_49, h_50, h⟩ := ix_bd2_ex h
    refine ix_callV (As := [.int ((-1001))]) (rest := []) (ci := 11) (T := TX12) (nf := 116) X mf_X12_fail mi_X12_fail ms_X12_fail rfl (Nat.le_of_ble_eq_true rfl) ml_RX12_242 ⟨Nat.le_of_ble_eq_true rfl, Nat.le_of_ble_eq_true rfl⟩ ⟨Nat.le_of_ble_eq_true rfl, Nat.le_of_ble_eq_true rfl⟩ rfl (Nat.le_of_ble_eq_true rfl) (ix_tb_at tb_X12_least 5 rfl) ⟨k_51.1, List.mem_singleton.mp k_51.2⟩ (c_X12_fail hKp h_50) rfl (pc1 := 14) rfl ?_
    exact ix_iret X hr hlk (ix_r2 (f := fun r => some (.int r)) (g := ix_w z) h) (ix_tb_at tb_X12_least 6 rfl)
def tab_X12_take : List (Nat × Instr × Nat) := [(0, .aload_n 0, 1), (1, .invokevirtual 593, 3), (4, .ifCond .ne 11, 3), (7, .aload_n 0, 1), (8, .sipush (-1002), 3), (11, .invokevirtual 242, 3), (14, .ireturn, 1), (15, .aload_n 0, 1), (16, .aload_n 0, 1), (17, .getfield 168, 3), (20, .iconst 0, 1), (21, .iaload, 1), (22, .putfield 605, 3), (25, .iconst 0, 1), (26, .istore_n 1, 1), (27, .iload_n 1, 1), (28, .aload_n 0, 1), (29, .getfield 605, 3), (32, .if_icmp .gt 21, 3), (35, .aload_n 0, 1), (36, .getfield 222, 3), (39, .iload_n 1, 1), (40, .aload_n 0, 1), (41, .getfield 162, 3), (44, .iload_n 1, 1), (45, .iaload, 1), (46, .iastore, 1), (47, .iinc 1 1, 3), (50, .goto (-23), 3), (53, .iconst 0, 1), (54, .istore_n 1, 1), (55, .iload_n 1, 1), (56, .aload_n 0, 1), (57, .getfield 222, 3), (60, .aload_n 0, 1), (61, .getfield 605, 3), (64, .iaload, 1), (65, .if_icmp .ge 21, 3), (68, .aload_n 0, 1), (69, .getfield 225, 3), (72, .iload_n 1, 1), (73, .aload_n 0, 1), (74, .getfield 165, 3), (77, .iload_n 1, 1), (78, .iaload, 1), (79, .iastore, 1), (80, .iinc 1 1, 3), (83, .goto (-28), 3), (86, .aload_n 0, 1), (87, .getfield 605, 3), (90, .ireturn, 1)]
theorem tb_X12_take : ix_tab cX12_take tab_X12_take := by
  unfold ix_tab
  decide +kernel
noncomputable def b_X12_take_55 (n : Nat) (z : ix_Z)  (a0 : Nat) (rec55 : Int32 → ix_D2 → Option (Int32 × ix_D2)) (x1 : Int32) (d : ix_D2) : Option (Int32 × ix_D2) :=
  ix_ck (ix_ok z [11] a0) (ix_bd1 (z.1 a0 109) (fun b_14 => ix_ck (ix_ix z 20 b_14 (d.1 a0 108)) (ix_if (d.1 b_14 (ix_n (d.1 a0 108)) ≤ x1) (some (d.1 a0 108, d)) (ix_bd1 (z.1 a0 110) (fun b_18 => ix_bd1 (z.1 a0 79) (fun b_20 => ix_ck (ix_ix z 20 b_20 x1) (ix_ck (ix_ix z 20 b_18 x1) (ix_lt (ix_di d b_18 (ix_n x1) (d.1 b_20 (ix_n x1))) (fun d_24 => ix_lt (x1 + 1) (fun x1_26 => rec55 x1_26 d_24))))))))))
noncomputable def f_X12_take_55 (n : Nat) (z : ix_Z)  (a0 : Nat) (x1 : Int32) (d : ix_D2) : Option (Int32 × ix_D2) := ix_fix (b_X12_take_55 n z  a0) (fun _ _ => none) n x1 d
noncomputable def b_X12_take_27 (n : Nat) (z : ix_Z)  (a0 : Nat) (rec27 : Int32 → ix_D2 → Option (Int32 × ix_D2)) (x1 : Int32) (d : ix_D2) : Option (Int32 × ix_D2) :=
  ix_ck (ix_ok z [11] a0) (ix_if (d.1 a0 108 < x1) (f_X12_take_55 n z  a0 0 d) (ix_bd1 (z.1 a0 109) (fun b_28 => ix_bd1 (z.1 a0 78) (fun b_30 => ix_ck (ix_ix z 20 b_30 x1) (ix_ck (ix_ix z 20 b_28 x1) (ix_lt (ix_di d b_28 (ix_n x1) (d.1 b_30 (ix_n x1))) (fun d_34 => ix_lt (x1 + 1) (fun x1_36 => rec27 x1_36 d_34))))))))
noncomputable def f_X12_take_27 (n : Nat) (z : ix_Z)  (a0 : Nat) (x1 : Int32) (d : ix_D2) : Option (Int32 × ix_D2) := ix_fix (b_X12_take_27 n z  a0) (fun _ _ => none) n x1 d
noncomputable def f_X12_take (n : Nat) (z : ix_Z) (a0 : Nat) (d : ix_D2) : Option (Int32 × ix_D2) :=
  ix_ck (ix_ok z [11] a0) (ix_bd2 (f_X12_hasCore n z a0 d) (fun r_4 d_1 => ix_if (r_4 = 0) (ix_bd2 (f_X12_fail n z a0 ((-1002)) d_1) (fun r_40 d_38 => some (r_40, d_38))) (ix_bd1 (z.1 a0 80) (fun b_6 => ix_ck (ix_ix z 20 b_6 0) (ix_lt (ix_di d_1 a0 108 (d_1.1 b_6 (ix_n 0))) (fun d_9 => f_X12_take_27 n z  a0 0 d_9))))))
set_option maxRecDepth 20000 in
theorem tb_X12_take_55 {l : Launch} {p : Program} {e : Env} {s : State} {m : MethodId} {args : Array Value} {below : List Frame} {meth : Method} {c : Code} {K : ix_Cx} (hKp : ix_Kp K) {n : Nat} {z : ix_Z} (X : ix_X p s m args c K cX12_take RX12 2) (hr : meth.sig.returnType = (some .int)) (hlk : meth.locks = false)  {a0 : Nat} {rec55 : Int32 → ix_D2 → Option (Int32 × ix_D2)} {r : Int32} {d1 : ix_D2} (hrec55 : ∀ (x1 : Int32) (d : ix_D2), rec55 x1 d = some (r, d1) → ix_G p l e (ix_rm 1 21 0 0) s m args below meth c (MQ below (ix_Post K (some (.int r)) (ix_w z d1)) args s 0 0 (ix_A K)) K 2 0 0 55 [(0, .ref (K.2.2.1 + a0)), (1, .int x1)] [] (ix_w z d)) {x1 : Int32} {d : ix_D2} (h : b_X12_take_55 n z  a0 rec55 x1 d = some (r, d1)) : ix_G p l e (ix_rm 1 21 0 0) s m args below meth c (MQ below (ix_Post K (some (.int r)) (ix_w z d1)) args s 0 0 (ix_A K)) K 2 0 0 55 [(0, .ref (K.2.2.1 + a0)), (1, .int x1)] [] (ix_w z d) := by
  unfold b_X12_take_55 at h
  refine ix_iload_n (i := 1) (j := 1) X (ix_tb_at tb_X12_take 31 rfl) rfl rfl (pc1 := 56) rfl ?_
  refine ix_aload_n (i := 0) (j := 0) X (ix_tb_at tb_X12_take 32 rfl) rfl rfl (pc1 := 57) rfl ?_
  obtain ⟨k_13, h⟩ := ix_ck_some h
  obtain ⟨b_14, q_15, h⟩ := ix_bd1_ex h
  refine iz_getR X fl_RX12_222 k_13 q_15 (ix_tb_at tb_X12_take 33 rfl) (pc1 := 60) rfl ?_
  refine ix_aload_n (i := 0) (j := 0) X (ix_tb_at tb_X12_take 34 rfl) rfl rfl (pc1 := 61) rfl ?_
  refine iz_getI X fl_RX12_605 k_13 (ix_tb_at tb_X12_take 35 rfl) (pc1 := 64) rfl ?_
  obtain ⟨k_16, h⟩ := ix_ck_some h
  refine iz_iald X k_16 (ix_tb_at tb_X12_take 36 rfl) (pc1 := 65) rfl ?_
  refine ix_icmp_ge (tgt := 86) X (ix_tb_at tb_X12_take 37 rfl) (by decide) (pc1 := 68) rfl (fun q_17 => ?_) (fun q_17 => ?_)
  · have h := ix_ift q_17 h
    refine ix_aload_n (i := 0) (j := 0) X (ix_tb_at tb_X12_take 48 rfl) rfl rfl (pc1 := 87) rfl ?_
    refine iz_getI X fl_RX12_605 k_13 (ix_tb_at tb_X12_take 49 rfl) (pc1 := 90) rfl ?_
    exact ix_iret X hr hlk (ix_r2 (f := fun r => some (.int r)) (g := ix_w z) h) (ix_tb_at tb_X12_take 50 rfl)
  · have h := ix_iff q_17 h
    refine ix_aload_n (i := 0) (j := 0) X (ix_tb_at tb_X12_take 38 rfl) rfl rfl (pc1 := 69) rfl ?_
    obtain ⟨b_18, q_19, h⟩ := ix_bd1_ex h
    refine iz_getR X fl_RX12_225 k_13 q_19 (ix_tb_at tb_X12_take 39 rfl) (pc1 := 72) rfl ?_
    refine ix_iload_n (i := 1) (j := 1) X (ix_tb_at tb_X12_take 40 rfl) rfl rfl (pc1 := 73) rfl ?_
    refine ix_aload_n (i := 0) (j := 0) X (ix_tb_at tb_X12_take 41 rfl) rfl rfl (pc1 := 74) rfl ?_
    obtain ⟨b_20, q_21, h⟩ := ix_bd1_ex h
    refine iz_getR X fl_RX12_165 k_13 q_21 (ix_tb_at tb_X12_take 42 rfl) (pc1 := 77) rfl ?_
    refine ix_iload_n (i := 1) (j := 1) X (ix_tb_at tb_X12_take 43 rfl) rfl rfl (pc1 := 78) rfl ?_
    obtain ⟨k_22, h⟩ := ix_ck_some h
    refine iz_iald X k_22 (ix_tb_at tb_X12_take 44 rfl) (pc1 := 79) rfl ?_
    obtain ⟨k_23, h⟩ := ix_ck_some h
    obtain ⟨d_24, e_25, h⟩ := ix_lt_ex h
    refine iz_iast X k_23 (ix_tb_at tb_X12_take 45 rfl) e_25 (pc1 := 80) rfl ?_
    obtain ⟨x1_26, e_27, h⟩ := ix_lt_ex h
    refine ix_iinc (i := 1) (j := 1) (v := x1_26) (L1 := [(1, .int x1_26), (0, .ref (K.2.2.1 + a0))]) X (ix_tb_at tb_X12_take 46 rfl) rfl (by rw [oi_1]; exact e_27.symm) (Nat.le_of_ble_eq_true rfl) rfl (pc1 := 83) rfl ?_
    refine ix_goto (tgt := 55) X (ix_tb_at tb_X12_take 47 rfl) (by decide) ?_
    refine ix_sub (L1 := [(0, .ref (K.2.2.1 + a0)), (1, .int x1_26)]) [1, 0] rfl ?_
    exact hrec55 x1_26 d_24 h
theorem t_X12_take_55 {l : Launch} {p : Program} {e : Env} {s : State} {m : MethodId} {args : Array Value} {below : List Frame} {meth : Method} {c : Code} {K : ix_Cx} (hKp : ix_Kp K) {n : Nat} {z : ix_Z} (X : ix_X p s m args c K cX12_take RX12 2) (hr : meth.sig.returnType = (some .int)) (hlk : meth.locks = false)  {a0 : Nat} {r : Int32} {d1 : ix_D2}  {x1 : Int32} {d : ix_D2} (h : f_X12_take_55 n z  a0 x1 d = some (r, d1)) : ix_G p l e (ix_rm 1 21 0 0) s m args below meth c (MQ below (ix_Post K (some (.int r)) (ix_w z d1)) args s 0 0 (ix_A K)) K 2 0 0 55 [(0, .ref (K.2.2.1 + a0)), (1, .int x1)] [] (ix_w z d) := by
  have key : ∀ (f : Nat) (x1 : Int32) (d : ix_D2), ix_fix (b_X12_take_55 n z  a0) (fun _ _ => none) f x1 d = some (r, d1) → ix_G p l e (ix_rm 1 21 0 0) s m args below meth c (MQ below (ix_Post K (some (.int r)) (ix_w z d1)) args s 0 0 (ix_A K)) K 2 0 0 55 [(0, .ref (K.2.2.1 + a0)), (1, .int x1)] [] (ix_w z d) := by
    intro f
    induction f with
    | zero =>
      intro x1 d h
      have h : (none : Option (Int32 × ix_D2)) = some (r, d1) := h
      cases h
    | succ f ih =>
      intro x1 d h
      exact tb_X12_take_55 hKp X hr hlk (rec55 := ix_fix (b_X12_take_55 n z  a0) (fun _ _ => none) f)  ih h
  exact key n x1 d h
set_option maxRecDepth 20000 in
theorem tb_X12_take_27 {l : Launch} {p : Program} {e : Env} {s : State} {m : MethodId} {args : Array Value} {below : List Frame} {meth : Method} {c : Code} {K : ix_Cx} (hKp : ix_Kp K) {n : Nat} {z : ix_Z} (X : ix_X p s m args c K cX12_take RX12 2) (hr : meth.sig.returnType = (some .int)) (hlk : meth.locks = false)  {a0 : Nat} {rec27 : Int32 → ix_D2 → Option (Int32 × ix_D2)} {r : Int32} {d1 : ix_D2} (hrec27 : ∀ (x1 : Int32) (d : ix_D2), rec27 x1 d = some (r, d1) → ix_G p l e (ix_rm 1 21 0 0) s m args below meth c (MQ below (ix_Post K (some (.int r)) (ix_w z d1)) args s 0 0 (ix_A K)) K 2 0 0 27 [(0, .ref (K.2.2.1 + a0)), (1, .int x1)] [] (ix_w z d)) {x1 : Int32} {d : ix_D2} (h : b_X12_take_27 n z  a0 rec27 x1 d = some (r, d1)) : ix_G p l e (ix_rm 1 21 0 0) s m args below meth c (MQ below (ix_Post K (some (.int r)) (ix_w z d1)) args s 0 0 (ix_A K)) K 2 0 0 27 [(0, .ref (K.2.2.1 + a0)), (1, .int x1)] [] (ix_w z d) := by
  unfold b_X12_take_27 at h
  refine ix_iload_n (i := 1) (j := 1) X (ix_tb_at tb_X12_take 15 rfl) rfl rfl (pc1 := 28) rfl ?_
  refine ix_aload_n (i := 0) (j := 0) X (ix_tb_at tb_X12_take 16 rfl) rfl rfl (pc1 := 29) rfl ?_
  obtain ⟨k_11, h⟩ := ix_ck_some h
  refine iz_getI X fl_RX12_605 k_11 (ix_tb_at tb_X12_take 17 rfl) (pc1 := 32) rfl ?_
  refine ix_icmp_gt (tgt := 53) X (ix_tb_at tb_X12_take 18 rfl) (by decide) (pc1 := 35) rfl (fun q_12 => ?_) (fun q_12 => ?_)
  · have h := ix_ift q_12 h
    refine ix_iconst (v := 0) X (ix_tb_at tb_X12_take 29 rfl) (by decide) (pc1 := 54) rfl ?_
    refine ix_istore_n (i := 1) (L1 := [(1, .int 0), (0, .ref (K.2.2.1 + a0))]) X (ix_tb_at tb_X12_take 30 rfl) rfl (Nat.le_of_ble_eq_true rfl) rfl (pc1 := 55) rfl ?_
    refine ix_sub (L1 := [(0, .ref (K.2.2.1 + a0)), (1, .int 0)]) [1, 0] rfl ?_
    exact t_X12_take_55 hKp X hr hlk  h
  · have h := ix_iff q_12 h
    refine ix_aload_n (i := 0) (j := 0) X (ix_tb_at tb_X12_take 19 rfl) rfl rfl (pc1 := 36) rfl ?_
    obtain ⟨b_28, q_29, h⟩ := ix_bd1_ex h
    refine iz_getR X fl_RX12_222 k_11 q_29 (ix_tb_at tb_X12_take 20 rfl) (pc1 := 39) rfl ?_
    refine ix_iload_n (i := 1) (j := 1) X (ix_tb_at tb_X12_take 21 rfl) rfl rfl (pc1 := 40) rfl ?_
    refine ix_aload_n (i := 0) (j := 0) X (ix_tb_at tb_X12_take 22 rfl) rfl rfl (pc1 := 41) rfl ?_
    obtain ⟨b_30, q_31, h⟩ := ix_bd1_ex h
    refine iz_getR X fl_RX12_162 k_11 q_31 (ix_tb_at tb_X12_take 23 rfl) (pc1 := 44) rfl ?_
    refine ix_iload_n (i := 1) (j := 1) X (ix_tb_at tb_X12_take 24 rfl) rfl rfl (pc1 := 45) rfl ?_
    obtain ⟨k_32, h⟩ := ix_ck_some h
    refine iz_iald X k_32 (ix_tb_at tb_X12_take 25 rfl) (pc1 := 46) rfl ?_
    obtain ⟨k_33, h⟩ := ix_ck_some h
    obtain ⟨d_34, e_35, h⟩ := ix_lt_ex h
    refine iz_iast X k_33 (ix_tb_at tb_X12_take 26 rfl) e_35 (pc1 := 47) rfl ?_
    obtain ⟨x1_36, e_37, h⟩ := ix_lt_ex h
    refine ix_iinc (i := 1) (j := 1) (v := x1_36) (L1 := [(1, .int x1_36), (0, .ref (K.2.2.1 + a0))]) X (ix_tb_at tb_X12_take 27 rfl) rfl (by rw [oi_1]; exact e_37.symm) (Nat.le_of_ble_eq_true rfl) rfl (pc1 := 50) rfl ?_
    refine ix_goto (tgt := 27) X (ix_tb_at tb_X12_take 28 rfl) (by decide) ?_
    refine ix_sub (L1 := [(0, .ref (K.2.2.1 + a0)), (1, .int x1_36)]) [1, 0] rfl ?_
    exact hrec27 x1_36 d_34 h
theorem t_X12_take_27 {l : Launch} {p : Program} {e : Env} {s : State} {m : MethodId} {args : Array Value} {below : List Frame} {meth : Method} {c : Code} {K : ix_Cx} (hKp : ix_Kp K) {n : Nat} {z : ix_Z} (X : ix_X p s m args c K cX12_take RX12 2) (hr : meth.sig.returnType = (some .int)) (hlk : meth.locks = false)  {a0 : Nat} {r : Int32} {d1 : ix_D2}  {x1 : Int32} {d : ix_D2} (h : f_X12_take_27 n z  a0 x1 d = some (r, d1)) : ix_G p l e (ix_rm 1 21 0 0) s m args below meth c (MQ below (ix_Post K (some (.int r)) (ix_w z d1)) args s 0 0 (ix_A K)) K 2 0 0 27 [(0, .ref (K.2.2.1 + a0)), (1, .int x1)] [] (ix_w z d) := by
  have key : ∀ (f : Nat) (x1 : Int32) (d : ix_D2), ix_fix (b_X12_take_27 n z  a0) (fun _ _ => none) f x1 d = some (r, d1) → ix_G p l e (ix_rm 1 21 0 0) s m args below meth c (MQ below (ix_Post K (some (.int r)) (ix_w z d1)) args s 0 0 (ix_A K)) K 2 0 0 27 [(0, .ref (K.2.2.1 + a0)), (1, .int x1)] [] (ix_w z d) := by
    intro f
    induction f with
    | zero =>
      intro x1 d h
      have h : (none : Option (Int32 × ix_D2)) = some (r, d1) := h
      cases h
    | succ f ih =>
      intro x1 d h
      exact tb_X12_take_27 hKp X hr hlk (rec27 := ix_fix (b_X12_take_27 n z  a0) (fun _ _ => none) f)  ih h
  exact key n x1 d h
set_option maxRecDepth 20000 in
theorem c_X12_take {l : Launch} {K : ix_Cx} (hKp : ix_Kp K) {n : Nat} {z : ix_Z} {a0 : Nat} {d : ix_D2} {r : Int32} {d1 : ix_D2} (h : f_X12_take n z a0 d = some (r, d1)) : ix_M l K yX12_take cX12_take 2 (some .int) 1 21 0 0 [.ref (K.2.2.1 + a0)] (ix_w z d) (some (.int r)) (ix_w z d1) := by
  refine ix_met mf_X12_take hKp (Nat.le_of_ble_eq_true rfl) ?_
  intro p e s m args below meth c hr hlk hnm X
  have X : ix_X p s m args c K cX12_take RX12 2 := X
  show ix_G p l e (ix_rm 1 21 0 0) s m args below meth c (MQ below (ix_Post K (some (.int r)) (ix_w z d1)) args s 0 0 (ix_A K)) K 2 0 0 0 [(0, .ref (K.2.2.1 + a0))] [] (ix_w z d)
  unfold f_X12_take at h
  refine ix_aload_n (i := 0) (j := 0) X (ix_tb_at tb_X12_take 0 rfl) rfl rfl (pc1 := 1) rfl ?_
  obtain ⟨k_3, h⟩ := ix_ck_some h
  obtain ⟨r_4, d_1, h_2, h⟩ := ix_bd2_ex h
  refine ix_callV (As := []) (rest := []) (ci := 11) (T := TX12) (nf := 116) X mf_X12_hasCore mi_X12_hasCore ms_X12_hasCore rfl (Nat.le_of_ble_eq_true rfl) ml_RX12_593 ⟨Nat.le_of_ble_eq_true rfl, Nat.le_of_ble_eq_true rfl⟩ ⟨Nat.le_of_ble_eq_true rfl, Nat.le_of_ble_eq_true rfl⟩ rfl (Nat.le_of_ble_eq_true rfl) (ix_tb_at tb_X12_take 1 rfl) ⟨k_3.1, List.mem_singleton.mp k_3.2⟩ (c_X12_hasCore hKp h_2) rfl (pc1 := 4) rfl ?_
  refine ix_if_ne (tgt := 15) X (ix_tb_at tb_X12_take 2 rfl) (by decide) (pc1 := 7) rfl (fun q_5 => ?_) (fun q_5 => ?_)
  · have h := ix_iff q_5 h
    refine ix_aload_n (i := 0) (j := 0) X (ix_tb_at tb_X12_take 7 rfl) rfl rfl (pc1 := 16) rfl ?_
    refine ix_aload_n (i := 0) (j := 0) X (ix_tb_at tb_X12_take 8 rfl) rfl rfl (pc1 := 17) rfl ?_
    obtain ⟨b_6, q_7, h⟩ := ix_bd1_ex h
    refine iz_getR X fl_RX12_168 k_3 q_7 (ix_tb_at tb_X12_take 9 rfl) (pc1 := 20) rfl ?_
    refine ix_iconst (v := 0) X (ix_tb_at tb_X12_take 10 rfl) (by decide) (pc1 := 21) rfl ?_
    obtain ⟨k_8, h⟩ := ix_ck_some h
    refine iz_iald X k_8 (ix_tb_at tb_X12_take 11 rfl) (pc1 := 22) rfl ?_
    obtain ⟨d_9, e_10, h⟩ := ix_lt_ex h
    refine iz_putI X fp_RX12_605 k_3 (ix_tb_at tb_X12_take 12 rfl) e_10 (pc1 := 25) rfl ?_
    refine ix_iconst (v := 0) X (ix_tb_at tb_X12_take 13 rfl) (by decide) (pc1 := 26) rfl ?_
    refine ix_istore_n (i := 1) (L1 := [(1, .int 0), (0, .ref (K.2.2.1 + a0))]) X (ix_tb_at tb_X12_take 14 rfl) rfl (Nat.le_of_ble_eq_true rfl) rfl (pc1 := 27) rfl ?_
    refine ix_sub (L1 := [(0, .ref (K.2.2.1 + a0)), (1, .int 0)]) [1, 0] rfl ?_
    exact t_X12_take_27 hKp X hr hlk  h
  · have h := ix_ift q_5 h
    refine ix_aload_n (i := 0) (j := 0) X (ix_tb_at tb_X12_take 3 rfl) rfl rfl (pc1 := 8) rfl ?_
    refine ix_sipush (v := (-1002)) X (ix_tb_at tb_X12_take 4 rfl) (by decide) (pc1 := 11) rfl ?_
    obtain ⟨r_40, d_38, h_39, h⟩ := ix_bd2_ex h
    refine ix_callV (As := [.int ((-1002))]) (rest := []) (ci := 11) (T := TX12) (nf := 116) X mf_X12_fail mi_X12_fail ms_X12_fail rfl (Nat.le_of_ble_eq_true rfl) ml_RX12_242 ⟨Nat.le_of_ble_eq_true rfl, Nat.le_of_ble_eq_true rfl⟩ ⟨Nat.le_of_ble_eq_true rfl, Nat.le_of_ble_eq_true rfl⟩ rfl (Nat.le_of_ble_eq_true rfl) (ix_tb_at tb_X12_take 5 rfl) ⟨k_3.1, List.mem_singleton.mp k_3.2⟩ (c_X12_fail hKp h_39) rfl (pc1 := 14) rfl ?_
    exact ix_iret X hr hlk (ix_r2 (f := fun r => some (.int r)) (g := ix_w z) h) (ix_tb_at tb_X12_take 6 rfl)
def tab_X12_claim : List (Nat × Instr × Nat) := [(0, .iload_n 1, 1), (1, .invokestatic 253, 3), (4, .ifCond .ne 11, 3), (7, .aload_n 0, 1), (8, .sipush (-1001), 3), (11, .invokevirtual 242, 3), (14, .ireturn, 1), (15, .aload_n 0, 1), (16, .iload_n 1, 1), (17, .invokevirtual 310, 3), (20, .istore_n 2, 1), (21, .iload_n 2, 1), (22, .ifCond .ge 9, 3), (25, .aload_n 0, 1), (26, .iload_n 2, 1), (27, .invokevirtual 242, 3), (30, .ireturn, 1), (31, .aload_n 0, 1), (32, .iconst 0, 1), (33, .putfield 279, 3), (36, .iconst 0, 1), (37, .istore_n 3, 1), (38, .iload_n 3, 1), (39, .aload_n 0, 1), (40, .getfield 292, 3), (43, .if_icmp .ge 19, 3), (46, .aload_n 0, 1), (47, .aload_n 0, 1), (48, .getfield 86, 3), (51, .iload_n 3, 1), (52, .iaload, 1), (53, .invokevirtual 282, 3), (56, .iinc 3 1, 3), (59, .goto (-21), 3), (62, .aload_n 0, 1), (63, .getfield 279, 3), (66, .istore_n 3, 1), (67, .aload_n 0, 1), (68, .iconst 0, 1), (69, .putfield 279, 3), (72, .aload_n 0, 1), (73, .getfield 605, 3), (76, .sipush 800, 3), (79, .if_icmp .eq 20, 3), (82, .aload_n 0, 1), (83, .getfield 222, 3), (86, .aload_n 0, 1), (87, .getfield 605, 3), (90, .iaload, 1), (91, .iload_n 3, 1), (92, .iadd, 1), (93, .sipush 8000, 3), (96, .if_icmp .le 11, 3), (99, .aload_n 0, 1), (100, .sipush (-1003), 3), (103, .invokevirtual 242, 3), (106, .ireturn, 1), (107, .iconst 0, 1), (108, .istore 4, 2), (110, .iload 4, 2), (112, .iload_n 3, 1), (113, .if_icmp .ge 33, 3), (116, .aload_n 0, 1), (117, .getfield 225, 3), (120, .aload_n 0, 1), (121, .getfield 222, 3), (124, .aload_n 0, 1), (125, .getfield 605, 3), (128, .iaload, 1), (129, .iload 4, 2), (131, .iadd, 1), (132, .aload_n 0, 1), (133, .getfield 83, 3), (136, .iload 4, 2), (138, .iaload, 1), (139, .iastore, 1), (140, .iinc 4 1, 3), (143, .goto (-33), 3), (146, .aload_n 0, 1), (147, .getfield 222, 3), (150, .aload_n 0, 1), (151, .getfield 605, 3), (154, .iconst 1, 1), (155, .iadd, 1), (156, .aload_n 0, 1), (157, .getfield 222, 3), (160, .aload_n 0, 1), (161, .getfield 605, 3), (164, .iaload, 1), (165, .iload_n 3, 1), (166, .iadd, 1), (167, .iastore, 1), (168, .aload_n 0, 1), (169, .dup, 1), (170, .getfield 605, 3), (173, .iconst 1, 1), (174, .iadd, 1), (175, .putfield 605, 3), (178, .aload_n 0, 1), (179, .getfield 605, 3), (182, .ireturn, 1)]
theorem tb_X12_claim : ix_tab cX12_claim tab_X12_claim := by
  unfold ix_tab
  decide +kernel
noncomputable def f_X12_claim_99 (n : Nat) (z : ix_Z)  (a0 : Nat) (d : ix_D2) : Option (Int32 × ix_D2) :=
  ix_ck (ix_ok z [11] a0) (ix_bd2 (f_X12_fail n z a0 ((-1003)) d) (fun r_22 d_19 => some (r_22, d_19)))
noncomputable def b_X12_claim_110 (n : Nat) (z : ix_Z)  (a0 : Nat) (x3 : Int32) (rec110 : Int32 → ix_D2 → Option (Int32 × ix_D2)) (x4 : Int32) (d : ix_D2) : Option (Int32 × ix_D2) :=
  ix_if (x3 ≤ x4) (ix_ck (ix_ok z [11] a0) (ix_bd1 (z.1 a0 109) (fun b_29 => ix_ck (ix_ix z 20 b_29 (d.1 a0 108)) (ix_ck (ix_ix z 20 b_29 ((d.1 a0 108) + 1)) (ix_lt (ix_di d b_29 (ix_n ((d.1 a0 108) + 1)) ((d.1 b_29 (ix_n (d.1 a0 108))) + x3)) (fun d_33 => ix_lt (ix_di d_33 a0 108 ((d_33.1 a0 108) + 1)) (fun d_35 => some (d_35.1 a0 108, d_35)))))))) (ix_ck (ix_ok z [11] a0) (ix_bd1 (z.1 a0 110) (fun b_38 => ix_bd1 (z.1 a0 109) (fun b_40 => ix_ck (ix_ix z 20 b_40 (d.1 a0 108)) (ix_bd1 (z.1 a0 39) (fun b_43 => ix_ck (ix_ix z 20 b_43 x4) (ix_ck (ix_ix z 20 b_38 ((d.1 b_40 (ix_n (d.1 a0 108))) + x4)) (ix_lt (ix_di d b_38 (ix_n ((d.1 b_40 (ix_n (d.1 a0 108))) + x4)) (d.1 b_43 (ix_n x4))) (fun d_47 => ix_lt (x4 + 1) (fun x4_49 => rec110 x4_49 d_47))))))))))
noncomputable def f_X12_claim_110 (n : Nat) (z : ix_Z)  (a0 : Nat) (x3 : Int32) (x4 : Int32) (d : ix_D2) : Option (Int32 × ix_D2) := ix_fix (b_X12_claim_110 n z  a0 x3) (fun _ _ => none) n x4 d
noncomputable def b_X12_claim_38 (n : Nat) (z : ix_Z)  (a0 : Nat) (rec38 : Int32 → ix_D2 → Option (Int32 × ix_D2)) (x3 : Int32) (d : ix_D2) : Option (Int32 × ix_D2) :=
  ix_ck (ix_ok z [11] a0) (ix_if (d.1 a0 42 ≤ x3) (ix_lt (d.1 a0 40) (fun x3_14 => ix_lt (ix_di d a0 40 0) (fun d_16 => ix_if (d_16.1 a0 108 = 800) (f_X12_claim_99 n z  a0 d_16) (ix_bd1 (z.1 a0 109) (fun b_23 => ix_ck (ix_ix z 20 b_23 (d_16.1 a0 108)) (ix_if ((d_16.1 b_23 (ix_n (d_16.1 a0 108))) + x3_14 ≤ 8000) (f_X12_claim_110 n z  a0 x3_14 0 d_16) (f_X12_claim_99 n z  a0 d_16))))))) (ix_bd1 (z.1 a0 41) (fun b_51 => ix_ck (ix_ix z 20 b_51 x3) (ix_bd1 (f_X12_lay n z a0 (d.1 b_51 (ix_n x3)) d) (fun d_54 => ix_lt (x3 + 1) (fun x3_56 => rec38 x3_56 d_54))))))
noncomputable def f_X12_claim_38 (n : Nat) (z : ix_Z)  (a0 : Nat) (x3 : Int32) (d : ix_D2) : Option (Int32 × ix_D2) := ix_fix (b_X12_claim_38 n z  a0) (fun _ _ => none) n x3 d
noncomputable def f_X12_claim (n : Nat) (z : ix_Z) (a0 : Nat) (x1 : Int32) (d : ix_D2) : Option (Int32 × ix_D2) :=
  ix_bd2 (f_X12_isRow n z x1 d) (fun r_3 d_1 => ix_if (r_3 = 0) (ix_ck (ix_ok z [11] a0) (ix_bd2 (f_X12_fail n z a0 ((-1001)) d_1) (fun r_64 d_61 => some (r_64, d_61)))) (ix_ck (ix_ok z [11] a0) (ix_bd2 (f_X12_takeItems n z a0 x1 d_1) (fun r_8 d_5 => ix_if (0 ≤ r_8) (ix_lt (ix_di d_5 a0 40 0) (fun d_10 => f_X12_claim_38 n z  a0 0 d_10)) (ix_bd2 (f_X12_fail n z a0 r_8 d_5) (fun r_60 d_58 => some (r_60, d_58)))))))
set_option maxRecDepth 20000 in
theorem t_X12_claim_99 {l : Launch} {p : Program} {e : Env} {s : State} {m : MethodId} {args : Array Value} {below : List Frame} {meth : Method} {c : Code} {K : ix_Cx} (hKp : ix_Kp K) {n : Nat} {z : ix_Z} (X : ix_X p s m args c K cX12_claim RX12 5) (hr : meth.sig.returnType = (some .int)) (hlk : meth.locks = false)  {a0 : Nat} {r : Int32} {d1 : ix_D2}  {d : ix_D2} (h : f_X12_claim_99 n z  a0 d = some (r, d1)) : ix_G p l e (ix_rm 3 64 0 0) s m args below meth c (MQ below (ix_Post K (some (.int r)) (ix_w z d1)) args s 0 0 (ix_A K)) K 5 0 0 99 [(0, .ref (K.2.2.1 + a0))] [] (ix_w z d) := by
  unfold f_X12_claim_99 at h
  refine ix_aload_n (i := 0) (j := 0) X (ix_tb_at tb_X12_claim 53 rfl) rfl rfl (pc1 := 100) rfl ?_
  refine ix_sipush (v := (-1003)) X (ix_tb_at tb_X12_claim 54 rfl) (by decide) (pc1 := 103) rfl ?_
  obtain ⟨k_21, h⟩ := ix_ck_some h
  obtain ⟨r_22, d_19, h_20, h⟩ := ix_bd2_ex h
  refine ix_callV (As := [.int ((-1003))]) (rest := []) (ci := 11) (T := TX12) (nf := 116) X mf_X12_fail mi_X12_fail ms_X12_fail rfl (Nat.le_of_ble_eq_true rfl) ml_RX12_242 ⟨Nat.le_of_ble_eq_true rfl, Nat.le_of_ble_eq_true rfl⟩ ⟨Nat.le_of_ble_eq_true rfl, Nat.le_of_ble_eq_true rfl⟩ rfl (Nat.le_of_ble_eq_true rfl) (ix_tb_at tb_X12_claim 55 rfl) ⟨k_21.1, List.mem_singleton.mp k_21.2⟩ (c_X12_fail hKp h_20) rfl (pc1 := 106) rfl ?_
  exact ix_iret X hr hlk (ix_r2 (f := fun r => some (.int r)) (g := ix_w z) h) (ix_tb_at tb_X12_claim 56 rfl)
set_option maxRecDepth 20000 in
theorem tb_X12_claim_110 {l : Launch} {p : Program} {e : Env} {s : State} {m : MethodId} {args : Array Value} {below : List Frame} {meth : Method} {c : Code} {K : ix_Cx} (hKp : ix_Kp K) {n : Nat} {z : ix_Z} (X : ix_X p s m args c K cX12_claim RX12 5) (hr : meth.sig.returnType = (some .int)) (hlk : meth.locks = false)  {a0 : Nat} {x3 : Int32} {rec110 : Int32 → ix_D2 → Option (Int32 × ix_D2)} {r : Int32} {d1 : ix_D2} (hrec110 : ∀ (x4 : Int32) (d : ix_D2), rec110 x4 d = some (r, d1) → ix_G p l e (ix_rm 3 64 0 0) s m args below meth c (MQ below (ix_Post K (some (.int r)) (ix_w z d1)) args s 0 0 (ix_A K)) K 5 0 0 110 [(0, .ref (K.2.2.1 + a0)), (3, .int x3), (4, .int x4)] [] (ix_w z d)) {x4 : Int32} {d : ix_D2} (h : b_X12_claim_110 n z  a0 x3 rec110 x4 d = some (r, d1)) : ix_G p l e (ix_rm 3 64 0 0) s m args below meth c (MQ below (ix_Post K (some (.int r)) (ix_w z d1)) args s 0 0 (ix_A K)) K 5 0 0 110 [(0, .ref (K.2.2.1 + a0)), (3, .int x3), (4, .int x4)] [] (ix_w z d) := by
  unfold b_X12_claim_110 at h
  refine ix_iload (i := 4) (j := 2) X (ix_tb_at tb_X12_claim 59 rfl) rfl (pc1 := 112) rfl ?_
  refine ix_iload_n (i := 3) (j := 1) X (ix_tb_at tb_X12_claim 60 rfl) rfl rfl (pc1 := 113) rfl ?_
  refine ix_icmp_ge (tgt := 146) X (ix_tb_at tb_X12_claim 61 rfl) (by decide) (pc1 := 116) rfl (fun q_27 => ?_) (fun q_27 => ?_)
  · have h := ix_ift q_27 h
    refine ix_aload_n (i := 0) (j := 0) X (ix_tb_at tb_X12_claim 78 rfl) rfl rfl (pc1 := 147) rfl ?_
    obtain ⟨k_28, h⟩ := ix_ck_some h
    obtain ⟨b_29, q_30, h⟩ := ix_bd1_ex h
    refine iz_getR X fl_RX12_222 k_28 q_30 (ix_tb_at tb_X12_claim 79 rfl) (pc1 := 150) rfl ?_
    refine ix_aload_n (i := 0) (j := 0) X (ix_tb_at tb_X12_claim 80 rfl) rfl rfl (pc1 := 151) rfl ?_
    refine iz_getI X fl_RX12_605 k_28 (ix_tb_at tb_X12_claim 81 rfl) (pc1 := 154) rfl ?_
    refine ix_iconst (v := 1) X (ix_tb_at tb_X12_claim 82 rfl) (by decide) (pc1 := 155) rfl ?_
    refine ix_iadd X (ix_tb_at tb_X12_claim 83 rfl) (pc1 := 156) rfl ?_
    refine ix_aload_n (i := 0) (j := 0) X (ix_tb_at tb_X12_claim 84 rfl) rfl rfl (pc1 := 157) rfl ?_
    refine iz_getR X fl_RX12_222 k_28 q_30 (ix_tb_at tb_X12_claim 85 rfl) (pc1 := 160) rfl ?_
    refine ix_aload_n (i := 0) (j := 0) X (ix_tb_at tb_X12_claim 86 rfl) rfl rfl (pc1 := 161) rfl ?_
    refine iz_getI X fl_RX12_605 k_28 (ix_tb_at tb_X12_claim 87 rfl) (pc1 := 164) rfl ?_
    obtain ⟨k_31, h⟩ := ix_ck_some h
    refine iz_iald X k_31 (ix_tb_at tb_X12_claim 88 rfl) (pc1 := 165) rfl ?_
    refine ix_iload_n (i := 3) (j := 1) X (ix_tb_at tb_X12_claim 89 rfl) rfl rfl (pc1 := 166) rfl ?_
    refine ix_iadd X (ix_tb_at tb_X12_claim 90 rfl) (pc1 := 167) rfl ?_
    obtain ⟨k_32, h⟩ := ix_ck_some h
    obtain ⟨d_33, e_34, h⟩ := ix_lt_ex h
    refine iz_iast X k_32 (ix_tb_at tb_X12_claim 91 rfl) e_34 (pc1 := 168) rfl ?_
    refine ix_aload_n (i := 0) (j := 0) X (ix_tb_at tb_X12_claim 92 rfl) rfl rfl (pc1 := 169) rfl ?_
    refine ix_dup X (ix_tb_at tb_X12_claim 93 rfl) rfl (pc1 := 170) rfl ?_
    refine iz_getI X fl_RX12_605 k_28 (ix_tb_at tb_X12_claim 94 rfl) (pc1 := 173) rfl ?_
    refine ix_iconst (v := 1) X (ix_tb_at tb_X12_claim 95 rfl) (by decide) (pc1 := 174) rfl ?_
    refine ix_iadd X (ix_tb_at tb_X12_claim 96 rfl) (pc1 := 175) rfl ?_
    obtain ⟨d_35, e_36, h⟩ := ix_lt_ex h
    refine iz_putI X fp_RX12_605 k_28 (ix_tb_at tb_X12_claim 97 rfl) e_36 (pc1 := 178) rfl ?_
    refine ix_aload_n (i := 0) (j := 0) X (ix_tb_at tb_X12_claim 98 rfl) rfl rfl (pc1 := 179) rfl ?_
    refine iz_getI X fl_RX12_605 k_28 (ix_tb_at tb_X12_claim 99 rfl) (pc1 := 182) rfl ?_
    exact ix_iret X hr hlk (ix_r2 (f := fun r => some (.int r)) (g := ix_w z) h) (ix_tb_at tb_X12_claim 100 rfl)
  · have h := ix_iff q_27 h
    refine ix_aload_n (i := 0) (j := 0) X (ix_tb_at tb_X12_claim 62 rfl) rfl rfl (pc1 := 117) rfl ?_
    obtain ⟨k_37, h⟩ := ix_ck_some h
    obtain ⟨b_38, q_39, h⟩ := ix_bd1_ex h
    refine iz_getR X fl_RX12_225 k_37 q_39 (ix_tb_at tb_X12_claim 63 rfl) (pc1 := 120) rfl ?_
    refine ix_aload_n (i := 0) (j := 0) X (ix_tb_at tb_X12_claim 64 rfl) rfl rfl (pc1 := 121) rfl ?_
    obtain ⟨b_40, q_41, h⟩ := ix_bd1_ex h
    refine iz_getR X fl_RX12_222 k_37 q_41 (ix_tb_at tb_X12_claim 65 rfl) (pc1 := 124) rfl ?_
    refine ix_aload_n (i := 0) (j := 0) X (ix_tb_at tb_X12_claim 66 rfl) rfl rfl (pc1 := 125) rfl ?_
    refine iz_getI X fl_RX12_605 k_37 (ix_tb_at tb_X12_claim 67 rfl) (pc1 := 128) rfl ?_
    obtain ⟨k_42, h⟩ := ix_ck_some h
    refine iz_iald X k_42 (ix_tb_at tb_X12_claim 68 rfl) (pc1 := 129) rfl ?_
    refine ix_iload (i := 4) (j := 2) X (ix_tb_at tb_X12_claim 69 rfl) rfl (pc1 := 131) rfl ?_
    refine ix_iadd X (ix_tb_at tb_X12_claim 70 rfl) (pc1 := 132) rfl ?_
    refine ix_aload_n (i := 0) (j := 0) X (ix_tb_at tb_X12_claim 71 rfl) rfl rfl (pc1 := 133) rfl ?_
    obtain ⟨b_43, q_44, h⟩ := ix_bd1_ex h
    refine iz_getR X fl_RX12_83 k_37 q_44 (ix_tb_at tb_X12_claim 72 rfl) (pc1 := 136) rfl ?_
    refine ix_iload (i := 4) (j := 2) X (ix_tb_at tb_X12_claim 73 rfl) rfl (pc1 := 138) rfl ?_
    obtain ⟨k_45, h⟩ := ix_ck_some h
    refine iz_iald X k_45 (ix_tb_at tb_X12_claim 74 rfl) (pc1 := 139) rfl ?_
    obtain ⟨k_46, h⟩ := ix_ck_some h
    obtain ⟨d_47, e_48, h⟩ := ix_lt_ex h
    refine iz_iast X k_46 (ix_tb_at tb_X12_claim 75 rfl) e_48 (pc1 := 140) rfl ?_
    obtain ⟨x4_49, e_50, h⟩ := ix_lt_ex h
    refine ix_iinc (i := 4) (j := 2) (v := x4_49) (L1 := [(4, .int x4_49), (0, .ref (K.2.2.1 + a0)), (3, .int x3)]) X (ix_tb_at tb_X12_claim 76 rfl) rfl (by rw [oi_1]; exact e_50.symm) (Nat.le_of_ble_eq_true rfl) rfl (pc1 := 143) rfl ?_
    refine ix_goto (tgt := 110) X (ix_tb_at tb_X12_claim 77 rfl) (by decide) ?_
    refine ix_sub (L1 := [(0, .ref (K.2.2.1 + a0)), (3, .int x3), (4, .int x4_49)]) [1, 2, 0] rfl ?_
    exact hrec110 x4_49 d_47 h
theorem t_X12_claim_110 {l : Launch} {p : Program} {e : Env} {s : State} {m : MethodId} {args : Array Value} {below : List Frame} {meth : Method} {c : Code} {K : ix_Cx} (hKp : ix_Kp K) {n : Nat} {z : ix_Z} (X : ix_X p s m args c K cX12_claim RX12 5) (hr : meth.sig.returnType = (some .int)) (hlk : meth.locks = false)  {a0 : Nat} {x3 : Int32} {r : Int32} {d1 : ix_D2}  {x4 : Int32} {d : ix_D2} (h : f_X12_claim_110 n z  a0 x3 x4 d = some (r, d1)) : ix_G p l e (ix_rm 3 64 0 0) s m args below meth c (MQ below (ix_Post K (some (.int r)) (ix_w z d1)) args s 0 0 (ix_A K)) K 5 0 0 110 [(0, .ref (K.2.2.1 + a0)), (3, .int x3), (4, .int x4)] [] (ix_w z d) := by
  have key : ∀ (f : Nat) (x4 : Int32) (d : ix_D2), ix_fix (b_X12_claim_110 n z  a0 x3) (fun _ _ => none) f x4 d = some (r, d1) → ix_G p l e (ix_rm 3 64 0 0) s m args below meth c (MQ below (ix_Post K (some (.int r)) (ix_w z d1)) args s 0 0 (ix_A K)) K 5 0 0 110 [(0, .ref (K.2.2.1 + a0)), (3, .int x3), (4, .int x4)] [] (ix_w z d) := by
    intro f
    induction f with
    | zero =>
      intro x4 d h
      have h : (none : Option (Int32 × ix_D2)) = some (r, d1) := h
      cases h
    | succ f ih =>
      intro x4 d h
      exact tb_X12_claim_110 hKp X hr hlk (rec110 := ix_fix (b_X12_claim_110 n z  a0 x3) (fun _ _ => none) f)  ih h
  exact key n x4 d h
set_option maxRecDepth 20000 in
theorem tb_X12_claim_38 {l : Launch} {p : Program} {e : Env} {s : State} {m : MethodId} {args : Array Value} {below : List Frame} {meth : Method} {c : Code} {K : ix_Cx} (hKp : ix_Kp K) {n : Nat} {z : ix_Z} (X : ix_X p s m args c K cX12_claim RX12 5) (hr : meth.sig.returnType = (some .int)) (hlk : meth.locks = false)  {a0 : Nat} {rec38 : Int32 → ix_D2 → Option (Int32 × ix_D2)} {r : Int32} {d1 : ix_D2} (hrec38 : ∀ (x3 : Int32) (d : ix_D2), rec38 x3 d = some (r, d1) → ix_G p l e (ix_rm 3 64 0 0) s m args below meth c (MQ below (ix_Post K (some (.int r)) (ix_w z d1)) args s 0 0 (ix_A K)) K 5 0 0 38 [(0, .ref (K.2.2.1 + a0)), (3, .int x3)] [] (ix_w z d)) {x3 : Int32} {d : ix_D2} (h : b_X12_claim_38 n z  a0 rec38 x3 d = some (r, d1)) : ix_G p l e (ix_rm 3 64 0 0) s m args below meth c (MQ below (ix_Post K (some (.int r)) (ix_w z d1)) args s 0 0 (ix_A K)) K 5 0 0 38 [(0, .ref (K.2.2.1 + a0)), (3, .int x3)] [] (ix_w z d) := by
  unfold b_X12_claim_38 at h
  refine ix_iload_n (i := 3) (j := 1) X (ix_tb_at tb_X12_claim 22 rfl) rfl rfl (pc1 := 39) rfl ?_
  refine ix_aload_n (i := 0) (j := 0) X (ix_tb_at tb_X12_claim 23 rfl) rfl rfl (pc1 := 40) rfl ?_
  obtain ⟨k_12, h⟩ := ix_ck_some h
  refine iz_getI X fl_RX12_292 k_12 (ix_tb_at tb_X12_claim 24 rfl) (pc1 := 43) rfl ?_
  refine ix_icmp_ge (tgt := 62) X (ix_tb_at tb_X12_claim 25 rfl) (by decide) (pc1 := 46) rfl (fun q_13 => ?_) (fun q_13 => ?_)
  · have h := ix_ift q_13 h
    refine ix_aload_n (i := 0) (j := 0) X (ix_tb_at tb_X12_claim 34 rfl) rfl rfl (pc1 := 63) rfl ?_
    refine iz_getI X fl_RX12_279 k_12 (ix_tb_at tb_X12_claim 35 rfl) (pc1 := 66) rfl ?_
    obtain ⟨x3_14, e_15, h⟩ := ix_lt_ex h
    refine ix_nmi e_15 ?_
    refine ix_istore_n (i := 3) (L1 := [(3, .int x3_14), (0, .ref (K.2.2.1 + a0))]) X (ix_tb_at tb_X12_claim 36 rfl) rfl (Nat.le_of_ble_eq_true rfl) rfl (pc1 := 67) rfl ?_
    refine ix_aload_n (i := 0) (j := 1) X (ix_tb_at tb_X12_claim 37 rfl) rfl rfl (pc1 := 68) rfl ?_
    refine ix_iconst (v := 0) X (ix_tb_at tb_X12_claim 38 rfl) (by decide) (pc1 := 69) rfl ?_
    obtain ⟨d_16, e_17, h⟩ := ix_lt_ex h
    refine iz_putI X fp_RX12_279 k_12 (ix_tb_at tb_X12_claim 39 rfl) e_17 (pc1 := 72) rfl ?_
    refine ix_aload_n (i := 0) (j := 1) X (ix_tb_at tb_X12_claim 40 rfl) rfl rfl (pc1 := 73) rfl ?_
    refine iz_getI X fl_RX12_605 k_12 (ix_tb_at tb_X12_claim 41 rfl) (pc1 := 76) rfl ?_
    refine ix_sipush (v := 800) X (ix_tb_at tb_X12_claim 42 rfl) (by decide) (pc1 := 79) rfl ?_
    refine ix_icmp_eq (tgt := 99) X (ix_tb_at tb_X12_claim 43 rfl) (by decide) (pc1 := 82) rfl (fun q_18 => ?_) (fun q_18 => ?_)
    · have h := ix_ift q_18 h
      refine ix_sub (L1 := [(0, .ref (K.2.2.1 + a0))]) [1] rfl ?_
      exact t_X12_claim_99 hKp X hr hlk  h
    · have h := ix_iff q_18 h
      refine ix_aload_n (i := 0) (j := 1) X (ix_tb_at tb_X12_claim 44 rfl) rfl rfl (pc1 := 83) rfl ?_
      obtain ⟨b_23, q_24, h⟩ := ix_bd1_ex h
      refine iz_getR X fl_RX12_222 k_12 q_24 (ix_tb_at tb_X12_claim 45 rfl) (pc1 := 86) rfl ?_
      refine ix_aload_n (i := 0) (j := 1) X (ix_tb_at tb_X12_claim 46 rfl) rfl rfl (pc1 := 87) rfl ?_
      refine iz_getI X fl_RX12_605 k_12 (ix_tb_at tb_X12_claim 47 rfl) (pc1 := 90) rfl ?_
      obtain ⟨k_25, h⟩ := ix_ck_some h
      refine iz_iald X k_25 (ix_tb_at tb_X12_claim 48 rfl) (pc1 := 91) rfl ?_
      refine ix_iload_n (i := 3) (j := 0) X (ix_tb_at tb_X12_claim 49 rfl) rfl rfl (pc1 := 92) rfl ?_
      refine ix_iadd X (ix_tb_at tb_X12_claim 50 rfl) (pc1 := 93) rfl ?_
      refine ix_sipush (v := 8000) X (ix_tb_at tb_X12_claim 51 rfl) (by decide) (pc1 := 96) rfl ?_
      refine ix_icmp_le (tgt := 107) X (ix_tb_at tb_X12_claim 52 rfl) (by decide) (pc1 := 99) rfl (fun q_26 => ?_) (fun q_26 => ?_)
      · have h := ix_ift q_26 h
        refine ix_iconst (v := 0) X (ix_tb_at tb_X12_claim 57 rfl) (by decide) (pc1 := 108) rfl ?_
        refine ix_istore (i := 4) (L1 := [(4, .int 0), (3, .int x3_14), (0, .ref (K.2.2.1 + a0))]) X (ix_tb_at tb_X12_claim 58 rfl) (Nat.le_of_ble_eq_true rfl) rfl (pc1 := 110) rfl ?_
        refine ix_sub (L1 := [(0, .ref (K.2.2.1 + a0)), (3, .int x3_14), (4, .int 0)]) [2, 1, 0] rfl ?_
        exact t_X12_claim_110 hKp X hr hlk  h
      · have h := ix_iff q_26 h
        refine ix_sub (L1 := [(0, .ref (K.2.2.1 + a0))]) [1] rfl ?_
        exact t_X12_claim_99 hKp X hr hlk  h
  · have h := ix_iff q_13 h
    refine ix_aload_n (i := 0) (j := 0) X (ix_tb_at tb_X12_claim 26 rfl) rfl rfl (pc1 := 47) rfl ?_
    refine ix_aload_n (i := 0) (j := 0) X (ix_tb_at tb_X12_claim 27 rfl) rfl rfl (pc1 := 48) rfl ?_
    obtain ⟨b_51, q_52, h⟩ := ix_bd1_ex h
    refine iz_getR X fl_RX12_86 k_12 q_52 (ix_tb_at tb_X12_claim 28 rfl) (pc1 := 51) rfl ?_
    refine ix_iload_n (i := 3) (j := 1) X (ix_tb_at tb_X12_claim 29 rfl) rfl rfl (pc1 := 52) rfl ?_
    obtain ⟨k_53, h⟩ := ix_ck_some h
    refine iz_iald X k_53 (ix_tb_at tb_X12_claim 30 rfl) (pc1 := 53) rfl ?_
    obtain ⟨d_54, h_55, h⟩ := ix_bd1_ex h
    refine ix_callV (As := [.int (d.1 b_51 (ix_n x3))]) (rest := []) (ci := 11) (T := TX12) (nf := 116) X mf_X12_lay mi_X12_lay ms_X12_lay rfl (Nat.le_of_ble_eq_true rfl) ml_RX12_282 ⟨Nat.le_of_ble_eq_true rfl, Nat.le_of_ble_eq_true rfl⟩ ⟨Nat.le_of_ble_eq_true rfl, Nat.le_of_ble_eq_true rfl⟩ rfl (Nat.le_of_ble_eq_true rfl) (ix_tb_at tb_X12_claim 31 rfl) ⟨k_12.1, List.mem_singleton.mp k_12.2⟩ (c_X12_lay hKp h_55) rfl (pc1 := 56) rfl ?_
    obtain ⟨x3_56, e_57, h⟩ := ix_lt_ex h
    refine ix_iinc (i := 3) (j := 1) (v := x3_56) (L1 := [(3, .int x3_56), (0, .ref (K.2.2.1 + a0))]) X (ix_tb_at tb_X12_claim 32 rfl) rfl (by rw [oi_1]; exact e_57.symm) (Nat.le_of_ble_eq_true rfl) rfl (pc1 := 59) rfl ?_
    refine ix_goto (tgt := 38) X (ix_tb_at tb_X12_claim 33 rfl) (by decide) ?_
    refine ix_sub (L1 := [(0, .ref (K.2.2.1 + a0)), (3, .int x3_56)]) [1, 0] rfl ?_
    exact hrec38 x3_56 d_54 h
theorem t_X12_claim_38 {l : Launch} {p : Program} {e : Env} {s : State} {m : MethodId} {args : Array Value} {below : List Frame} {meth : Method} {c : Code} {K : ix_Cx} (hKp : ix_Kp K) {n : Nat} {z : ix_Z} (X : ix_X p s m args c K cX12_claim RX12 5) (hr : meth.sig.returnType = (some .int)) (hlk : meth.locks = false)  {a0 : Nat} {r : Int32} {d1 : ix_D2}  {x3 : Int32} {d : ix_D2} (h : f_X12_claim_38 n z  a0 x3 d = some (r, d1)) : ix_G p l e (ix_rm 3 64 0 0) s m args below meth c (MQ below (ix_Post K (some (.int r)) (ix_w z d1)) args s 0 0 (ix_A K)) K 5 0 0 38 [(0, .ref (K.2.2.1 + a0)), (3, .int x3)] [] (ix_w z d) := by
  have key : ∀ (f : Nat) (x3 : Int32) (d : ix_D2), ix_fix (b_X12_claim_38 n z  a0) (fun _ _ => none) f x3 d = some (r, d1) → ix_G p l e (ix_rm 3 64 0 0) s m args below meth c (MQ below (ix_Post K (some (.int r)) (ix_w z d1)) args s 0 0 (ix_A K)) K 5 0 0 38 [(0, .ref (K.2.2.1 + a0)), (3, .int x3)] [] (ix_w z d) := by
    intro f
    induction f with
    | zero =>
      intro x3 d h
      have h : (none : Option (Int32 × ix_D2)) = some (r, d1) := h
      cases h
    | succ f ih =>
      intro x3 d h
      exact tb_X12_claim_38 hKp X hr hlk (rec38 := ix_fix (b_X12_claim_38 n z  a0) (fun _ _ => none) f)  ih h
  exact key n x3 d h
set_option maxRecDepth 20000 in
theorem c_X12_claim {l : Launch} {K : ix_Cx} (hKp : ix_Kp K) {n : Nat} {z : ix_Z} {a0 : Nat} {x1 : Int32} {d : ix_D2} {r : Int32} {d1 : ix_D2} (h : f_X12_claim n z a0 x1 d = some (r, d1)) : ix_M l K yX12_claim cX12_claim 5 (some .int) 3 64 0 0 [.ref (K.2.2.1 + a0), .int x1] (ix_w z d) (some (.int r)) (ix_w z d1) := by
  refine ix_met mf_X12_claim hKp (Nat.le_of_ble_eq_true rfl) ?_
  intro p e s m args below meth c hr hlk hnm X
  have X : ix_X p s m args c K cX12_claim RX12 5 := X
  show ix_G p l e (ix_rm 3 64 0 0) s m args below meth c (MQ below (ix_Post K (some (.int r)) (ix_w z d1)) args s 0 0 (ix_A K)) K 5 0 0 0 [(0, .ref (K.2.2.1 + a0)), (1, .int x1)] [] (ix_w z d)
  unfold f_X12_claim at h
  refine ix_iload_n (i := 1) (j := 1) X (ix_tb_at tb_X12_claim 0 rfl) rfl rfl (pc1 := 1) rfl ?_
  obtain ⟨r_3, d_1, h_2, h⟩ := ix_bd2_ex h
  refine ix_callS (As := [.int x1]) (rest := []) X mf_X12_isRow st_X12_isRow ml_RX12_253 ⟨Nat.le_of_ble_eq_true rfl, Nat.le_of_ble_eq_true rfl⟩ ⟨Nat.le_of_ble_eq_true rfl, Nat.le_of_ble_eq_true rfl⟩ rfl (Nat.le_of_ble_eq_true rfl) (ix_tb_at tb_X12_claim 1 rfl) (c_X12_isRow hKp h_2) rfl (pc1 := 4) rfl ?_
  refine ix_if_ne (tgt := 15) X (ix_tb_at tb_X12_claim 2 rfl) (by decide) (pc1 := 7) rfl (fun q_4 => ?_) (fun q_4 => ?_)
  · have h := ix_iff q_4 h
    refine ix_aload_n (i := 0) (j := 0) X (ix_tb_at tb_X12_claim 7 rfl) rfl rfl (pc1 := 16) rfl ?_
    refine ix_iload_n (i := 1) (j := 1) X (ix_tb_at tb_X12_claim 8 rfl) rfl rfl (pc1 := 17) rfl ?_
    obtain ⟨k_7, h⟩ := ix_ck_some h
    obtain ⟨r_8, d_5, h_6, h⟩ := ix_bd2_ex h
    refine ix_callV (As := [.int x1]) (rest := []) (ci := 11) (T := TX12) (nf := 116) X mf_X12_takeItems mi_X12_takeItems ms_X12_takeItems rfl (Nat.le_of_ble_eq_true rfl) ml_RX12_310 ⟨Nat.le_of_ble_eq_true rfl, Nat.le_of_ble_eq_true rfl⟩ ⟨Nat.le_of_ble_eq_true rfl, Nat.le_of_ble_eq_true rfl⟩ rfl (Nat.le_of_ble_eq_true rfl) (ix_tb_at tb_X12_claim 9 rfl) ⟨k_7.1, List.mem_singleton.mp k_7.2⟩ (c_X12_takeItems hKp h_6) rfl (pc1 := 20) rfl ?_
    refine ix_istore_n (i := 2) (L1 := [(2, .int r_8), (0, .ref (K.2.2.1 + a0)), (1, .int x1)]) X (ix_tb_at tb_X12_claim 10 rfl) rfl (Nat.le_of_ble_eq_true rfl) rfl (pc1 := 21) rfl ?_
    refine ix_iload_n (i := 2) (j := 0) X (ix_tb_at tb_X12_claim 11 rfl) rfl rfl (pc1 := 22) rfl ?_
    refine ix_if_ge (tgt := 31) X (ix_tb_at tb_X12_claim 12 rfl) (by decide) (pc1 := 25) rfl (fun q_9 => ?_) (fun q_9 => ?_)
    · have h := ix_ift q_9 h
      refine ix_aload_n (i := 0) (j := 1) X (ix_tb_at tb_X12_claim 17 rfl) rfl rfl (pc1 := 32) rfl ?_
      refine ix_iconst (v := 0) X (ix_tb_at tb_X12_claim 18 rfl) (by decide) (pc1 := 33) rfl ?_
      obtain ⟨d_10, e_11, h⟩ := ix_lt_ex h
      refine iz_putI X fp_RX12_279 k_7 (ix_tb_at tb_X12_claim 19 rfl) e_11 (pc1 := 36) rfl ?_
      refine ix_iconst (v := 0) X (ix_tb_at tb_X12_claim 20 rfl) (by decide) (pc1 := 37) rfl ?_
      refine ix_istore_n (i := 3) (L1 := [(3, .int 0), (2, .int r_8), (0, .ref (K.2.2.1 + a0)), (1, .int x1)]) X (ix_tb_at tb_X12_claim 21 rfl) rfl (Nat.le_of_ble_eq_true rfl) rfl (pc1 := 38) rfl ?_
      refine ix_sub (L1 := [(0, .ref (K.2.2.1 + a0)), (3, .int 0)]) [2, 0] rfl ?_
      exact t_X12_claim_38 hKp X hr hlk  h
    · have h := ix_iff q_9 h
      refine ix_aload_n (i := 0) (j := 1) X (ix_tb_at tb_X12_claim 13 rfl) rfl rfl (pc1 := 26) rfl ?_
      refine ix_iload_n (i := 2) (j := 0) X (ix_tb_at tb_X12_claim 14 rfl) rfl rfl (pc1 := 27) rfl ?_
      obtain ⟨r_60, d_58, h_59, h⟩ := ix_bd2_ex h
      refine ix_callV (As := [.int r_8]) (rest := []) (ci := 11) (T := TX12) (nf := 116) X mf_X12_fail mi_X12_fail ms_X12_fail rfl (Nat.le_of_ble_eq_true rfl) ml_RX12_242 ⟨Nat.le_of_ble_eq_true rfl, Nat.le_of_ble_eq_true rfl⟩ ⟨Nat.le_of_ble_eq_true rfl, Nat.le_of_ble_eq_true rfl⟩ rfl (Nat.le_of_ble_eq_true rfl) (ix_tb_at tb_X12_claim 15 rfl) ⟨k_7.1, List.mem_singleton.mp k_7.2⟩ (c_X12_fail hKp h_59) rfl (pc1 := 30) rfl ?_
      exact ix_iret X hr hlk (ix_r2 (f := fun r => some (.int r)) (g := ix_w z) h) (ix_tb_at tb_X12_claim 16 rfl)
  · have h := ix_ift q_4 h
    refine ix_aload_n (i := 0) (j := 0) X (ix_tb_at tb_X12_claim 3 rfl) rfl rfl (pc1 := 8) rfl ?_
    refine ix_sipush (v := (-1001)) X (ix_tb_at tb_X12_claim 4 rfl) (by decide) (pc1 := 11) rfl ?_
    obtain ⟨k_63, h⟩ := ix_ck_some h
    obtain ⟨r_64, d_61, h_62, h⟩ := ix_bd2_ex h
    refine ix_callV (As := [.int ((-1001))]) (rest := []) (ci := 11) (T := TX12) (nf := 116) X mf_X12_fail mi_X12_fail ms_X12_fail rfl (Nat.le_of_ble_eq_true rfl) ml_RX12_242 ⟨Nat.le_of_ble_eq_true rfl, Nat.le_of_ble_eq_true rfl⟩ ⟨Nat.le_of_ble_eq_true rfl, Nat.le_of_ble_eq_true rfl⟩ rfl (Nat.le_of_ble_eq_true rfl) (ix_tb_at tb_X12_claim 5 rfl) ⟨k_63.1, List.mem_singleton.mp k_63.2⟩ (c_X12_fail hKp h_62) rfl (pc1 := 14) rfl ?_
    exact ix_iret X hr hlk (ix_r2 (f := fun r => some (.int r)) (g := ix_w z) h) (ix_tb_at tb_X12_claim 6 rfl)
def tab_X12_strike : List (Nat × Instr × Nat) := [(0, .iload_n 1, 1), (1, .iconst 0, 1), (2, .aload_n 0, 1), (3, .getfield 605, 3), (6, .iconst 1, 1), (7, .isub, 1), (8, .invokestatic 238, 3), (11, .ifCond .ne 7, 3), (14, .sipush (-1005), 3), (17, .ireturn, 1), (18, .aload_n 0, 1), (19, .getfield 222, 3), (22, .iload_n 1, 1), (23, .iconst 1, 1), (24, .iadd, 1), (25, .iaload, 1), (26, .aload_n 0, 1), (27, .getfield 222, 3), (30, .iload_n 1, 1), (31, .iaload, 1), (32, .isub, 1), (33, .istore_n 2, 1), (34, .aload_n 0, 1), (35, .getfield 222, 3), (38, .iload_n 1, 1), (39, .iaload, 1), (40, .istore_n 3, 1), (41, .iload_n 3, 1), (42, .aload_n 0, 1), (43, .getfield 222, 3), (46, .aload_n 0, 1), (47, .getfield 605, 3), (50, .iaload, 1), (51, .iload_n 2, 1), (52, .isub, 1), (53, .if_icmp .ge 23, 3), (56, .aload_n 0, 1), (57, .getfield 225, 3), (60, .iload_n 3, 1), (61, .aload_n 0, 1), (62, .getfield 225, 3), (65, .iload_n 3, 1), (66, .iload_n 2, 1), (67, .iadd, 1), (68, .iaload, 1), (69, .iastore, 1), (70, .iinc 3 1, 3), (73, .goto (-32), 3), (76, .iload_n 1, 1), (77, .istore_n 3, 1), (78, .iload_n 3, 1), (79, .aload_n 0, 1), (80, .getfield 605, 3), (83, .if_icmp .ge 25, 3), (86, .aload_n 0, 1), (87, .getfield 222, 3), (90, .iload_n 3, 1), (91, .aload_n 0, 1), (92, .getfield 222, 3), (95, .iload_n 3, 1), (96, .iconst 1, 1), (97, .iadd, 1), (98, .iaload, 1), (99, .iload_n 2, 1), (100, .isub, 1), (101, .iastore, 1), (102, .iinc 3 1, 3), (105, .goto (-27), 3), (108, .aload_n 0, 1), (109, .dup, 1), (110, .getfield 605, 3), (113, .iconst 1, 1), (114, .isub, 1), (115, .putfield 605, 3), (118, .iconst 1, 1), (119, .ireturn, 1)]
theorem tb_X12_strike : ix_tab cX12_strike tab_X12_strike := by
  unfold ix_tab
  decide +kernel
noncomputable def b_X12_strike_78 (n : Nat) (z : ix_Z)  (a0 : Nat) (x2 : Int32) (rec78 : Int32 → ix_D2 → Option (Int32 × ix_D2)) (x3 : Int32) (d : ix_D2) : Option (Int32 × ix_D2) :=
  ix_ck (ix_ok z [11] a0) (ix_if (d.1 a0 108 ≤ x3) (ix_lt (ix_di d a0 108 ((d.1 a0 108) - 1)) (fun d_21 => some (1, d_21))) (ix_bd1 (z.1 a0 109) (fun b_23 => ix_ck (ix_ix z 20 b_23 (x3 + 1)) (ix_ck (ix_ix z 20 b_23 x3) (ix_lt (ix_di d b_23 (ix_n x3) ((d.1 b_23 (ix_n (x3 + 1))) - x2)) (fun d_27 => ix_lt (x3 + 1) (fun x3_29 => rec78 x3_29 d_27)))))))
noncomputable def f_X12_strike_78 (n : Nat) (z : ix_Z)  (a0 : Nat) (x2 : Int32) (x3 : Int32) (d : ix_D2) : Option (Int32 × ix_D2) := ix_fix (b_X12_strike_78 n z  a0 x2) (fun _ _ => none) n x3 d
noncomputable def b_X12_strike_41 (n : Nat) (z : ix_Z)  (a0 : Nat) (x1 : Int32) (x2 : Int32) (rec41 : Int32 → ix_D2 → Option (Int32 × ix_D2)) (x3 : Int32) (d : ix_D2) : Option (Int32 × ix_D2) :=
  ix_ck (ix_ok z [11] a0) (ix_bd1 (z.1 a0 109) (fun b_15 => ix_ck (ix_ix z 20 b_15 (d.1 a0 108)) (ix_if ((d.1 b_15 (ix_n (d.1 a0 108))) - x2 ≤ x3) (f_X12_strike_78 n z  a0 x2 x1 d) (ix_bd1 (z.1 a0 110) (fun b_31 => ix_ck (ix_ix z 20 b_31 (x3 + x2)) (ix_ck (ix_ix z 20 b_31 x3) (ix_lt (ix_di d b_31 (ix_n x3) (d.1 b_31 (ix_n (x3 + x2)))) (fun d_35 => ix_lt (x3 + 1) (fun x3_37 => rec41 x3_37 d_35)))))))))
noncomputable def f_X12_strike_41 (n : Nat) (z : ix_Z)  (a0 : Nat) (x1 : Int32) (x2 : Int32) (x3 : Int32) (d : ix_D2) : Option (Int32 × ix_D2) := ix_fix (b_X12_strike_41 n z  a0 x1 x2) (fun _ _ => none) n x3 d
noncomputable def f_X12_strike (n : Nat) (z : ix_Z) (a0 : Nat) (x1 : Int32) (d : ix_D2) : Option (Int32 × ix_D2) :=
  ix_ck (ix_ok z [11] a0) (ix_bd2 (f_X12_in n z x1 0 ((d.1 a0 108) - 1) d) (fun r_4 d_2 => ix_if (r_4 = 0) (some ((-1005), d_2)) (ix_bd1 (z.1 a0 109) (fun b_6 => ix_ck (ix_ix z 20 b_6 (x1 + 1)) (ix_ck (ix_ix z 20 b_6 x1) (ix_lt ((d_2.1 b_6 (ix_n (x1 + 1))) - (d_2.1 b_6 (ix_n x1))) (fun x2_10 => ix_lt (d_2.1 b_6 (ix_n x1)) (fun x3_12 => f_X12_strike_41 n z  a0 x1 x2_10 x3_12 d_2))))))))
set_option maxRecDepth 20000 in
theorem tb_X12_strike_78 {l : Launch} {p : Program} {e : Env} {s : State} {m : MethodId} {args : Array Value} {below : List Frame} {meth : Method} {c : Code} {K : ix_Cx} (hKp : ix_Kp K) {n : Nat} {z : ix_Z} (X : ix_X p s m args c K cX12_strike RX12 4) (hr : meth.sig.returnType = (some .int)) (hlk : meth.locks = false)  {a0 : Nat} {x2 : Int32} {rec78 : Int32 → ix_D2 → Option (Int32 × ix_D2)} {r : Int32} {d1 : ix_D2} (hrec78 : ∀ (x3 : Int32) (d : ix_D2), rec78 x3 d = some (r, d1) → ix_G p l e (ix_rm 1 22 0 0) s m args below meth c (MQ below (ix_Post K (some (.int r)) (ix_w z d1)) args s 0 0 (ix_A K)) K 4 0 0 78 [(0, .ref (K.2.2.1 + a0)), (2, .int x2), (3, .int x3)] [] (ix_w z d)) {x3 : Int32} {d : ix_D2} (h : b_X12_strike_78 n z  a0 x2 rec78 x3 d = some (r, d1)) : ix_G p l e (ix_rm 1 22 0 0) s m args below meth c (MQ below (ix_Post K (some (.int r)) (ix_w z d1)) args s 0 0 (ix_A K)) K 4 0 0 78 [(0, .ref (K.2.2.1 + a0)), (2, .int x2), (3, .int x3)] [] (ix_w z d) := by
  unfold b_X12_strike_78 at h
  refine ix_iload_n (i := 3) (j := 2) X (ix_tb_at tb_X12_strike 50 rfl) rfl rfl (pc1 := 79) rfl ?_
  refine ix_aload_n (i := 0) (j := 0) X (ix_tb_at tb_X12_strike 51 rfl) rfl rfl (pc1 := 80) rfl ?_
  obtain ⟨k_19, h⟩ := ix_ck_some h
  refine iz_getI X fl_RX12_605 k_19 (ix_tb_at tb_X12_strike 52 rfl) (pc1 := 83) rfl ?_
  refine ix_icmp_ge (tgt := 108) X (ix_tb_at tb_X12_strike 53 rfl) (by decide) (pc1 := 86) rfl (fun q_20 => ?_) (fun q_20 => ?_)
  · have h := ix_ift q_20 h
    refine ix_aload_n (i := 0) (j := 0) X (ix_tb_at tb_X12_strike 68 rfl) rfl rfl (pc1 := 109) rfl ?_
    refine ix_dup X (ix_tb_at tb_X12_strike 69 rfl) rfl (pc1 := 110) rfl ?_
    refine iz_getI X fl_RX12_605 k_19 (ix_tb_at tb_X12_strike 70 rfl) (pc1 := 113) rfl ?_
    refine ix_iconst (v := 1) X (ix_tb_at tb_X12_strike 71 rfl) (by decide) (pc1 := 114) rfl ?_
    refine ix_isub X (ix_tb_at tb_X12_strike 72 rfl) (pc1 := 115) rfl ?_
    obtain ⟨d_21, e_22, h⟩ := ix_lt_ex h
    refine iz_putI X fp_RX12_605 k_19 (ix_tb_at tb_X12_strike 73 rfl) e_22 (pc1 := 118) rfl ?_
    refine ix_iconst (v := 1) X (ix_tb_at tb_X12_strike 74 rfl) (by decide) (pc1 := 119) rfl ?_
    exact ix_iret X hr hlk (ix_r2 (f := fun r => some (.int r)) (g := ix_w z) h) (ix_tb_at tb_X12_strike 75 rfl)
  · have h := ix_iff q_20 h
    refine ix_aload_n (i := 0) (j := 0) X (ix_tb_at tb_X12_strike 54 rfl) rfl rfl (pc1 := 87) rfl ?_
    obtain ⟨b_23, q_24, h⟩ := ix_bd1_ex h
    refine iz_getR X fl_RX12_222 k_19 q_24 (ix_tb_at tb_X12_strike 55 rfl) (pc1 := 90) rfl ?_
    refine ix_iload_n (i := 3) (j := 2) X (ix_tb_at tb_X12_strike 56 rfl) rfl rfl (pc1 := 91) rfl ?_
    refine ix_aload_n (i := 0) (j := 0) X (ix_tb_at tb_X12_strike 57 rfl) rfl rfl (pc1 := 92) rfl ?_
    refine iz_getR X fl_RX12_222 k_19 q_24 (ix_tb_at tb_X12_strike 58 rfl) (pc1 := 95) rfl ?_
    refine ix_iload_n (i := 3) (j := 2) X (ix_tb_at tb_X12_strike 59 rfl) rfl rfl (pc1 := 96) rfl ?_
    refine ix_iconst (v := 1) X (ix_tb_at tb_X12_strike 60 rfl) (by decide) (pc1 := 97) rfl ?_
    refine ix_iadd X (ix_tb_at tb_X12_strike 61 rfl) (pc1 := 98) rfl ?_
    obtain ⟨k_25, h⟩ := ix_ck_some h
    refine iz_iald X k_25 (ix_tb_at tb_X12_strike 62 rfl) (pc1 := 99) rfl ?_
    refine ix_iload_n (i := 2) (j := 1) X (ix_tb_at tb_X12_strike 63 rfl) rfl rfl (pc1 := 100) rfl ?_
    refine ix_isub X (ix_tb_at tb_X12_strike 64 rfl) (pc1 := 101) rfl ?_
    obtain ⟨k_26, h⟩ := ix_ck_some h
    obtain ⟨d_27, e_28, h⟩ := ix_lt_ex h
    refine iz_iast X k_26 (ix_tb_at tb_X12_strike 65 rfl) e_28 (pc1 := 102) rfl ?_
    obtain ⟨x3_29, e_30, h⟩ := ix_lt_ex h
    refine ix_iinc (i := 3) (j := 2) (v := x3_29) (L1 := [(3, .int x3_29), (0, .ref (K.2.2.1 + a0)), (2, .int x2)]) X (ix_tb_at tb_X12_strike 66 rfl) rfl (by rw [oi_1]; exact e_30.symm) (Nat.le_of_ble_eq_true rfl) rfl (pc1 := 105) rfl ?_
    refine ix_goto (tgt := 78) X (ix_tb_at tb_X12_strike 67 rfl) (by decide) ?_
    refine ix_sub (L1 := [(0, .ref (K.2.2.1 + a0)), (2, .int x2), (3, .int x3_29)]) [1, 2, 0] rfl ?_
    exact hrec78 x3_29 d_27 h
theorem t_X12_strike_78 {l : Launch} {p : Program} {e : Env} {s : State} {m : MethodId} {args : Array Value} {below : List Frame} {meth : Method} {c : Code} {K : ix_Cx} (hKp : ix_Kp K) {n : Nat} {z : ix_Z} (X : ix_X p s m args c K cX12_strike RX12 4) (hr : meth.sig.returnType = (some .int)) (hlk : meth.locks = false)  {a0 : Nat} {x2 : Int32} {r : Int32} {d1 : ix_D2}  {x3 : Int32} {d : ix_D2} (h : f_X12_strike_78 n z  a0 x2 x3 d = some (r, d1)) : ix_G p l e (ix_rm 1 22 0 0) s m args below meth c (MQ below (ix_Post K (some (.int r)) (ix_w z d1)) args s 0 0 (ix_A K)) K 4 0 0 78 [(0, .ref (K.2.2.1 + a0)), (2, .int x2), (3, .int x3)] [] (ix_w z d) := by
  have key : ∀ (f : Nat) (x3 : Int32) (d : ix_D2), ix_fix (b_X12_strike_78 n z  a0 x2) (fun _ _ => none) f x3 d = some (r, d1) → ix_G p l e (ix_rm 1 22 0 0) s m args below meth c (MQ below (ix_Post K (some (.int r)) (ix_w z d1)) args s 0 0 (ix_A K)) K 4 0 0 78 [(0, .ref (K.2.2.1 + a0)), (2, .int x2), (3, .int x3)] [] (ix_w z d) := by
    intro f
    induction f with
    | zero =>
      intro x3 d h
      have h : (none : Option (Int32 × ix_D2)) = some (r, d1) := h
      cases h
    | succ f ih =>
      intro x3 d h
      exact tb_X12_strike_78 hKp X hr hlk (rec78 := ix_fix (b_X12_strike_78 n z  a0 x2) (fun _ _ => none) f)  ih h
  exact key n x3 d h
set_option maxRecDepth 20000 in
theorem tb_X12_strike_41 {l : Launch} {p : Program} {e : Env} {s : State} {m : MethodId} {args : Array Value} {below : List Frame} {meth : Method} {c : Code} {K : ix_Cx} (hKp : ix_Kp K) {n : Nat} {z : ix_Z} (X : ix_X p s m args c K cX12_strike RX12 4) (hr : meth.sig.returnType = (some .int)) (hlk : meth.locks = false)  {a0 : Nat} {x1 : Int32} {x2 : Int32} {rec41 : Int32 → ix_D2 → Option (Int32 × ix_D2)} {r : Int32} {d1 : ix_D2} (hrec41 : ∀ (x3 : Int32) (d : ix_D2), rec41 x3 d = some (r, d1) → ix_G p l e (ix_rm 1 22 0 0) s m args below meth c (MQ below (ix_Post K (some (.int r)) (ix_w z d1)) args s 0 0 (ix_A K)) K 4 0 0 41 [(0, .ref (K.2.2.1 + a0)), (1, .int x1), (2, .int x2), (3, .int x3)] [] (ix_w z d)) {x3 : Int32} {d : ix_D2} (h : b_X12_strike_41 n z  a0 x1 x2 rec41 x3 d = some (r, d1)) : ix_G p l e (ix_rm 1 22 0 0) s m args below meth c (MQ below (ix_Post K (some (.int r)) (ix_w z d1)) args s 0 0 (ix_A K)) K 4 0 0 41 [(0, .ref (K.2.2.1 + a0)), (1, .int x1), (2, .int x2), (3, .int x3)] [] (ix_w z d) := by
  unfold b_X12_strike_41 at h
  refine ix_iload_n (i := 3) (j := 3) X (ix_tb_at tb_X12_strike 27 rfl) rfl rfl (pc1 := 42) rfl ?_
  refine ix_aload_n (i := 0) (j := 0) X (ix_tb_at tb_X12_strike 28 rfl) rfl rfl (pc1 := 43) rfl ?_
  obtain ⟨k_14, h⟩ := ix_ck_some h
  obtain ⟨b_15, q_16, h⟩ := ix_bd1_ex h
  refine iz_getR X fl_RX12_222 k_14 q_16 (ix_tb_at tb_X12_strike 29 rfl) (pc1 := 46) rfl ?_
  refine ix_aload_n (i := 0) (j := 0) X (ix_tb_at tb_X12_strike 30 rfl) rfl rfl (pc1 := 47) rfl ?_
  refine iz_getI X fl_RX12_605 k_14 (ix_tb_at tb_X12_strike 31 rfl) (pc1 := 50) rfl ?_
  obtain ⟨k_17, h⟩ := ix_ck_some h
  refine iz_iald X k_17 (ix_tb_at tb_X12_strike 32 rfl) (pc1 := 51) rfl ?_
  refine ix_iload_n (i := 2) (j := 2) X (ix_tb_at tb_X12_strike 33 rfl) rfl rfl (pc1 := 52) rfl ?_
  refine ix_isub X (ix_tb_at tb_X12_strike 34 rfl) (pc1 := 53) rfl ?_
  refine ix_icmp_ge (tgt := 76) X (ix_tb_at tb_X12_strike 35 rfl) (by decide) (pc1 := 56) rfl (fun q_18 => ?_) (fun q_18 => ?_)
  · have h := ix_ift q_18 h
    refine ix_iload_n (i := 1) (j := 1) X (ix_tb_at tb_X12_strike 48 rfl) rfl rfl (pc1 := 77) rfl ?_
    refine ix_istore_n (i := 3) (L1 := [(3, .int x1), (0, .ref (K.2.2.1 + a0)), (1, .int x1), (2, .int x2)]) X (ix_tb_at tb_X12_strike 49 rfl) rfl (Nat.le_of_ble_eq_true rfl) rfl (pc1 := 78) rfl ?_
    refine ix_sub (L1 := [(0, .ref (K.2.2.1 + a0)), (2, .int x2), (3, .int x1)]) [1, 3, 0] rfl ?_
    exact t_X12_strike_78 hKp X hr hlk  h
  · have h := ix_iff q_18 h
    refine ix_aload_n (i := 0) (j := 0) X (ix_tb_at tb_X12_strike 36 rfl) rfl rfl (pc1 := 57) rfl ?_
    obtain ⟨b_31, q_32, h⟩ := ix_bd1_ex h
    refine iz_getR X fl_RX12_225 k_14 q_32 (ix_tb_at tb_X12_strike 37 rfl) (pc1 := 60) rfl ?_
    refine ix_iload_n (i := 3) (j := 3) X (ix_tb_at tb_X12_strike 38 rfl) rfl rfl (pc1 := 61) rfl ?_
    refine ix_aload_n (i := 0) (j := 0) X (ix_tb_at tb_X12_strike 39 rfl) rfl rfl (pc1 := 62) rfl ?_
    refine iz_getR X fl_RX12_225 k_14 q_32 (ix_tb_at tb_X12_strike 40 rfl) (pc1 := 65) rfl ?_
    refine ix_iload_n (i := 3) (j := 3) X (ix_tb_at tb_X12_strike 41 rfl) rfl rfl (pc1 := 66) rfl ?_
    refine ix_iload_n (i := 2) (j := 2) X (ix_tb_at tb_X12_strike 42 rfl) rfl rfl (pc1 := 67) rfl ?_
    refine ix_iadd X (ix_tb_at tb_X12_strike 43 rfl) (pc1 := 68) rfl ?_
    obtain ⟨k_33, h⟩ := ix_ck_some h
    refine iz_iald X k_33 (ix_tb_at tb_X12_strike 44 rfl) (pc1 := 69) rfl ?_
    obtain ⟨k_34, h⟩ := ix_ck_some h
    obtain ⟨d_35, e_36, h⟩ := ix_lt_ex h
    refine iz_iast X k_34 (ix_tb_at tb_X12_strike 45 rfl) e_36 (pc1 := 70) rfl ?_
    obtain ⟨x3_37, e_38, h⟩ := ix_lt_ex h
    refine ix_iinc (i := 3) (j := 3) (v := x3_37) (L1 := [(3, .int x3_37), (0, .ref (K.2.2.1 + a0)), (1, .int x1), (2, .int x2)]) X (ix_tb_at tb_X12_strike 46 rfl) rfl (by rw [oi_1]; exact e_38.symm) (Nat.le_of_ble_eq_true rfl) rfl (pc1 := 73) rfl ?_
    refine ix_goto (tgt := 41) X (ix_tb_at tb_X12_strike 47 rfl) (by decide) ?_
    refine ix_sub (L1 := [(0, .ref (K.2.2.1 + a0)), (1, .int x1), (2, .int x2), (3, .int x3_37)]) [1, 2, 3, 0] rfl ?_
    exact hrec41 x3_37 d_35 h
theorem t_X12_strike_41 {l : Launch} {p : Program} {e : Env} {s : State} {m : MethodId} {args : Array Value} {below : List Frame} {meth : Method} {c : Code} {K : ix_Cx} (hKp : ix_Kp K) {n : Nat} {z : ix_Z} (X : ix_X p s m args c K cX12_strike RX12 4) (hr : meth.sig.returnType = (some .int)) (hlk : meth.locks = false)  {a0 : Nat} {x1 : Int32} {x2 : Int32} {r : Int32} {d1 : ix_D2}  {x3 : Int32} {d : ix_D2} (h : f_X12_strike_41 n z  a0 x1 x2 x3 d = some (r, d1)) : ix_G p l e (ix_rm 1 22 0 0) s m args below meth c (MQ below (ix_Post K (some (.int r)) (ix_w z d1)) args s 0 0 (ix_A K)) K 4 0 0 41 [(0, .ref (K.2.2.1 + a0)), (1, .int x1), (2, .int x2), (3, .int x3)] [] (ix_w z d) := by
  have key : ∀ (f : Nat) (x3 : Int32) (d : ix_D2), ix_fix (b_X12_strike_41 n z  a0 x1 x2) (fun _ _ => none) f x3 d = some (r, d1) → ix_G p l e (ix_rm 1 22 0 0) s m args below meth c (MQ below (ix_Post K (some (.int r)) (ix_w z d1)) args s 0 0 (ix_A K)) K 4 0 0 41 [(0, .ref (K.2.2.1 + a0)), (1, .int x1), (2, .int x2), (3, .int x3)] [] (ix_w z d) := by
    intro f
    induction f with
    | zero =>
      intro x3 d h
      have h : (none : Option (Int32 × ix_D2)) = some (r, d1) := h
      cases h
    | succ f ih =>
      intro x3 d h
      exact tb_X12_strike_41 hKp X hr hlk (rec41 := ix_fix (b_X12_strike_41 n z  a0 x1 x2) (fun _ _ => none) f)  ih h
  exact key n x3 d h
set_option maxRecDepth 20000 in
theorem c_X12_strike {l : Launch} {K : ix_Cx} (hKp : ix_Kp K) {n : Nat} {z : ix_Z} {a0 : Nat} {x1 : Int32} {d : ix_D2} {r : Int32} {d1 : ix_D2} (h : f_X12_strike n z a0 x1 d = some (r, d1)) : ix_M l K yX12_strike cX12_strike 4 (some .int) 1 22 0 0 [.ref (K.2.2.1 + a0), .int x1] (ix_w z d) (some (.int r)) (ix_w z d1) := by
  refine ix_met mf_X12_strike hKp (Nat.le_of_ble_eq_true rfl) ?_
  intro p e s m args below meth c hr hlk hnm X
  have X : ix_X p s m args c K cX12_strike RX12 4 := X
  show ix_G p l e (ix_rm 1 22 0 0) s m args below meth c (MQ below (ix_Post K (some (.int r)) (ix_w z d1)) args s 0 0 (ix_A K)) K 4 0 0 0 [(0, .ref (K.2.2.1 + a0)), (1, .int x1)] [] (ix_w z d)
  unfold f_X12_strike at h
  refine ix_iload_n (i := 1) (j := 1) X (ix_tb_at tb_X12_strike 0 rfl) rfl rfl (pc1 := 1) rfl ?_
  refine ix_iconst (v := 0) X (ix_tb_at tb_X12_strike 1 rfl) (by decide) (pc1 := 2) rfl ?_
  refine ix_aload_n (i := 0) (j := 0) X (ix_tb_at tb_X12_strike 2 rfl) rfl rfl (pc1 := 3) rfl ?_
  obtain ⟨k_1, h⟩ := ix_ck_some h
  refine iz_getI X fl_RX12_605 k_1 (ix_tb_at tb_X12_strike 3 rfl) (pc1 := 6) rfl ?_
  refine ix_iconst (v := 1) X (ix_tb_at tb_X12_strike 4 rfl) (by decide) (pc1 := 7) rfl ?_
  refine ix_isub X (ix_tb_at tb_X12_strike 5 rfl) (pc1 := 8) rfl ?_
  obtain ⟨r_4, d_2, h_3, h⟩ := ix_bd2_ex h
  refine ix_callS (As := [.int x1, .int 0, .int ((d.1 a0 108) - 1)]) (rest := []) X mf_X12_in st_X12_in ml_RX12_238 ⟨Nat.le_of_ble_eq_true rfl, Nat.le_of_ble_eq_true rfl⟩ ⟨Nat.le_of_ble_eq_true rfl, Nat.le_of_ble_eq_true rfl⟩ rfl (Nat.le_of_ble_eq_true rfl) (ix_tb_at tb_X12_strike 6 rfl) (c_X12_in hKp h_3) rfl (pc1 := 11) rfl ?_
  refine ix_if_ne (tgt := 18) X (ix_tb_at tb_X12_strike 7 rfl) (by decide) (pc1 := 14) rfl (fun q_5 => ?_) (fun q_5 => ?_)
  · have h := ix_iff q_5 h
    refine ix_aload_n (i := 0) (j := 0) X (ix_tb_at tb_X12_strike 10 rfl) rfl rfl (pc1 := 19) rfl ?_
    obtain ⟨b_6, q_7, h⟩ := ix_bd1_ex h
    refine iz_getR X fl_RX12_222 k_1 q_7 (ix_tb_at tb_X12_strike 11 rfl) (pc1 := 22) rfl ?_
    refine ix_iload_n (i := 1) (j := 1) X (ix_tb_at tb_X12_strike 12 rfl) rfl rfl (pc1 := 23) rfl ?_
    refine ix_iconst (v := 1) X (ix_tb_at tb_X12_strike 13 rfl) (by decide) (pc1 := 24) rfl ?_
    refine ix_iadd X (ix_tb_at tb_X12_strike 14 rfl) (pc1 := 25) rfl ?_
    obtain ⟨k_8, h⟩ := ix_ck_some h
    refine iz_iald X k_8 (ix_tb_at tb_X12_strike 15 rfl) (pc1 := 26) rfl ?_
    refine ix_aload_n (i := 0) (j := 0) X (ix_tb_at tb_X12_strike 16 rfl) rfl rfl (pc1 := 27) rfl ?_
    refine iz_getR X fl_RX12_222 k_1 q_7 (ix_tb_at tb_X12_strike 17 rfl) (pc1 := 30) rfl ?_
    refine ix_iload_n (i := 1) (j := 1) X (ix_tb_at tb_X12_strike 18 rfl) rfl rfl (pc1 := 31) rfl ?_
    obtain ⟨k_9, h⟩ := ix_ck_some h
    refine iz_iald X k_9 (ix_tb_at tb_X12_strike 19 rfl) (pc1 := 32) rfl ?_
    refine ix_isub X (ix_tb_at tb_X12_strike 20 rfl) (pc1 := 33) rfl ?_
    obtain ⟨x2_10, e_11, h⟩ := ix_lt_ex h
    refine ix_nmi e_11 ?_
    refine ix_istore_n (i := 2) (L1 := [(2, .int x2_10), (0, .ref (K.2.2.1 + a0)), (1, .int x1)]) X (ix_tb_at tb_X12_strike 21 rfl) rfl (Nat.le_of_ble_eq_true rfl) rfl (pc1 := 34) rfl ?_
    refine ix_aload_n (i := 0) (j := 1) X (ix_tb_at tb_X12_strike 22 rfl) rfl rfl (pc1 := 35) rfl ?_
    refine iz_getR X fl_RX12_222 k_1 q_7 (ix_tb_at tb_X12_strike 23 rfl) (pc1 := 38) rfl ?_
    refine ix_iload_n (i := 1) (j := 2) X (ix_tb_at tb_X12_strike 24 rfl) rfl rfl (pc1 := 39) rfl ?_
    refine iz_iald X k_9 (ix_tb_at tb_X12_strike 25 rfl) (pc1 := 40) rfl ?_
    obtain ⟨x3_12, e_13, h⟩ := ix_lt_ex h
    refine ix_nmi e_13 ?_
    refine ix_istore_n (i := 3) (L1 := [(3, .int x3_12), (2, .int x2_10), (0, .ref (K.2.2.1 + a0)), (1, .int x1)]) X (ix_tb_at tb_X12_strike 26 rfl) rfl (Nat.le_of_ble_eq_true rfl) rfl (pc1 := 41) rfl ?_
    refine ix_sub (L1 := [(0, .ref (K.2.2.1 + a0)), (1, .int x1), (2, .int x2_10), (3, .int x3_12)]) [2, 3, 1, 0] rfl ?_
    exact t_X12_strike_41 hKp X hr hlk  h
  · have h := ix_ift q_5 h
    refine ix_sipush (v := (-1005)) X (ix_tb_at tb_X12_strike 8 rfl) (by decide) (pc1 := 17) rfl ?_
    exact ix_iret X hr hlk (ix_r2 (f := fun r => some (.int r)) (g := ix_w z) h) (ix_tb_at tb_X12_strike 9 rfl)

theorem mf_X12_proof : ix_mf yX12_proof cX12_proof 4 (some .int) 2 := ⟨ix_wm (i := 2388) (by decide +kernel), ix_wm (i := 8) (by decide +kernel), ⟨by decide +kernel, by decide +kernel⟩, by decide +kernel, by decide +kernel⟩
theorem mi_X12_proof : Cond.instanceMethod yX12_proof ∈ lw_tbl := ix_wm (i := 2386) (by decide +kernel)
theorem fl_RX12_228 : ix_flb 1676 0 false RX12 228 "ClauseCourtModel" [11] 112 2 = true := by decide +kernel
theorem mf_X12_supposedOf : ix_mf yX12_supposedOf cX12_supposedOf 3 (some .int) 1 := ⟨ix_wm (i := 2400) (by decide +kernel), ix_wm (i := 8) (by decide +kernel), ⟨by decide +kernel, by decide +kernel⟩, by decide +kernel, by decide +kernel⟩
theorem mi_X12_supposedOf : Cond.instanceMethod yX12_supposedOf ∈ lw_tbl := ix_wm (i := 2399) (by decide +kernel)
theorem mf_X12_suppose : ix_mf yX12_suppose cX12_suppose 2 (none : Option Jvm.ClassFile.FieldType) 1 := ⟨ix_wm (i := 2404) (by decide +kernel), ix_wm (i := 8) (by decide +kernel), ⟨by decide +kernel, by decide +kernel⟩, by decide +kernel, by decide +kernel⟩
theorem mi_X12_suppose : Cond.instanceMethod yX12_suppose ∈ lw_tbl := ix_wm (i := 2403) (by decide +kernel)
theorem fl_RX12_611 : ix_flb 1677 0 false RX12 611 "ClauseCourtModel" [11] 113 0 = true := by decide +kernel
theorem fp_RX12_611 : ix_fpb 1677 0 false RX12 611 "ClauseCourtModel" [11] 113 "Z" false = true := by decide +kernel
theorem ms_X12_suppose : Cond.selects yX12_suppose.cls yX12_suppose yX12_suppose ∈ lw_tbl := List.mem_append_left _ (List.mem_of_getElem? (i := 129) (by decide +kernel))
theorem ml_RX12_614 : tables_1[2401]? = some (Cond.methodLink RX12 614 yX12_suppose) := by decide +kernel
theorem fp_RX12_617 : ix_fpb 1678 0 false RX12 617 "ClauseCourtModel" [11] 114 "Z" false = true := by decide +kernel
theorem ms_X12_supposedOf : Cond.selects yX12_supposedOf.cls yX12_supposedOf yX12_supposedOf ∈ lw_tbl := List.mem_append_left _ (List.mem_of_getElem? (i := 128) (by decide +kernel))
theorem ml_RX12_608 : tables_1[2397]? = some (Cond.methodLink RX12 608 yX12_supposedOf) := by decide +kernel
theorem mf_X12_press : ix_mf yX12_press cX12_press 9 (none : Option Jvm.ClassFile.FieldType) 3 := ⟨ix_wm (i := 2408) (by decide +kernel), ix_wm (i := 8) (by decide +kernel), ⟨by decide +kernel, by decide +kernel⟩, by decide +kernel, by decide +kernel⟩
theorem mi_X12_press : Cond.instanceMethod yX12_press ∈ lw_tbl := ix_wm (i := 2407) (by decide +kernel)
theorem fl_RX12_617 : ix_flb 1678 0 false RX12 617 "ClauseCourtModel" [11] 114 0 = true := by decide +kernel
theorem ms_X12_press : Cond.selects yX12_press.cls yX12_press yX12_press ∈ lw_tbl := List.mem_append_left _ (List.mem_of_getElem? (i := 130) (by decide +kernel))
theorem ml_RX12_620 : tables_1[2405]? = some (Cond.methodLink RX12 620 yX12_press) := by decide +kernel
theorem mf_X12_follows : ix_mf yX12_follows cX12_follows 3 (some .boolean) 1 := ⟨ix_wm (i := 2396) (by decide +kernel), ix_wm (i := 8) (by decide +kernel), ⟨by decide +kernel, by decide +kernel⟩, by decide +kernel, by decide +kernel⟩
theorem mi_X12_follows : Cond.instanceMethod yX12_follows ∈ lw_tbl := ix_wm (i := 2395) (by decide +kernel)
theorem mf_X12_isAssumed : ix_mf yX12_isAssumed cX12_isAssumed 4 (some .boolean) 1 := ⟨ix_wm (i := 2412) (by decide +kernel), ix_wm (i := 8) (by decide +kernel), ⟨by decide +kernel, by decide +kernel⟩, by decide +kernel, by decide +kernel⟩
theorem mi_X12_isAssumed : Cond.instanceMethod yX12_isAssumed ∈ lw_tbl := ix_wm (i := 2411) (by decide +kernel)
theorem ms_X12_isAssumed : Cond.selects yX12_isAssumed.cls yX12_isAssumed yX12_isAssumed ∈ lw_tbl := List.mem_append_left _ (List.mem_of_getElem? (i := 131) (by decide +kernel))
theorem ml_RX12_627 : tables_1[2409]? = some (Cond.methodLink RX12 627 yX12_isAssumed) := by decide +kernel
theorem ms_X12_follows : Cond.selects yX12_follows.cls yX12_follows yX12_follows ∈ lw_tbl := List.mem_append_left _ (List.mem_of_getElem? (i := 127) (by decide +kernel))
theorem ml_RX12_624 : tables_1[2393]? = some (Cond.methodLink RX12 624 yX12_follows) := by decide +kernel
theorem mf_X12_check : ix_mf yX12_check cX12_check 4 (some .int) 0 := ⟨ix_wm (i := 2392) (by decide +kernel), ix_wm (i := 8) (by decide +kernel), ⟨by decide +kernel, by decide +kernel⟩, by decide +kernel, by decide +kernel⟩
theorem mi_X12_check : Cond.instanceMethod yX12_check ∈ lw_tbl := ix_wm (i := 2390) (by decide +kernel)
theorem fl_RX12_231 : ix_flb 1675 0 false RX12 231 "ClauseCourtModel" [11] 111 0 = true := by decide +kernel
theorem mf_X12_refusedAt : ix_mf yX12_refusedAt cX12_refusedAt 1 (some .int) 0 := ⟨ix_wm (i := 2416) (by decide +kernel), ix_wm (i := 8) (by decide +kernel), ⟨by decide +kernel, by decide +kernel⟩, by decide +kernel, by decide +kernel⟩
theorem mi_X12_refusedAt : Cond.instanceMethod yX12_refusedAt ∈ lw_tbl := ix_wm (i := 2414) (by decide +kernel)
theorem fl_RX12_13 : ix_flb 1567 0 false RX12 13 "ClauseCourtModel" [11] 3 2 = true := by decide +kernel
theorem fl_RX12_630 : ix_flb 1568 0 false RX12 630 "ClauseCourtModel" [11] 4 0 = true := by decide +kernel
theorem fp_RX12_630 : ix_fpb 1568 0 false RX12 630 "ClauseCourtModel" [11] 4 "I" false = true := by decide +kernel
theorem mf_X12_counted : ix_mf yX12_counted cX12_counted 4 (some .int) 2 := ⟨ix_wm (i := 2420) (by decide +kernel), ix_wm (i := 8) (by decide +kernel), ⟨by decide +kernel, by decide +kernel⟩, by decide +kernel, by decide +kernel⟩
theorem mi_X12_counted : Cond.instanceMethod yX12_counted ∈ lw_tbl := ix_wm (i := 2418) (by decide +kernel)
theorem mf_X12_bar : ix_mf yX12_bar cX12_bar 5 (none : Option Jvm.ClassFile.FieldType) 2 := ⟨ix_wm (i := 2428) (by decide +kernel), ix_wm (i := 8) (by decide +kernel), ⟨by decide +kernel, by decide +kernel⟩, by decide +kernel, by decide +kernel⟩
theorem mi_X12_bar : Cond.instanceMethod yX12_bar ∈ lw_tbl := ix_wm (i := 2427) (by decide +kernel)
theorem ms_X12_bar : Cond.selects yX12_bar.cls yX12_bar yX12_bar ∈ lw_tbl := List.mem_append_left _ (List.mem_of_getElem? (i := 132) (by decide +kernel))
theorem ml_RX12_633 : tables_1[2425]? = some (Cond.methodLink RX12 633 yX12_bar) := by decide +kernel
theorem fp_RX12_374 : ix_fpb 1596 0 false RX12 374 "ClauseCourtModel" [11] 32 "I" false = true := by decide +kernel
theorem mf_X12_next : ix_mf yX12_next cX12_next 3 (some .int) 1 := ⟨ix_wm (i := 2424) (by decide +kernel), ix_wm (i := 8) (by decide +kernel), ⟨by decide +kernel, by decide +kernel⟩, by decide +kernel, by decide +kernel⟩
theorem mi_X12_next : Cond.instanceMethod yX12_next ∈ lw_tbl := ix_wm (i := 2422) (by decide +kernel)
theorem mf_X12_unbar : ix_mf yX12_unbar cX12_unbar 2 (some .int) 0 := ⟨ix_wm (i := 2432) (by decide +kernel), ix_wm (i := 8) (by decide +kernel), ⟨by decide +kernel, by decide +kernel⟩, by decide +kernel, by decide +kernel⟩
theorem mi_X12_unbar : Cond.instanceMethod yX12_unbar ∈ lw_tbl := ix_wm (i := 2430) (by decide +kernel)
theorem mf_X12_count : ix_mf yX12_count cX12_count 5 (some .int) 2 := ⟨ix_wm (i := 2436) (by decide +kernel), ix_wm (i := 8) (by decide +kernel), ⟨by decide +kernel, by decide +kernel⟩, by decide +kernel, by decide +kernel⟩
theorem mi_X12_count : Cond.instanceMethod yX12_count ∈ lw_tbl := ix_wm (i := 2434) (by decide +kernel)
theorem mf_X12_force : ix_mf yX12_force cX12_force 1 (some .boolean) 0 := ⟨ix_wm (i := 2444) (by decide +kernel), ix_wm (i := 8) (by decide +kernel), ⟨by decide +kernel, by decide +kernel⟩, by decide +kernel, by decide +kernel⟩
theorem mi_X12_force : Cond.instanceMethod yX12_force ∈ lw_tbl := ix_wm (i := 2443) (by decide +kernel)
theorem ms_X12_force : Cond.selects yX12_force.cls yX12_force yX12_force ∈ lw_tbl := List.mem_append_left _ (List.mem_of_getElem? (i := 133) (by decide +kernel))
theorem ml_RX12_636 : tables_1[2441]? = some (Cond.methodLink RX12 636 yX12_force) := by decide +kernel
theorem mf_X12_forced : ix_mf yX12_forced cX12_forced 1 (some .int) 0 := ⟨ix_wm (i := 2440) (by decide +kernel), ix_wm (i := 8) (by decide +kernel), ⟨by decide +kernel, by decide +kernel⟩, by decide +kernel, by decide +kernel⟩
theorem mi_X12_forced : Cond.instanceMethod yX12_forced ∈ lw_tbl := ix_wm (i := 2438) (by decide +kernel)
theorem mf_X12_forcedAt : ix_mf yX12_forcedAt cX12_forcedAt 3 (some .int) 1 := ⟨ix_wm (i := 2448) (by decide +kernel), ix_wm (i := 8) (by decide +kernel), ⟨by decide +kernel, by decide +kernel⟩, by decide +kernel, by decide +kernel⟩
theorem mi_X12_forcedAt : Cond.instanceMethod yX12_forcedAt ∈ lw_tbl := ix_wm (i := 2446) (by decide +kernel)
theorem mf_X12_why : ix_mf yX12_why cX12_why 3 (some .int) 1 := ⟨ix_wm (i := 2452) (by decide +kernel), ix_wm (i := 8) (by decide +kernel), ⟨by decide +kernel, by decide +kernel⟩, by decide +kernel, by decide +kernel⟩
theorem mi_X12_why : Cond.instanceMethod yX12_why ∈ lw_tbl := ix_wm (i := 2450) (by decide +kernel)
theorem fl_RX12_641 : ix_flb 1679 0 false RX12 641 "ClauseCourtModel" [11] 115 1 = true := by decide +kernel
theorem fp_RX12_641 : ix_fpb 1679 0 false RX12 641 "ClauseCourtModel" [11] 115 "J" false = true := by decide +kernel
theorem mf_X12_add : ix_mf yX12_add cX12_add 2 (none : Option Jvm.ClassFile.FieldType) 1 := ⟨ix_wm (i := 2461) (by decide +kernel), ix_wm (i := 8) (by decide +kernel), ⟨by decide +kernel, by decide +kernel⟩, by decide +kernel, by decide +kernel⟩
theorem mi_X12_add : Cond.instanceMethod yX12_add ∈ lw_tbl := ix_wm (i := 2460) (by decide +kernel)
theorem ms_X12_add : Cond.selects yX12_add.cls yX12_add yX12_add ∈ lw_tbl := List.mem_append_left _ (List.mem_of_getElem? (i := 134) (by decide +kernel))
theorem ml_RX12_647 : tables_1[2458]? = some (Cond.methodLink RX12 647 yX12_add) := by decide +kernel
theorem mf_X12_digest : ix_mf yX12_digest cX12_digest 3 (some .long) 0 := ⟨ix_wm (i := 2456) (by decide +kernel), ix_wm (i := 8) (by decide +kernel), ⟨by decide +kernel, by decide +kernel⟩, by decide +kernel, by decide +kernel⟩
theorem mi_X12_digest : Cond.instanceMethod yX12_digest ∈ lw_tbl := ix_wm (i := 2454) (by decide +kernel)
theorem fl_RX12_235 : ix_flb 1564 0 false RX12 235 "ClauseCourtModel" [11] 0 0 = true := by decide +kernel
theorem mf_X12_status : ix_mf yX12_status cX12_status 1 (some .int) 0 := ⟨ix_wm (i := 2466) (by decide +kernel), ix_wm (i := 8) (by decide +kernel), ⟨by decide +kernel, by decide +kernel⟩, by decide +kernel, by decide +kernel⟩
theorem mi_X12_status : Cond.instanceMethod yX12_status ∈ lw_tbl := ix_wm (i := 2464) (by decide +kernel)
theorem mf_X12_about : ix_mf yX12_about cX12_about 2 (some .int) 1 := ⟨ix_wm (i := 2470) (by decide +kernel), ix_wm (i := 8) (by decide +kernel), ⟨by decide +kernel, by decide +kernel⟩, by decide +kernel, by decide +kernel⟩
theorem mi_X12_about : Cond.instanceMethod yX12_about ∈ lw_tbl := ix_wm (i := 2468) (by decide +kernel)
def tab_X12_proof : List (Nat × Instr × Nat) := [(0, .iload_n 1, 1), (1, .iconst 0, 1), (2, .aload_n 0, 1), (3, .getfield 605, 3), (6, .iconst 1, 1), (7, .isub, 1), (8, .invokestatic 238, 3), (11, .ifCond .ne 7, 3), (14, .sipush (-1005), 3), (17, .ireturn, 1), (18, .aload_n 0, 1), (19, .getfield 222, 3), (22, .iload_n 1, 1), (23, .iconst 1, 1), (24, .iadd, 1), (25, .iaload, 1), (26, .aload_n 0, 1), (27, .getfield 222, 3), (30, .iload_n 1, 1), (31, .iaload, 1), (32, .isub, 1), (33, .istore_n 3, 1), (34, .iload_n 2, 1), (35, .iconst (-1), 1), (36, .if_icmp .ne 7, 3), (39, .iload_n 3, 1), (40, .goto 33, 3), (43, .iload_n 2, 1), (44, .iconst 0, 1), (45, .iload_n 3, 1), (46, .iconst 1, 1), (47, .isub, 1), (48, .invokestatic 238, 3), (51, .ifCond .eq 19, 3), (54, .aload_n 0, 1), (55, .getfield 225, 3), (58, .aload_n 0, 1), (59, .getfield 222, 3), (62, .iload_n 1, 1), (63, .iaload, 1), (64, .iload_n 2, 1), (65, .iadd, 1), (66, .iaload, 1), (67, .goto 6, 3), (70, .sipush (-1005), 3), (73, .ireturn, 1)]
theorem tb_X12_proof : ix_tab cX12_proof tab_X12_proof := by
  unfold ix_tab
  decide +kernel
noncomputable def f_X12_proof (n : Nat) (z : ix_Z) (a0 : Nat) (x1 : Int32) (x2 : Int32) (d : ix_D2) : Option (Int32 × ix_D2) :=
  ix_ck (ix_ok z [11] a0) (ix_bd2 (f_X12_in n z x1 0 ((d.1 a0 108) - 1) d) (fun r_4 d_2 => ix_if (r_4 = 0) (some ((-1005), d_2)) (ix_bd1 (z.1 a0 109) (fun b_6 => ix_ck (ix_ix z 20 b_6 (x1 + 1)) (ix_ck (ix_ix z 20 b_6 x1) (ix_lt ((d_2.1 b_6 (ix_n (x1 + 1))) - (d_2.1 b_6 (ix_n x1))) (fun x3_10 => ix_if (x2 = (-1)) (some (x3_10, d_2)) (ix_bd2 (f_X12_in n z x2 0 (x3_10 - 1) d_2) (fun r_15 d_13 => ix_if (r_15 = 0) (some ((-1005), d_13)) (ix_bd1 (z.1 a0 110) (fun b_17 => ix_ck (ix_ix z 20 b_17 ((d_13.1 b_6 (ix_n x1)) + x2)) (some (d_13.1 b_17 (ix_n ((d_13.1 b_6 (ix_n x1)) + x2)), d_13)))))))))))))
set_option maxRecDepth 20000 in
theorem c_X12_proof {l : Launch} {K : ix_Cx} (hKp : ix_Kp K) {n : Nat} {z : ix_Z} {a0 : Nat} {x1 : Int32} {x2 : Int32} {d : ix_D2} {r : Int32} {d1 : ix_D2} (h : f_X12_proof n z a0 x1 x2 d = some (r, d1)) : ix_M l K yX12_proof cX12_proof 4 (some .int) 1 22 0 0 [.ref (K.2.2.1 + a0), .int x1, .int x2] (ix_w z d) (some (.int r)) (ix_w z d1) := by
  refine ix_met mf_X12_proof hKp (Nat.le_of_ble_eq_true rfl) ?_
  intro p e s m args below meth c hr hlk hnm X
  have X : ix_X p s m args c K cX12_proof RX12 4 := X
  show ix_G p l e (ix_rm 1 22 0 0) s m args below meth c (MQ below (ix_Post K (some (.int r)) (ix_w z d1)) args s 0 0 (ix_A K)) K 4 0 0 0 [(0, .ref (K.2.2.1 + a0)), (1, .int x1), (2, .int x2)] [] (ix_w z d)
  unfold f_X12_proof at h
  refine ix_iload_n (i := 1) (j := 1) X (ix_tb_at tb_X12_proof 0 rfl) rfl rfl (pc1 := 1) rfl ?_
  refine ix_iconst (v := 0) X (ix_tb_at tb_X12_proof 1 rfl) (by decide) (pc1 := 2) rfl ?_
  refine ix_aload_n (i := 0) (j := 0) X (ix_tb_at tb_X12_proof 2 rfl) rfl rfl (pc1 := 3) rfl ?_
  obtain ⟨k_1, h⟩ := ix_ck_some h
  refine iz_getI X fl_RX12_605 k_1 (ix_tb_at tb_X12_proof 3 rfl) (pc1 := 6) rfl ?_
  refine ix_iconst (v := 1) X (ix_tb_at tb_X12_proof 4 rfl) (by decide) (pc1 := 7) rfl ?_
  refine ix_isub X (ix_tb_at tb_X12_proof 5 rfl) (pc1 := 8) rfl ?_
  obtain ⟨r_4, d_2, h_3, h⟩ := ix_bd2_ex h
  refine ix_callS (As := [.int x1, .int 0, .int ((d.1 a0 108) - 1)]) (rest := []) X mf_X12_in st_X12_in ml_RX12_238 ⟨Nat.le_of_ble_eq_true rfl, Nat.le_of_ble_eq_true rfl⟩ ⟨Nat.le_of_ble_eq_true rfl, Nat.le_of_ble_eq_true rfl⟩ rfl (Nat.le_of_ble_eq_true rfl) (ix_tb_at tb_X12_proof 6 rfl) (c_X12_in hKp h_3) rfl (pc1 := 11) rfl ?_
  refine ix_if_ne (tgt := 18) X (ix_tb_at tb_X12_proof 7 rfl) (by decide) (pc1 := 14) rfl (fun q_5 => ?_) (fun q_5 => ?_)
  · have h := ix_iff q_5 h
    refine ix_aload_n (i := 0) (j := 0) X (ix_tb_at tb_X12_proof 10 rfl) rfl rfl (pc1 := 19) rfl ?_
    obtain ⟨b_6, q_7, h⟩ := ix_bd1_ex h
    refine iz_getR X fl_RX12_222 k_1 q_7 (ix_tb_at tb_X12_proof 11 rfl) (pc1 := 22) rfl ?_
    refine ix_iload_n (i := 1) (j := 1) X (ix_tb_at tb_X12_proof 12 rfl) rfl rfl (pc1 := 23) rfl ?_
    refine ix_iconst (v := 1) X (ix_tb_at tb_X12_proof 13 rfl) (by decide) (pc1 := 24) rfl ?_
    refine ix_iadd X (ix_tb_at tb_X12_proof 14 rfl) (pc1 := 25) rfl ?_
    obtain ⟨k_8, h⟩ := ix_ck_some h
    refine iz_iald X k_8 (ix_tb_at tb_X12_proof 15 rfl) (pc1 := 26) rfl ?_
    refine ix_aload_n (i := 0) (j := 0) X (ix_tb_at tb_X12_proof 16 rfl) rfl rfl (pc1 := 27) rfl ?_
    refine iz_getR X fl_RX12_222 k_1 q_7 (ix_tb_at tb_X12_proof 17 rfl) (pc1 := 30) rfl ?_
    refine ix_iload_n (i := 1) (j := 1) X (ix_tb_at tb_X12_proof 18 rfl) rfl rfl (pc1 := 31) rfl ?_
    obtain ⟨k_9, h⟩ := ix_ck_some h
    refine iz_iald X k_9 (ix_tb_at tb_X12_proof 19 rfl) (pc1 := 32) rfl ?_
    refine ix_isub X (ix_tb_at tb_X12_proof 20 rfl) (pc1 := 33) rfl ?_
    obtain ⟨x3_10, e_11, h⟩ := ix_lt_ex h
    refine ix_nmi e_11 ?_
    refine ix_istore_n (i := 3) (L1 := [(3, .int x3_10), (0, .ref (K.2.2.1 + a0)), (1, .int x1), (2, .int x2)]) X (ix_tb_at tb_X12_proof 21 rfl) rfl (Nat.le_of_ble_eq_true rfl) rfl (pc1 := 34) rfl ?_
    refine ix_iload_n (i := 2) (j := 3) X (ix_tb_at tb_X12_proof 22 rfl) rfl rfl (pc1 := 35) rfl ?_
    refine ix_iconst (v := (-1)) X (ix_tb_at tb_X12_proof 23 rfl) (by decide) (pc1 := 36) rfl ?_
    refine ix_icmp_ne (tgt := 43) X (ix_tb_at tb_X12_proof 24 rfl) (by decide) (pc1 := 39) rfl (fun q_12 => ?_) (fun q_12 => ?_)
    · have h := ix_iff q_12 h
      refine ix_iload_n (i := 2) (j := 3) X (ix_tb_at tb_X12_proof 27 rfl) rfl rfl (pc1 := 44) rfl ?_
      refine ix_iconst (v := 0) X (ix_tb_at tb_X12_proof 28 rfl) (by decide) (pc1 := 45) rfl ?_
      refine ix_iload_n (i := 3) (j := 0) X (ix_tb_at tb_X12_proof 29 rfl) rfl rfl (pc1 := 46) rfl ?_
      refine ix_iconst (v := 1) X (ix_tb_at tb_X12_proof 30 rfl) (by decide) (pc1 := 47) rfl ?_
      refine ix_isub X (ix_tb_at tb_X12_proof 31 rfl) (pc1 := 48) rfl ?_
      obtain ⟨r_15, d_13, h_14, h⟩ := ix_bd2_ex h
      refine ix_callS (As := [.int x2, .int 0, .int (x3_10 - 1)]) (rest := []) X mf_X12_in st_X12_in ml_RX12_238 ⟨Nat.le_of_ble_eq_true rfl, Nat.le_of_ble_eq_true rfl⟩ ⟨Nat.le_of_ble_eq_true rfl, Nat.le_of_ble_eq_true rfl⟩ rfl (Nat.le_of_ble_eq_true rfl) (ix_tb_at tb_X12_proof 32 rfl) (c_X12_in hKp h_14) rfl (pc1 := 51) rfl ?_
      refine ix_if_eq (tgt := 70) X (ix_tb_at tb_X12_proof 33 rfl) (by decide) (pc1 := 54) rfl (fun q_16 => ?_) (fun q_16 => ?_)
      · have h := ix_ift q_16 h
        refine ix_sipush (v := (-1005)) X (ix_tb_at tb_X12_proof 44 rfl) (by decide) (pc1 := 73) rfl ?_
        exact ix_iret X hr hlk (ix_r2 (f := fun r => some (.int r)) (g := ix_w z) h) (ix_tb_at tb_X12_proof 45 rfl)
      · have h := ix_iff q_16 h
        refine ix_aload_n (i := 0) (j := 1) X (ix_tb_at tb_X12_proof 34 rfl) rfl rfl (pc1 := 55) rfl ?_
        obtain ⟨b_17, q_18, h⟩ := ix_bd1_ex h
        refine iz_getR X fl_RX12_225 k_1 q_18 (ix_tb_at tb_X12_proof 35 rfl) (pc1 := 58) rfl ?_
        refine ix_aload_n (i := 0) (j := 1) X (ix_tb_at tb_X12_proof 36 rfl) rfl rfl (pc1 := 59) rfl ?_
        refine iz_getR X fl_RX12_222 k_1 q_7 (ix_tb_at tb_X12_proof 37 rfl) (pc1 := 62) rfl ?_
        refine ix_iload_n (i := 1) (j := 2) X (ix_tb_at tb_X12_proof 38 rfl) rfl rfl (pc1 := 63) rfl ?_
        refine iz_iald X k_9 (ix_tb_at tb_X12_proof 39 rfl) (pc1 := 64) rfl ?_
        refine ix_iload_n (i := 2) (j := 3) X (ix_tb_at tb_X12_proof 40 rfl) rfl rfl (pc1 := 65) rfl ?_
        refine ix_iadd X (ix_tb_at tb_X12_proof 41 rfl) (pc1 := 66) rfl ?_
        obtain ⟨k_19, h⟩ := ix_ck_some h
        refine iz_iald X k_19 (ix_tb_at tb_X12_proof 42 rfl) (pc1 := 67) rfl ?_
        refine ix_goto (tgt := 73) X (ix_tb_at tb_X12_proof 43 rfl) (by decide) ?_
        exact ix_iret X hr hlk (ix_r2 (f := fun r => some (.int r)) (g := ix_w z) h) (ix_tb_at tb_X12_proof 45 rfl)
    · have h := ix_ift q_12 h
      refine ix_iload_n (i := 3) (j := 0) X (ix_tb_at tb_X12_proof 25 rfl) rfl rfl (pc1 := 40) rfl ?_
      refine ix_goto (tgt := 73) X (ix_tb_at tb_X12_proof 26 rfl) (by decide) ?_
      exact ix_iret X hr hlk (ix_r2 (f := fun r => some (.int r)) (g := ix_w z) h) (ix_tb_at tb_X12_proof 45 rfl)
  · have h := ix_ift q_5 h
    refine ix_sipush (v := (-1005)) X (ix_tb_at tb_X12_proof 8 rfl) (by decide) (pc1 := 17) rfl ?_
    exact ix_iret X hr hlk (ix_r2 (f := fun r => some (.int r)) (g := ix_w z) h) (ix_tb_at tb_X12_proof 9 rfl)
def tab_X12_supposedOf : List (Nat × Instr × Nat) := [(0, .aload_n 0, 1), (1, .getfield 228, 3), (4, .iload_n 1, 1), (5, .invokestatic 289, 3), (8, .iaload, 1), (9, .istore_n 2, 1), (10, .iload_n 2, 1), (11, .iconst 2, 1), (12, .if_icmp .ne 7, 3), (15, .iconst 2, 1), (16, .goto 14, 3), (19, .iload_n 1, 1), (20, .ifCond .le 7, 3), (23, .iload_n 2, 1), (24, .goto 6, 3), (27, .iconst 1, 1), (28, .iload_n 2, 1), (29, .isub, 1), (30, .ireturn, 1)]
theorem tb_X12_supposedOf : ix_tab cX12_supposedOf tab_X12_supposedOf := by
  unfold ix_tab
  decide +kernel
noncomputable def f_X12_supposedOf (n : Nat) (z : ix_Z) (a0 : Nat) (x1 : Int32) (d : ix_D2) : Option (Int32 × ix_D2) :=
  ix_ck (ix_ok z [11] a0) (ix_bd1 (z.1 a0 112) (fun b_2 => ix_bd2 (f_X12_nameOf n z x1 d) (fun r_6 d_4 => ix_ck (ix_ix z 20 b_2 r_6) (ix_lt (d_4.1 b_2 (ix_n r_6)) (fun x2_8 => ix_if (x2_8 = 2) (some (2, d_4)) (ix_if (x1 ≤ 0) (some (1 - x2_8, d_4)) (some (x2_8, d_4))))))))
set_option maxRecDepth 20000 in
theorem c_X12_supposedOf {l : Launch} {K : ix_Cx} (hKp : ix_Kp K) {n : Nat} {z : ix_Z} {a0 : Nat} {x1 : Int32} {d : ix_D2} {r : Int32} {d1 : ix_D2} (h : f_X12_supposedOf n z a0 x1 d = some (r, d1)) : ix_M l K yX12_supposedOf cX12_supposedOf 3 (some .int) 1 20 0 0 [.ref (K.2.2.1 + a0), .int x1] (ix_w z d) (some (.int r)) (ix_w z d1) := by
  refine ix_met mf_X12_supposedOf hKp (Nat.le_of_ble_eq_true rfl) ?_
  intro p e s m args below meth c hr hlk hnm X
  have X : ix_X p s m args c K cX12_supposedOf RX12 3 := X
  show ix_G p l e (ix_rm 1 20 0 0) s m args below meth c (MQ below (ix_Post K (some (.int r)) (ix_w z d1)) args s 0 0 (ix_A K)) K 3 0 0 0 [(0, .ref (K.2.2.1 + a0)), (1, .int x1)] [] (ix_w z d)
  unfold f_X12_supposedOf at h
  refine ix_aload_n (i := 0) (j := 0) X (ix_tb_at tb_X12_supposedOf 0 rfl) rfl rfl (pc1 := 1) rfl ?_
  obtain ⟨k_1, h⟩ := ix_ck_some h
  obtain ⟨b_2, q_3, h⟩ := ix_bd1_ex h
  refine iz_getR X fl_RX12_228 k_1 q_3 (ix_tb_at tb_X12_supposedOf 1 rfl) (pc1 := 4) rfl ?_
  refine ix_iload_n (i := 1) (j := 1) X (ix_tb_at tb_X12_supposedOf 2 rfl) rfl rfl (pc1 := 5) rfl ?_
  obtain ⟨r_6, d_4, h_5, h⟩ := ix_bd2_ex h
  refine ix_callS (As := [.int x1]) (rest := [.ref (K.2.2.1 + b_2)]) X mf_X12_nameOf st_X12_nameOf ml_RX12_289 ⟨Nat.le_of_ble_eq_true rfl, Nat.le_of_ble_eq_true rfl⟩ ⟨Nat.le_of_ble_eq_true rfl, Nat.le_of_ble_eq_true rfl⟩ rfl (Nat.le_of_ble_eq_true rfl) (ix_tb_at tb_X12_supposedOf 3 rfl) (c_X12_nameOf hKp h_5) rfl (pc1 := 8) rfl ?_
  obtain ⟨k_7, h⟩ := ix_ck_some h
  refine iz_iald X k_7 (ix_tb_at tb_X12_supposedOf 4 rfl) (pc1 := 9) rfl ?_
  obtain ⟨x2_8, e_9, h⟩ := ix_lt_ex h
  refine ix_nmi e_9 ?_
  refine ix_istore_n (i := 2) (L1 := [(2, .int x2_8), (0, .ref (K.2.2.1 + a0)), (1, .int x1)]) X (ix_tb_at tb_X12_supposedOf 5 rfl) rfl (Nat.le_of_ble_eq_true rfl) rfl (pc1 := 10) rfl ?_
  refine ix_iload_n (i := 2) (j := 0) X (ix_tb_at tb_X12_supposedOf 6 rfl) rfl rfl (pc1 := 11) rfl ?_
  refine ix_iconst (v := 2) X (ix_tb_at tb_X12_supposedOf 7 rfl) (by decide) (pc1 := 12) rfl ?_
  refine ix_icmp_ne (tgt := 19) X (ix_tb_at tb_X12_supposedOf 8 rfl) (by decide) (pc1 := 15) rfl (fun q_10 => ?_) (fun q_10 => ?_)
  · have h := ix_iff q_10 h
    refine ix_iload_n (i := 1) (j := 2) X (ix_tb_at tb_X12_supposedOf 11 rfl) rfl rfl (pc1 := 20) rfl ?_
    refine ix_if_le (tgt := 27) X (ix_tb_at tb_X12_supposedOf 12 rfl) (by decide) (pc1 := 23) rfl (fun q_11 => ?_) (fun q_11 => ?_)
    · have h := ix_ift q_11 h
      refine ix_iconst (v := 1) X (ix_tb_at tb_X12_supposedOf 15 rfl) (by decide) (pc1 := 28) rfl ?_
      refine ix_iload_n (i := 2) (j := 0) X (ix_tb_at tb_X12_supposedOf 16 rfl) rfl rfl (pc1 := 29) rfl ?_
      refine ix_isub X (ix_tb_at tb_X12_supposedOf 17 rfl) (pc1 := 30) rfl ?_
      exact ix_iret X hr hlk (ix_r2 (f := fun r => some (.int r)) (g := ix_w z) h) (ix_tb_at tb_X12_supposedOf 18 rfl)
    · have h := ix_iff q_11 h
      refine ix_iload_n (i := 2) (j := 0) X (ix_tb_at tb_X12_supposedOf 13 rfl) rfl rfl (pc1 := 24) rfl ?_
      refine ix_goto (tgt := 30) X (ix_tb_at tb_X12_supposedOf 14 rfl) (by decide) ?_
      exact ix_iret X hr hlk (ix_r2 (f := fun r => some (.int r)) (g := ix_w z) h) (ix_tb_at tb_X12_supposedOf 18 rfl)
  · have h := ix_ift q_10 h
    refine ix_iconst (v := 2) X (ix_tb_at tb_X12_supposedOf 9 rfl) (by decide) (pc1 := 16) rfl ?_
    refine ix_goto (tgt := 30) X (ix_tb_at tb_X12_supposedOf 10 rfl) (by decide) ?_
    exact ix_iret X hr hlk (ix_r2 (f := fun r => some (.int r)) (g := ix_w z) h) (ix_tb_at tb_X12_supposedOf 18 rfl)
def tab_X12_suppose : List (Nat × Instr × Nat) := [(0, .aload_n 0, 1), (1, .getfield 228, 3), (4, .iload_n 1, 1), (5, .invokestatic 289, 3), (8, .iload_n 1, 1), (9, .ifCond .le 7, 3), (12, .iconst 1, 1), (13, .goto 4, 3), (16, .iconst 0, 1), (17, .iastore, 1), (18, .return_, 1)]
theorem tb_X12_suppose : ix_tab cX12_suppose tab_X12_suppose := by
  unfold ix_tab
  decide +kernel
noncomputable def f_X12_suppose_17 (n : Nat) (z : ix_Z)  (s0 : Int32) (s1 : Int32) (s2 : Nat) (d : ix_D2) : Option (ix_D2) :=
  ix_ck (ix_ix z 20 s2 s1) (ix_lt (ix_di d s2 (ix_n s1) s0) (fun d_9 => some d_9))
noncomputable def f_X12_suppose (n : Nat) (z : ix_Z) (a0 : Nat) (x1 : Int32) (d : ix_D2) : Option (ix_D2) :=
  ix_ck (ix_ok z [11] a0) (ix_bd1 (z.1 a0 112) (fun b_2 => ix_bd2 (f_X12_nameOf n z x1 d) (fun r_6 d_4 => ix_if (x1 ≤ 0) (f_X12_suppose_17 n z  0 r_6 b_2 d_4) (f_X12_suppose_17 n z  1 r_6 b_2 d_4))))
set_option maxRecDepth 20000 in
theorem t_X12_suppose_17 {l : Launch} {p : Program} {e : Env} {s : State} {m : MethodId} {args : Array Value} {below : List Frame} {meth : Method} {c : Code} {K : ix_Cx} (hKp : ix_Kp K) {n : Nat} {z : ix_Z} (X : ix_X p s m args c K cX12_suppose RX12 2) (hr : meth.sig.returnType = (none : Option Jvm.ClassFile.FieldType)) (hlk : meth.locks = false)  {s0 : Int32} {s1 : Int32} {s2 : Nat} {d1 : ix_D2}  {d : ix_D2} (h : f_X12_suppose_17 n z  s0 s1 s2 d = some d1) : ix_G p l e (ix_rm 1 20 0 0) s m args below meth c (MQ below (ix_Post K none (ix_w z d1)) args s 0 0 (ix_A K)) K 2 0 0 17 [] [.int s0, .int s1, .ref (K.2.2.1 + s2)] (ix_w z d) := by
  unfold f_X12_suppose_17 at h
  obtain ⟨k_8, h⟩ := ix_ck_some h
  obtain ⟨d_9, e_10, h⟩ := ix_lt_ex h
  refine iz_iast X k_8 (ix_tb_at tb_X12_suppose 9 rfl) e_10 (pc1 := 18) rfl ?_
  exact ix_vret X hr hlk (ix_r1 (g := ix_w z) h) (ix_tb_at tb_X12_suppose 10 rfl)
set_option maxRecDepth 20000 in
theorem c_X12_suppose {l : Launch} {K : ix_Cx} (hKp : ix_Kp K) {n : Nat} {z : ix_Z} {a0 : Nat} {x1 : Int32} {d : ix_D2} {d1 : ix_D2} (h : f_X12_suppose n z a0 x1 d = some d1) : ix_M l K yX12_suppose cX12_suppose 2 (none : Option Jvm.ClassFile.FieldType) 1 20 0 0 [.ref (K.2.2.1 + a0), .int x1] (ix_w z d) none (ix_w z d1) := by
  refine ix_met mf_X12_suppose hKp (Nat.le_of_ble_eq_true rfl) ?_
  intro p e s m args below meth c hr hlk hnm X
  have X : ix_X p s m args c K cX12_suppose RX12 2 := X
  show ix_G p l e (ix_rm 1 20 0 0) s m args below meth c (MQ below (ix_Post K none (ix_w z d1)) args s 0 0 (ix_A K)) K 2 0 0 0 [(0, .ref (K.2.2.1 + a0)), (1, .int x1)] [] (ix_w z d)
  unfold f_X12_suppose at h
  refine ix_aload_n (i := 0) (j := 0) X (ix_tb_at tb_X12_suppose 0 rfl) rfl rfl (pc1 := 1) rfl ?_
  obtain ⟨k_1, h⟩ := ix_ck_some h
  obtain ⟨b_2, q_3, h⟩ := ix_bd1_ex h
  refine iz_getR X fl_RX12_228 k_1 q_3 (ix_tb_at tb_X12_suppose 1 rfl) (pc1 := 4) rfl ?_
  refine ix_iload_n (i := 1) (j := 1) X (ix_tb_at tb_X12_suppose 2 rfl) rfl rfl (pc1 := 5) rfl ?_
  obtain ⟨r_6, d_4, h_5, h⟩ := ix_bd2_ex h
  refine ix_callS (As := [.int x1]) (rest := [.ref (K.2.2.1 + b_2)]) X mf_X12_nameOf st_X12_nameOf ml_RX12_289 ⟨Nat.le_of_ble_eq_true rfl, Nat.le_of_ble_eq_true rfl⟩ ⟨Nat.le_of_ble_eq_true rfl, Nat.le_of_ble_eq_true rfl⟩ rfl (Nat.le_of_ble_eq_true rfl) (ix_tb_at tb_X12_suppose 3 rfl) (c_X12_nameOf hKp h_5) rfl (pc1 := 8) rfl ?_
  refine ix_iload_n (i := 1) (j := 1) X (ix_tb_at tb_X12_suppose 4 rfl) rfl rfl (pc1 := 9) rfl ?_
  refine ix_if_le (tgt := 16) X (ix_tb_at tb_X12_suppose 5 rfl) (by decide) (pc1 := 12) rfl (fun q_7 => ?_) (fun q_7 => ?_)
  · have h := ix_ift q_7 h
    refine ix_iconst (v := 0) X (ix_tb_at tb_X12_suppose 8 rfl) (by decide) (pc1 := 17) rfl ?_
    refine ix_sub (L1 := []) [] rfl ?_
    exact t_X12_suppose_17 hKp X hr hlk  h
  · have h := ix_iff q_7 h
    refine ix_iconst (v := 1) X (ix_tb_at tb_X12_suppose 6 rfl) (by decide) (pc1 := 13) rfl ?_
    refine ix_goto (tgt := 17) X (ix_tb_at tb_X12_suppose 7 rfl) (by decide) ?_
    refine ix_sub (L1 := []) [] rfl ?_
    exact t_X12_suppose_17 hKp X hr hlk  h
def tab_X12_press : List (Nat × Instr × Nat) := [(0, .iconst 0, 1), (1, .istore 4, 2), (3, .iconst 0, 1), (4, .istore 5, 2), (6, .iload_n 2, 1), (7, .istore 6, 2), (9, .iload 6, 2), (11, .iload_n 3, 1), (12, .if_icmp .ge 88, 3), (15, .iload 4, 2), (17, .iconst 2, 1), (18, .if_icmp .ge 82, 3), (21, .iload_n 1, 1), (22, .ifCond .eq 13, 3), (25, .aload_n 0, 1), (26, .getfield 65, 3), (29, .iload 6, 2), (31, .iaload, 1), (32, .goto 10, 3), (35, .aload_n 0, 1), (36, .getfield 225, 3), (39, .iload 6, 2), (41, .iaload, 1), (42, .istore 7, 2), (44, .aload_n 0, 1), (45, .iload 7, 2), (47, .invokevirtual 608, 3), (50, .istore 8, 2), (52, .iload 8, 2), (54, .iconst 2, 1), (55, .if_icmp .ne 8, 3), (58, .iload 7, 2), (60, .goto 5, 3), (63, .iload 5, 2), (65, .istore 5, 2), (67, .iload 8, 2), (69, .iconst 1, 1), (70, .if_icmp .ne 7, 3), (73, .iconst 2, 1), (74, .goto 18, 3), (77, .iload 8, 2), (79, .iconst 2, 1), (80, .if_icmp .ne 10, 3), (83, .iload 4, 2), (85, .iconst 1, 1), (86, .iadd, 1), (87, .goto 5, 3), (90, .iload 4, 2), (92, .istore 4, 2), (94, .iinc 6 1, 3), (97, .goto (-88), 3), (100, .aload_n 0, 1), (101, .aload_n 0, 1), (102, .getfield 611, 3), (105, .ifCond .ne 8, 3), (108, .iload 4, 2), (110, .ifCond .ne 7, 3), (113, .iconst 1, 1), (114, .goto 4, 3), (117, .iconst 0, 1), (118, .putfield 611, 3), (121, .iload 4, 2), (123, .iconst 1, 1), (124, .if_icmp .ne 14, 3), (127, .aload_n 0, 1), (128, .iload 5, 2), (130, .invokevirtual 614, 3), (133, .aload_n 0, 1), (134, .iconst 1, 1), (135, .putfield 617, 3), (138, .return_, 1)]
theorem tb_X12_press : ix_tab cX12_press tab_X12_press := by
  unfold ix_tab
  decide +kernel
noncomputable def f_X12_press_118 (n : Nat) (z : ix_Z)  (a0 : Nat) (x4 : Int32) (x5 : Int32) (s0 : Int32) (s1 : Nat) (d : ix_D2) : Option (ix_D2) :=
  ix_ck (ix_ok z [11] s1) (ix_ck (s0 = 0 ∨ s0 = 1) (ix_lt (ix_di d s1 113 s0) (fun d_6 => ix_if (x4 = 1) (ix_ck (ix_ok z [11] a0) (ix_bd1 (f_X12_suppose n z a0 x5 d_6) (fun d_9 => ix_lt (ix_di d_9 a0 114 1) (fun d_12 => some d_12)))) (some d_6))))
noncomputable def f_X12_press_113 (n : Nat) (z : ix_Z)  (a0 : Nat) (x4 : Int32) (x5 : Int32) (s0 : Nat) (d : ix_D2) : Option (ix_D2) :=
  f_X12_press_118 n z  a0 x4 x5 1 s0 d
noncomputable def f_X12_press_100 (n : Nat) (z : ix_Z)  (a0 : Nat) (x4 : Int32) (x5 : Int32) (d : ix_D2) : Option (ix_D2) :=
  ix_ck (ix_ok z [11] a0) (ix_if (d.1 a0 113 = 0) (ix_if (x4 = 0) (f_X12_press_113 n z  a0 x4 x5 a0 d) (f_X12_press_118 n z  a0 x4 x5 0 a0 d)) (f_X12_press_113 n z  a0 x4 x5 a0 d))
noncomputable def f_X12_press_92 (n : Nat) (z : ix_Z) (rec9 : Int32 → Int32 → Int32 → ix_D2 → Option (ix_D2)) (a0 : Nat) (x1 : Int32) (x3 : Int32) (x5 : Int32) (x6 : Int32) (s0 : Int32) (d : ix_D2) : Option (ix_D2) :=
  ix_lt (x6 + 1) (fun x6_28 => rec9 s0 x5 x6_28 d)
noncomputable def f_X12_press_65 (n : Nat) (z : ix_Z) (rec9 : Int32 → Int32 → Int32 → ix_D2 → Option (ix_D2)) (a0 : Nat) (x1 : Int32) (x3 : Int32) (x4 : Int32) (x6 : Int32) (x8 : Int32) (s0 : Int32) (d : ix_D2) : Option (ix_D2) :=
  ix_if (x8 = 1) (f_X12_press_92 n z rec9 a0 x1 x3 s0 x6 2 d) (ix_if (x8 = 2) (f_X12_press_92 n z rec9 a0 x1 x3 s0 x6 (x4 + 1) d) (f_X12_press_92 n z rec9 a0 x1 x3 s0 x6 x4 d))
noncomputable def f_X12_press_42 (n : Nat) (z : ix_Z) (rec9 : Int32 → Int32 → Int32 → ix_D2 → Option (ix_D2)) (a0 : Nat) (x1 : Int32) (x3 : Int32) (x4 : Int32) (x5 : Int32) (x6 : Int32) (s0 : Int32) (d : ix_D2) : Option (ix_D2) :=
  ix_ck (ix_ok z [11] a0) (ix_bd2 (f_X12_supposedOf n z a0 s0 d) (fun r_24 d_21 => ix_if (r_24 = 2) (f_X12_press_65 n z rec9 a0 x1 x3 x4 x6 r_24 s0 d_21) (f_X12_press_65 n z rec9 a0 x1 x3 x4 x6 r_24 x5 d_21)))
noncomputable def b_X12_press_9 (n : Nat) (z : ix_Z)  (a0 : Nat) (x1 : Int32) (x3 : Int32) (rec9 : Int32 → Int32 → Int32 → ix_D2 → Option (ix_D2)) (x4 : Int32) (x5 : Int32) (x6 : Int32) (d : ix_D2) : Option (ix_D2) :=
  ix_if (x3 ≤ x6) (f_X12_press_100 n z  a0 x4 x5 d) (ix_if (2 ≤ x4) (f_X12_press_100 n z  a0 x4 x5 d) (ix_if (x1 = 0) (ix_ck (ix_ok z [11] a0) (ix_bd1 (z.1 a0 110) (fun b_18 => ix_ck (ix_ix z 20 b_18 x6) (f_X12_press_42 n z rec9 a0 x1 x3 x4 x5 x6 (d.1 b_18 (ix_n x6)) d)))) (ix_ck (ix_ok z [11] a0) (ix_bd1 (z.1 a0 25) (fun b_31 => ix_ck (ix_ix z 20 b_31 x6) (f_X12_press_42 n z rec9 a0 x1 x3 x4 x5 x6 (d.1 b_31 (ix_n x6)) d))))))
noncomputable def f_X12_press_9 (n : Nat) (z : ix_Z)  (a0 : Nat) (x1 : Int32) (x3 : Int32) (x4 : Int32) (x5 : Int32) (x6 : Int32) (d : ix_D2) : Option (ix_D2) := ix_fix (b_X12_press_9 n z  a0 x1 x3) (fun _ _ _ _ => none) n x4 x5 x6 d
noncomputable def f_X12_press (n : Nat) (z : ix_Z) (a0 : Nat) (x1 : Int32) (x2 : Int32) (x3 : Int32) (d : ix_D2) : Option (ix_D2) :=
  f_X12_press_9 n z  a0 x1 x3 0 0 x2 d
set_option maxRecDepth 20000 in
theorem t_X12_press_118 {l : Launch} {p : Program} {e : Env} {s : State} {m : MethodId} {args : Array Value} {below : List Frame} {meth : Method} {c : Code} {K : ix_Cx} (hKp : ix_Kp K) {n : Nat} {z : ix_Z} (X : ix_X p s m args c K cX12_press RX12 9) (hr : meth.sig.returnType = (none : Option Jvm.ClassFile.FieldType)) (hlk : meth.locks = false)  {a0 : Nat} {x4 : Int32} {x5 : Int32} {s0 : Int32} {s1 : Nat} {d1 : ix_D2}  {d : ix_D2} (h : f_X12_press_118 n z  a0 x4 x5 s0 s1 d = some d1) : ix_G p l e (ix_rm 2 42 0 0) s m args below meth c (MQ below (ix_Post K none (ix_w z d1)) args s 0 0 (ix_A K)) K 9 0 0 118 [(0, .ref (K.2.2.1 + a0)), (4, .int x4), (5, .int x5)] [.int s0, .ref (K.2.2.1 + s1)] (ix_w z d) := by
  unfold f_X12_press_118 at h
  obtain ⟨k_4, h⟩ := ix_ck_some h
  obtain ⟨k_5, h⟩ := ix_ck_some h
  obtain ⟨d_6, e_7, h⟩ := ix_lt_ex h
  refine iz_putZ X fp_RX12_611 k_4 (ix_tb_at tb_X12_press 60 rfl) k_5 e_7 (pc1 := 121) rfl ?_
  refine ix_iload (i := 4) (j := 1) X (ix_tb_at tb_X12_press 61 rfl) rfl (pc1 := 123) rfl ?_
  refine ix_iconst (v := 1) X (ix_tb_at tb_X12_press 62 rfl) (by decide) (pc1 := 124) rfl ?_
  refine ix_icmp_ne (tgt := 138) X (ix_tb_at tb_X12_press 63 rfl) (by decide) (pc1 := 127) rfl (fun q_8 => ?_) (fun q_8 => ?_)
  · have h := ix_iff q_8 h
    exact ix_vret X hr hlk (ix_r1 (g := ix_w z) h) (ix_tb_at tb_X12_press 70 rfl)
  · have h := ix_ift q_8 h
    refine ix_aload_n (i := 0) (j := 0) X (ix_tb_at tb_X12_press 64 rfl) rfl rfl (pc1 := 128) rfl ?_
    refine ix_iload (i := 5) (j := 2) X (ix_tb_at tb_X12_press 65 rfl) rfl (pc1 := 130) rfl ?_
    obtain ⟨k_11, h⟩ := ix_ck_some h
    obtain ⟨d_9, h_10, h⟩ := ix_bd1_ex h
    refine ix_callV (As := [.int x5]) (rest := []) (ci := 11) (T := TX12) (nf := 116) X mf_X12_suppose mi_X12_suppose ms_X12_suppose rfl (Nat.le_of_ble_eq_true rfl) ml_RX12_614 ⟨Nat.le_of_ble_eq_true rfl, Nat.le_of_ble_eq_true rfl⟩ ⟨Nat.le_of_ble_eq_true rfl, Nat.le_of_ble_eq_true rfl⟩ rfl (Nat.le_of_ble_eq_true rfl) (ix_tb_at tb_X12_press 66 rfl) ⟨k_11.1, List.mem_singleton.mp k_11.2⟩ (c_X12_suppose hKp h_10) rfl (pc1 := 133) rfl ?_
    refine ix_aload_n (i := 0) (j := 0) X (ix_tb_at tb_X12_press 67 rfl) rfl rfl (pc1 := 134) rfl ?_
    refine ix_iconst (v := 1) X (ix_tb_at tb_X12_press 68 rfl) (by decide) (pc1 := 135) rfl ?_
    obtain ⟨d_12, e_13, h⟩ := ix_lt_ex h
    refine iz_putZ X fp_RX12_617 k_11 (ix_tb_at tb_X12_press 69 rfl) (by decide) e_13 (pc1 := 138) rfl ?_
    exact ix_vret X hr hlk (ix_r1 (g := ix_w z) h) (ix_tb_at tb_X12_press 70 rfl)
set_option maxRecDepth 20000 in
theorem t_X12_press_113 {l : Launch} {p : Program} {e : Env} {s : State} {m : MethodId} {args : Array Value} {below : List Frame} {meth : Method} {c : Code} {K : ix_Cx} (hKp : ix_Kp K) {n : Nat} {z : ix_Z} (X : ix_X p s m args c K cX12_press RX12 9) (hr : meth.sig.returnType = (none : Option Jvm.ClassFile.FieldType)) (hlk : meth.locks = false)  {a0 : Nat} {x4 : Int32} {x5 : Int32} {s0 : Nat} {d1 : ix_D2}  {d : ix_D2} (h : f_X12_press_113 n z  a0 x4 x5 s0 d = some d1) : ix_G p l e (ix_rm 2 42 0 0) s m args below meth c (MQ below (ix_Post K none (ix_w z d1)) args s 0 0 (ix_A K)) K 9 0 0 113 [(0, .ref (K.2.2.1 + a0)), (4, .int x4), (5, .int x5)] [.ref (K.2.2.1 + s0)] (ix_w z d) := by
  unfold f_X12_press_113 at h
  refine ix_iconst (v := 1) X (ix_tb_at tb_X12_press 57 rfl) (by decide) (pc1 := 114) rfl ?_
  refine ix_goto (tgt := 118) X (ix_tb_at tb_X12_press 58 rfl) (by decide) ?_
  refine ix_sub (L1 := [(0, .ref (K.2.2.1 + a0)), (4, .int x4), (5, .int x5)]) [0, 1, 2] rfl ?_
  exact t_X12_press_118 hKp X hr hlk  h
set_option maxRecDepth 20000 in
theorem t_X12_press_100 {l : Launch} {p : Program} {e : Env} {s : State} {m : MethodId} {args : Array Value} {below : List Frame} {meth : Method} {c : Code} {K : ix_Cx} (hKp : ix_Kp K) {n : Nat} {z : ix_Z} (X : ix_X p s m args c K cX12_press RX12 9) (hr : meth.sig.returnType = (none : Option Jvm.ClassFile.FieldType)) (hlk : meth.locks = false)  {a0 : Nat} {x4 : Int32} {x5 : Int32} {d1 : ix_D2}  {d : ix_D2} (h : f_X12_press_100 n z  a0 x4 x5 d = some d1) : ix_G p l e (ix_rm 2 42 0 0) s m args below meth c (MQ below (ix_Post K none (ix_w z d1)) args s 0 0 (ix_A K)) K 9 0 0 100 [(0, .ref (K.2.2.1 + a0)), (4, .int x4), (5, .int x5)] [] (ix_w z d) := by
  unfold f_X12_press_100 at h
  refine ix_aload_n (i := 0) (j := 0) X (ix_tb_at tb_X12_press 51 rfl) rfl rfl (pc1 := 101) rfl ?_
  refine ix_aload_n (i := 0) (j := 0) X (ix_tb_at tb_X12_press 52 rfl) rfl rfl (pc1 := 102) rfl ?_
  obtain ⟨k_2, h⟩ := ix_ck_some h
  refine iz_getI X fl_RX12_611 k_2 (ix_tb_at tb_X12_press 53 rfl) (pc1 := 105) rfl ?_
  refine ix_if_ne (tgt := 113) X (ix_tb_at tb_X12_press 54 rfl) (by decide) (pc1 := 108) rfl (fun q_3 => ?_) (fun q_3 => ?_)
  · have h := ix_iff q_3 h
    refine ix_sub (L1 := [(0, .ref (K.2.2.1 + a0)), (4, .int x4), (5, .int x5)]) [0, 1, 2] rfl ?_
    exact t_X12_press_113 hKp X hr hlk  h
  · have h := ix_ift q_3 h
    refine ix_iload (i := 4) (j := 1) X (ix_tb_at tb_X12_press 55 rfl) rfl (pc1 := 110) rfl ?_
    refine ix_if_ne (tgt := 117) X (ix_tb_at tb_X12_press 56 rfl) (by decide) (pc1 := 113) rfl (fun q_14 => ?_) (fun q_14 => ?_)
    · have h := ix_iff q_14 h
      refine ix_iconst (v := 0) X (ix_tb_at tb_X12_press 59 rfl) (by decide) (pc1 := 118) rfl ?_
      refine ix_sub (L1 := [(0, .ref (K.2.2.1 + a0)), (4, .int x4), (5, .int x5)]) [0, 1, 2] rfl ?_
      exact t_X12_press_118 hKp X hr hlk  h
    · have h := ix_ift q_14 h
      refine ix_sub (L1 := [(0, .ref (K.2.2.1 + a0)), (4, .int x4), (5, .int x5)]) [0, 1, 2] rfl ?_
      exact t_X12_press_113 hKp X hr hlk  h
set_option maxRecDepth 20000 in
theorem t_X12_press_92 {l : Launch} {p : Program} {e : Env} {s : State} {m : MethodId} {args : Array Value} {below : List Frame} {meth : Method} {c : Code} {K : ix_Cx} (hKp : ix_Kp K) {n : Nat} {z : ix_Z} (X : ix_X p s m args c K cX12_press RX12 9) (hr : meth.sig.returnType = (none : Option Jvm.ClassFile.FieldType)) (hlk : meth.locks = false) {rec9 : Int32 → Int32 → Int32 → ix_D2 → Option (ix_D2)} {a0 : Nat} {x1 : Int32} {x3 : Int32} {x5 : Int32} {x6 : Int32} {s0 : Int32} {d1 : ix_D2} (hrec9 : ∀ (x4 : Int32) (x5 : Int32) (x6 : Int32) (d : ix_D2), rec9 x4 x5 x6 d = some d1 → ix_G p l e (ix_rm 2 42 0 0) s m args below meth c (MQ below (ix_Post K none (ix_w z d1)) args s 0 0 (ix_A K)) K 9 0 0 9 [(0, .ref (K.2.2.1 + a0)), (1, .int x1), (3, .int x3), (4, .int x4), (5, .int x5), (6, .int x6)] [] (ix_w z d)) {d : ix_D2} (h : f_X12_press_92 n z rec9 a0 x1 x3 x5 x6 s0 d = some d1) : ix_G p l e (ix_rm 2 42 0 0) s m args below meth c (MQ below (ix_Post K none (ix_w z d1)) args s 0 0 (ix_A K)) K 9 0 0 92 [(0, .ref (K.2.2.1 + a0)), (1, .int x1), (3, .int x3), (5, .int x5), (6, .int x6)] [.int s0] (ix_w z d) := by
  unfold f_X12_press_92 at h
  refine ix_istore (i := 4) (L1 := [(4, .int s0), (0, .ref (K.2.2.1 + a0)), (1, .int x1), (3, .int x3), (5, .int x5), (6, .int x6)]) X (ix_tb_at tb_X12_press 48 rfl) (Nat.le_of_ble_eq_true rfl) rfl (pc1 := 94) rfl ?_
  obtain ⟨x6_28, e_29, h⟩ := ix_lt_ex h
  refine ix_iinc (i := 6) (j := 5) (v := x6_28) (L1 := [(6, .int x6_28), (4, .int s0), (0, .ref (K.2.2.1 + a0)), (1, .int x1), (3, .int x3), (5, .int x5)]) X (ix_tb_at tb_X12_press 49 rfl) rfl (by rw [oi_1]; exact e_29.symm) (Nat.le_of_ble_eq_true rfl) rfl (pc1 := 97) rfl ?_
  refine ix_goto (tgt := 9) X (ix_tb_at tb_X12_press 50 rfl) (by decide) ?_
  refine ix_sub (L1 := [(0, .ref (K.2.2.1 + a0)), (1, .int x1), (3, .int x3), (4, .int s0), (5, .int x5), (6, .int x6_28)]) [2, 3, 4, 1, 5, 0] rfl ?_
  exact hrec9 s0 x5 x6_28 d h
set_option maxRecDepth 20000 in
theorem t_X12_press_65 {l : Launch} {p : Program} {e : Env} {s : State} {m : MethodId} {args : Array Value} {below : List Frame} {meth : Method} {c : Code} {K : ix_Cx} (hKp : ix_Kp K) {n : Nat} {z : ix_Z} (X : ix_X p s m args c K cX12_press RX12 9) (hr : meth.sig.returnType = (none : Option Jvm.ClassFile.FieldType)) (hlk : meth.locks = false) {rec9 : Int32 → Int32 → Int32 → ix_D2 → Option (ix_D2)} {a0 : Nat} {x1 : Int32} {x3 : Int32} {x4 : Int32} {x6 : Int32} {x8 : Int32} {s0 : Int32} {d1 : ix_D2} (hrec9 : ∀ (x4 : Int32) (x5 : Int32) (x6 : Int32) (d : ix_D2), rec9 x4 x5 x6 d = some d1 → ix_G p l e (ix_rm 2 42 0 0) s m args below meth c (MQ below (ix_Post K none (ix_w z d1)) args s 0 0 (ix_A K)) K 9 0 0 9 [(0, .ref (K.2.2.1 + a0)), (1, .int x1), (3, .int x3), (4, .int x4), (5, .int x5), (6, .int x6)] [] (ix_w z d)) {d : ix_D2} (h : f_X12_press_65 n z rec9 a0 x1 x3 x4 x6 x8 s0 d = some d1) : ix_G p l e (ix_rm 2 42 0 0) s m args below meth c (MQ below (ix_Post K none (ix_w z d1)) args s 0 0 (ix_A K)) K 9 0 0 65 [(0, .ref (K.2.2.1 + a0)), (1, .int x1), (3, .int x3), (4, .int x4), (6, .int x6), (8, .int x8)] [.int s0] (ix_w z d) := by
  unfold f_X12_press_65 at h
  refine ix_istore (i := 5) (L1 := [(5, .int s0), (0, .ref (K.2.2.1 + a0)), (1, .int x1), (3, .int x3), (4, .int x4), (6, .int x6), (8, .int x8)]) X (ix_tb_at tb_X12_press 34 rfl) (Nat.le_of_ble_eq_true rfl) rfl (pc1 := 67) rfl ?_
  refine ix_iload (i := 8) (j := 6) X (ix_tb_at tb_X12_press 35 rfl) rfl (pc1 := 69) rfl ?_
  refine ix_iconst (v := 1) X (ix_tb_at tb_X12_press 36 rfl) (by decide) (pc1 := 70) rfl ?_
  refine ix_icmp_ne (tgt := 77) X (ix_tb_at tb_X12_press 37 rfl) (by decide) (pc1 := 73) rfl (fun q_26 => ?_) (fun q_26 => ?_)
  · have h := ix_iff q_26 h
    refine ix_iload (i := 8) (j := 6) X (ix_tb_at tb_X12_press 40 rfl) rfl (pc1 := 79) rfl ?_
    refine ix_iconst (v := 2) X (ix_tb_at tb_X12_press 41 rfl) (by decide) (pc1 := 80) rfl ?_
    refine ix_icmp_ne (tgt := 90) X (ix_tb_at tb_X12_press 42 rfl) (by decide) (pc1 := 83) rfl (fun q_27 => ?_) (fun q_27 => ?_)
    · have h := ix_iff q_27 h
      refine ix_iload (i := 4) (j := 4) X (ix_tb_at tb_X12_press 47 rfl) rfl (pc1 := 92) rfl ?_
      refine ix_sub (L1 := [(0, .ref (K.2.2.1 + a0)), (1, .int x1), (3, .int x3), (5, .int s0), (6, .int x6)]) [1, 2, 3, 0, 5] rfl ?_
      exact t_X12_press_92 hKp X hr hlk hrec9 h
    · have h := ix_ift q_27 h
      refine ix_iload (i := 4) (j := 4) X (ix_tb_at tb_X12_press 43 rfl) rfl (pc1 := 85) rfl ?_
      refine ix_iconst (v := 1) X (ix_tb_at tb_X12_press 44 rfl) (by decide) (pc1 := 86) rfl ?_
      refine ix_iadd X (ix_tb_at tb_X12_press 45 rfl) (pc1 := 87) rfl ?_
      refine ix_goto (tgt := 92) X (ix_tb_at tb_X12_press 46 rfl) (by decide) ?_
      refine ix_sub (L1 := [(0, .ref (K.2.2.1 + a0)), (1, .int x1), (3, .int x3), (5, .int s0), (6, .int x6)]) [1, 2, 3, 0, 5] rfl ?_
      exact t_X12_press_92 hKp X hr hlk hrec9 h
  · have h := ix_ift q_26 h
    refine ix_iconst (v := 2) X (ix_tb_at tb_X12_press 38 rfl) (by decide) (pc1 := 74) rfl ?_
    refine ix_goto (tgt := 92) X (ix_tb_at tb_X12_press 39 rfl) (by decide) ?_
    refine ix_sub (L1 := [(0, .ref (K.2.2.1 + a0)), (1, .int x1), (3, .int x3), (5, .int s0), (6, .int x6)]) [1, 2, 3, 0, 5] rfl ?_
    exact t_X12_press_92 hKp X hr hlk hrec9 h
set_option maxRecDepth 20000 in
theorem t_X12_press_42 {l : Launch} {p : Program} {e : Env} {s : State} {m : MethodId} {args : Array Value} {below : List Frame} {meth : Method} {c : Code} {K : ix_Cx} (hKp : ix_Kp K) {n : Nat} {z : ix_Z} (X : ix_X p s m args c K cX12_press RX12 9) (hr : meth.sig.returnType = (none : Option Jvm.ClassFile.FieldType)) (hlk : meth.locks = false) {rec9 : Int32 → Int32 → Int32 → ix_D2 → Option (ix_D2)} {a0 : Nat} {x1 : Int32} {x3 : Int32} {x4 : Int32} {x5 : Int32} {x6 : Int32} {s0 : Int32} {d1 : ix_D2} (hrec9 : ∀ (x4 : Int32) (x5 : Int32) (x6 : Int32) (d : ix_D2), rec9 x4 x5 x6 d = some d1 → ix_G p l e (ix_rm 2 42 0 0) s m args below meth c (MQ below (ix_Post K none (ix_w z d1)) args s 0 0 (ix_A K)) K 9 0 0 9 [(0, .ref (K.2.2.1 + a0)), (1, .int x1), (3, .int x3), (4, .int x4), (5, .int x5), (6, .int x6)] [] (ix_w z d)) {d : ix_D2} (h : f_X12_press_42 n z rec9 a0 x1 x3 x4 x5 x6 s0 d = some d1) : ix_G p l e (ix_rm 2 42 0 0) s m args below meth c (MQ below (ix_Post K none (ix_w z d1)) args s 0 0 (ix_A K)) K 9 0 0 42 [(0, .ref (K.2.2.1 + a0)), (1, .int x1), (3, .int x3), (4, .int x4), (5, .int x5), (6, .int x6)] [.int s0] (ix_w z d) := by
  unfold f_X12_press_42 at h
  refine ix_istore (i := 7) (L1 := [(7, .int s0), (0, .ref (K.2.2.1 + a0)), (1, .int x1), (3, .int x3), (4, .int x4), (5, .int x5), (6, .int x6)]) X (ix_tb_at tb_X12_press 23 rfl) (Nat.le_of_ble_eq_true rfl) rfl (pc1 := 44) rfl ?_
  refine ix_aload_n (i := 0) (j := 1) X (ix_tb_at tb_X12_press 24 rfl) rfl rfl (pc1 := 45) rfl ?_
  refine ix_iload (i := 7) (j := 0) X (ix_tb_at tb_X12_press 25 rfl) rfl (pc1 := 47) rfl ?_
  obtain ⟨k_23, h⟩ := ix_ck_some h
  obtain ⟨r_24, d_21, h_22, h⟩ := ix_bd2_ex h
  refine ix_callV (As := [.int s0]) (rest := []) (ci := 11) (T := TX12) (nf := 116) X mf_X12_supposedOf mi_X12_supposedOf ms_X12_supposedOf rfl (Nat.le_of_ble_eq_true rfl) ml_RX12_608 ⟨Nat.le_of_ble_eq_true rfl, Nat.le_of_ble_eq_true rfl⟩ ⟨Nat.le_of_ble_eq_true rfl, Nat.le_of_ble_eq_true rfl⟩ rfl (Nat.le_of_ble_eq_true rfl) (ix_tb_at tb_X12_press 26 rfl) ⟨k_23.1, List.mem_singleton.mp k_23.2⟩ (c_X12_supposedOf hKp h_22) rfl (pc1 := 50) rfl ?_
  refine ix_istore (i := 8) (L1 := [(8, .int r_24), (7, .int s0), (0, .ref (K.2.2.1 + a0)), (1, .int x1), (3, .int x3), (4, .int x4), (5, .int x5), (6, .int x6)]) X (ix_tb_at tb_X12_press 27 rfl) (Nat.le_of_ble_eq_true rfl) rfl (pc1 := 52) rfl ?_
  refine ix_iload (i := 8) (j := 0) X (ix_tb_at tb_X12_press 28 rfl) rfl (pc1 := 54) rfl ?_
  refine ix_iconst (v := 2) X (ix_tb_at tb_X12_press 29 rfl) (by decide) (pc1 := 55) rfl ?_
  refine ix_icmp_ne (tgt := 63) X (ix_tb_at tb_X12_press 30 rfl) (by decide) (pc1 := 58) rfl (fun q_25 => ?_) (fun q_25 => ?_)
  · have h := ix_iff q_25 h
    refine ix_iload (i := 5) (j := 6) X (ix_tb_at tb_X12_press 33 rfl) rfl (pc1 := 65) rfl ?_
    refine ix_sub (L1 := [(0, .ref (K.2.2.1 + a0)), (1, .int x1), (3, .int x3), (4, .int x4), (6, .int x6), (8, .int r_24)]) [2, 3, 4, 5, 7, 0] rfl ?_
    exact t_X12_press_65 hKp X hr hlk hrec9 h
  · have h := ix_ift q_25 h
    refine ix_iload (i := 7) (j := 1) X (ix_tb_at tb_X12_press 31 rfl) rfl (pc1 := 60) rfl ?_
    refine ix_goto (tgt := 65) X (ix_tb_at tb_X12_press 32 rfl) (by decide) ?_
    refine ix_sub (L1 := [(0, .ref (K.2.2.1 + a0)), (1, .int x1), (3, .int x3), (4, .int x4), (6, .int x6), (8, .int r_24)]) [2, 3, 4, 5, 7, 0] rfl ?_
    exact t_X12_press_65 hKp X hr hlk hrec9 h
set_option maxRecDepth 20000 in
theorem tb_X12_press_9 {l : Launch} {p : Program} {e : Env} {s : State} {m : MethodId} {args : Array Value} {below : List Frame} {meth : Method} {c : Code} {K : ix_Cx} (hKp : ix_Kp K) {n : Nat} {z : ix_Z} (X : ix_X p s m args c K cX12_press RX12 9) (hr : meth.sig.returnType = (none : Option Jvm.ClassFile.FieldType)) (hlk : meth.locks = false)  {a0 : Nat} {x1 : Int32} {x3 : Int32} {rec9 : Int32 → Int32 → Int32 → ix_D2 → Option (ix_D2)} {d1 : ix_D2} (hrec9 : ∀ (x4 : Int32) (x5 : Int32) (x6 : Int32) (d : ix_D2), rec9 x4 x5 x6 d = some d1 → ix_G p l e (ix_rm 2 42 0 0) s m args below meth c (MQ below (ix_Post K none (ix_w z d1)) args s 0 0 (ix_A K)) K 9 0 0 9 [(0, .ref (K.2.2.1 + a0)), (1, .int x1), (3, .int x3), (4, .int x4), (5, .int x5), (6, .int x6)] [] (ix_w z d)) {x4 : Int32} {x5 : Int32} {x6 : Int32} {d : ix_D2} (h : b_X12_press_9 n z  a0 x1 x3 rec9 x4 x5 x6 d = some d1) : ix_G p l e (ix_rm 2 42 0 0) s m args below meth c (MQ below (ix_Post K none (ix_w z d1)) args s 0 0 (ix_A K)) K 9 0 0 9 [(0, .ref (K.2.2.1 + a0)), (1, .int x1), (3, .int x3), (4, .int x4), (5, .int x5), (6, .int x6)] [] (ix_w z d) := by
  unfold b_X12_press_9 at h
  refine ix_iload (i := 6) (j := 5) X (ix_tb_at tb_X12_press 6 rfl) rfl (pc1 := 11) rfl ?_
  refine ix_iload_n (i := 3) (j := 2) X (ix_tb_at tb_X12_press 7 rfl) rfl rfl (pc1 := 12) rfl ?_
  refine ix_icmp_ge (tgt := 100) X (ix_tb_at tb_X12_press 8 rfl) (by decide) (pc1 := 15) rfl (fun q_1 => ?_) (fun q_1 => ?_)
  · have h := ix_ift q_1 h
    refine ix_sub (L1 := [(0, .ref (K.2.2.1 + a0)), (4, .int x4), (5, .int x5)]) [0, 3, 4] rfl ?_
    exact t_X12_press_100 hKp X hr hlk  h
  · have h := ix_iff q_1 h
    refine ix_iload (i := 4) (j := 3) X (ix_tb_at tb_X12_press 9 rfl) rfl (pc1 := 17) rfl ?_
    refine ix_iconst (v := 2) X (ix_tb_at tb_X12_press 10 rfl) (by decide) (pc1 := 18) rfl ?_
    refine ix_icmp_ge (tgt := 100) X (ix_tb_at tb_X12_press 11 rfl) (by decide) (pc1 := 21) rfl (fun q_15 => ?_) (fun q_15 => ?_)
    · have h := ix_ift q_15 h
      refine ix_sub (L1 := [(0, .ref (K.2.2.1 + a0)), (4, .int x4), (5, .int x5)]) [0, 3, 4] rfl ?_
      exact t_X12_press_100 hKp X hr hlk  h
    · have h := ix_iff q_15 h
      refine ix_iload_n (i := 1) (j := 1) X (ix_tb_at tb_X12_press 12 rfl) rfl rfl (pc1 := 22) rfl ?_
      refine ix_if_eq (tgt := 35) X (ix_tb_at tb_X12_press 13 rfl) (by decide) (pc1 := 25) rfl (fun q_16 => ?_) (fun q_16 => ?_)
      · have h := ix_ift q_16 h
        refine ix_aload_n (i := 0) (j := 0) X (ix_tb_at tb_X12_press 19 rfl) rfl rfl (pc1 := 36) rfl ?_
        obtain ⟨k_17, h⟩ := ix_ck_some h
        obtain ⟨b_18, q_19, h⟩ := ix_bd1_ex h
        refine iz_getR X fl_RX12_225 k_17 q_19 (ix_tb_at tb_X12_press 20 rfl) (pc1 := 39) rfl ?_
        refine ix_iload (i := 6) (j := 5) X (ix_tb_at tb_X12_press 21 rfl) rfl (pc1 := 41) rfl ?_
        obtain ⟨k_20, h⟩ := ix_ck_some h
        refine iz_iald X k_20 (ix_tb_at tb_X12_press 22 rfl) (pc1 := 42) rfl ?_
        refine ix_sub (L1 := [(0, .ref (K.2.2.1 + a0)), (1, .int x1), (3, .int x3), (4, .int x4), (5, .int x5), (6, .int x6)]) [0, 1, 2, 3, 4, 5] rfl ?_
        exact t_X12_press_42 hKp X hr hlk hrec9 h
      · have h := ix_iff q_16 h
        refine ix_aload_n (i := 0) (j := 0) X (ix_tb_at tb_X12_press 14 rfl) rfl rfl (pc1 := 26) rfl ?_
        obtain ⟨k_30, h⟩ := ix_ck_some h
        obtain ⟨b_31, q_32, h⟩ := ix_bd1_ex h
        refine iz_getR X fl_RX12_65 k_30 q_32 (ix_tb_at tb_X12_press 15 rfl) (pc1 := 29) rfl ?_
        refine ix_iload (i := 6) (j := 5) X (ix_tb_at tb_X12_press 16 rfl) rfl (pc1 := 31) rfl ?_
        obtain ⟨k_33, h⟩ := ix_ck_some h
        refine iz_iald X k_33 (ix_tb_at tb_X12_press 17 rfl) (pc1 := 32) rfl ?_
        refine ix_goto (tgt := 42) X (ix_tb_at tb_X12_press 18 rfl) (by decide) ?_
        refine ix_sub (L1 := [(0, .ref (K.2.2.1 + a0)), (1, .int x1), (3, .int x3), (4, .int x4), (5, .int x5), (6, .int x6)]) [0, 1, 2, 3, 4, 5] rfl ?_
        exact t_X12_press_42 hKp X hr hlk hrec9 h
theorem t_X12_press_9 {l : Launch} {p : Program} {e : Env} {s : State} {m : MethodId} {args : Array Value} {below : List Frame} {meth : Method} {c : Code} {K : ix_Cx} (hKp : ix_Kp K) {n : Nat} {z : ix_Z} (X : ix_X p s m args c K cX12_press RX12 9) (hr : meth.sig.returnType = (none : Option Jvm.ClassFile.FieldType)) (hlk : meth.locks = false)  {a0 : Nat} {x1 : Int32} {x3 : Int32} {d1 : ix_D2}  {x4 : Int32} {x5 : Int32} {x6 : Int32} {d : ix_D2} (h : f_X12_press_9 n z  a0 x1 x3 x4 x5 x6 d = some d1) : ix_G p l e (ix_rm 2 42 0 0) s m args below meth c (MQ below (ix_Post K none (ix_w z d1)) args s 0 0 (ix_A K)) K 9 0 0 9 [(0, .ref (K.2.2.1 + a0)), (1, .int x1), (3, .int x3), (4, .int x4), (5, .int x5), (6, .int x6)] [] (ix_w z d) := by
  have key : ∀ (f : Nat) (x4 : Int32) (x5 : Int32) (x6 : Int32) (d : ix_D2), ix_fix (b_X12_press_9 n z  a0 x1 x3) (fun _ _ _ _ => none) f x4 x5 x6 d = some d1 → ix_G p l e (ix_rm 2 42 0 0) s m args below meth c (MQ below (ix_Post K none (ix_w z d1)) args s 0 0 (ix_A K)) K 9 0 0 9 [(0, .ref (K.2.2.1 + a0)), (1, .int x1), (3, .int x3), (4, .int x4), (5, .int x5), (6, .int x6)] [] (ix_w z d) := by
    intro f
    induction f with
    | zero =>
      intro x4 x5 x6 d h
      have h : (none : Option (ix_D2)) = some d1 := h
      cases h
    | succ f ih =>
      intro x4 x5 x6 d h
      exact tb_X12_press_9 hKp X hr hlk (rec9 := ix_fix (b_X12_press_9 n z  a0 x1 x3) (fun _ _ _ _ => none) f)  ih h
  exact key n x4 x5 x6 d h
set_option maxRecDepth 20000 in
theorem c_X12_press {l : Launch} {K : ix_Cx} (hKp : ix_Kp K) {n : Nat} {z : ix_Z} {a0 : Nat} {x1 : Int32} {x2 : Int32} {x3 : Int32} {d : ix_D2} {d1 : ix_D2} (h : f_X12_press n z a0 x1 x2 x3 d = some d1) : ix_M l K yX12_press cX12_press 9 (none : Option Jvm.ClassFile.FieldType) 2 42 0 0 [.ref (K.2.2.1 + a0), .int x1, .int x2, .int x3] (ix_w z d) none (ix_w z d1) := by
  refine ix_met mf_X12_press hKp (Nat.le_of_ble_eq_true rfl) ?_
  intro p e s m args below meth c hr hlk hnm X
  have X : ix_X p s m args c K cX12_press RX12 9 := X
  show ix_G p l e (ix_rm 2 42 0 0) s m args below meth c (MQ below (ix_Post K none (ix_w z d1)) args s 0 0 (ix_A K)) K 9 0 0 0 [(0, .ref (K.2.2.1 + a0)), (1, .int x1), (2, .int x2), (3, .int x3)] [] (ix_w z d)
  unfold f_X12_press at h
  refine ix_iconst (v := 0) X (ix_tb_at tb_X12_press 0 rfl) (by decide) (pc1 := 1) rfl ?_
  refine ix_istore (i := 4) (L1 := [(4, .int 0), (0, .ref (K.2.2.1 + a0)), (1, .int x1), (2, .int x2), (3, .int x3)]) X (ix_tb_at tb_X12_press 1 rfl) (Nat.le_of_ble_eq_true rfl) rfl (pc1 := 3) rfl ?_
  refine ix_iconst (v := 0) X (ix_tb_at tb_X12_press 2 rfl) (by decide) (pc1 := 4) rfl ?_
  refine ix_istore (i := 5) (L1 := [(5, .int 0), (4, .int 0), (0, .ref (K.2.2.1 + a0)), (1, .int x1), (2, .int x2), (3, .int x3)]) X (ix_tb_at tb_X12_press 3 rfl) (Nat.le_of_ble_eq_true rfl) rfl (pc1 := 6) rfl ?_
  refine ix_iload_n (i := 2) (j := 4) X (ix_tb_at tb_X12_press 4 rfl) rfl rfl (pc1 := 7) rfl ?_
  refine ix_istore (i := 6) (L1 := [(6, .int x2), (5, .int 0), (4, .int 0), (0, .ref (K.2.2.1 + a0)), (1, .int x1), (2, .int x2), (3, .int x3)]) X (ix_tb_at tb_X12_press 5 rfl) (Nat.le_of_ble_eq_true rfl) rfl (pc1 := 9) rfl ?_
  refine ix_sub (L1 := [(0, .ref (K.2.2.1 + a0)), (1, .int x1), (3, .int x3), (4, .int 0), (5, .int 0), (6, .int x2)]) [3, 4, 6, 2, 1, 0] rfl ?_
  exact t_X12_press_9 hKp X hr hlk  h
def tab_X12_follows : List (Nat × Instr × Nat) := [(0, .iconst 0, 1), (1, .istore_n 2, 1), (2, .iload_n 2, 1), (3, .sipush 300, 3), (6, .if_icmp .gt 16, 3), (9, .aload_n 0, 1), (10, .getfield 228, 3), (13, .iload_n 2, 1), (14, .iconst 2, 1), (15, .iastore, 1), (16, .iinc 2 1, 3), (19, .goto (-17), 3), (22, .aload_n 0, 1), (23, .iconst 0, 1), (24, .putfield 611, 3), (27, .aload_n 0, 1), (28, .getfield 222, 3), (31, .iload_n 1, 1), (32, .iaload, 1), (33, .istore_n 2, 1), (34, .iload_n 2, 1), (35, .aload_n 0, 1), (36, .getfield 222, 3), (39, .iload_n 1, 1), (40, .iconst 1, 1), (41, .iadd, 1), (42, .iaload, 1), (43, .if_icmp .ge 50, 3), (46, .aload_n 0, 1), (47, .aload_n 0, 1), (48, .getfield 611, 3), (51, .ifCond .ne 17, 3), (54, .aload_n 0, 1), (55, .aload_n 0, 1), (56, .getfield 225, 3), (59, .iload_n 2, 1), (60, .iaload, 1), (61, .invokevirtual 608, 3), (64, .iconst 1, 1), (65, .if_icmp .ne 7, 3), (68, .iconst 1, 1), (69, .goto 4, 3), (72, .iconst 0, 1), (73, .putfield 611, 3), (76, .aload_n 0, 1), (77, .aload_n 0, 1), (78, .getfield 225, 3), (81, .iload_n 2, 1), (82, .iaload, 1), (83, .ineg, 1), (84, .invokevirtual 614, 3), (87, .iinc 2 1, 3), (90, .goto (-56), 3), (93, .aload_n 0, 1), (94, .iconst 1, 1), (95, .putfield 617, 3), (98, .aload_n 0, 1), (99, .getfield 617, 3), (102, .ifCond .eq 99, 3), (105, .aload_n 0, 1), (106, .getfield 611, 3), (109, .ifCond .ne 92, 3), (112, .aload_n 0, 1), (113, .iconst 0, 1), (114, .putfield 617, 3), (117, .iconst 0, 1), (118, .istore_n 2, 1), (119, .iload_n 2, 1), (120, .aload_n 0, 1), (121, .getfield 273, 3), (124, .if_icmp .ge 35, 3), (127, .aload_n 0, 1), (128, .getfield 611, 3), (131, .ifCond .ne 28, 3), (134, .aload_n 0, 1), (135, .iconst 1, 1), (136, .aload_n 0, 1), (137, .getfield 62, 3), (140, .iload_n 2, 1), (141, .iaload, 1), (142, .aload_n 0, 1), (143, .getfield 62, 3), (146, .iload_n 2, 1), (147, .iconst 1, 1), (148, .iadd, 1), (149, .iaload, 1), (150, .invokevirtual 620, 3), (153, .iinc 2 1, 3), (156, .goto (-37), 3), (159, .iconst 0, 1), (160, .istore_n 2, 1), (161, .iload_n 2, 1), (162, .iload_n 1, 1), (163, .if_icmp .ge 35, 3), (166, .aload_n 0, 1), (167, .getfield 611, 3), (170, .ifCond .ne 28, 3), (173, .aload_n 0, 1), (174, .iconst 0, 1), (175, .aload_n 0, 1), (176, .getfield 222, 3), (179, .iload_n 2, 1), (180, .iaload, 1), (181, .aload_n 0, 1), (182, .getfield 222, 3), (185, .iload_n 2, 1), (186, .iconst 1, 1), (187, .iadd, 1), (188, .iaload, 1), (189, .invokevirtual 620, 3), (192, .iinc 2 1, 3), (195, .goto (-34), 3), (198, .goto (-100), 3), (201, .aload_n 0, 1), (202, .getfield 611, 3), (205, .ireturn, 1)]
theorem tb_X12_follows : ix_tab cX12_follows tab_X12_follows := by
  unfold ix_tab
  decide +kernel
noncomputable def f_X12_follows_201 (n : Nat) (z : ix_Z)  (a0 : Nat) (d : ix_D2) : Option (Int32 × ix_D2) :=
  ix_ck (ix_ok z [11] a0) (ix_ck (d.1 a0 113 = 0 ∨ d.1 a0 113 = 1) (some (d.1 a0 113, d)))
noncomputable def f_X12_follows_198 (n : Nat) (z : ix_Z) (rec98 : ix_D2 → Option (Int32 × ix_D2)) (a0 : Nat) (x1 : Int32) (d : ix_D2) : Option (Int32 × ix_D2) :=
  rec98  d
noncomputable def b_X12_follows_161 (n : Nat) (z : ix_Z) (rec98 : ix_D2 → Option (Int32 × ix_D2)) (a0 : Nat) (x1 : Int32) (rec161 : Int32 → ix_D2 → Option (Int32 × ix_D2)) (x2 : Int32) (d : ix_D2) : Option (Int32 × ix_D2) :=
  ix_if (x1 ≤ x2) (f_X12_follows_198 n z rec98 a0 x1 d) (ix_ck (ix_ok z [11] a0) (ix_if (d.1 a0 113 = 0) (ix_bd1 (z.1 a0 109) (fun b_29 => ix_ck (ix_ix z 20 b_29 x2) (ix_ck (ix_ix z 20 b_29 (x2 + 1)) (ix_bd1 (f_X12_press n z a0 0 (d.1 b_29 (ix_n x2)) (d.1 b_29 (ix_n (x2 + 1))) d) (fun d_33 => ix_lt (x2 + 1) (fun x2_35 => rec161 x2_35 d_33)))))) (f_X12_follows_198 n z rec98 a0 x1 d)))
noncomputable def f_X12_follows_161 (n : Nat) (z : ix_Z) (rec98 : ix_D2 → Option (Int32 × ix_D2)) (a0 : Nat) (x1 : Int32) (x2 : Int32) (d : ix_D2) : Option (Int32 × ix_D2) := ix_fix (b_X12_follows_161 n z rec98 a0 x1) (fun _ _ => none) n x2 d
noncomputable def f_X12_follows_159 (n : Nat) (z : ix_Z) (rec98 : ix_D2 → Option (Int32 × ix_D2)) (a0 : Nat) (x1 : Int32) (d : ix_D2) : Option (Int32 × ix_D2) :=
  f_X12_follows_161 n z rec98 a0 x1 0 d
noncomputable def b_X12_follows_119 (n : Nat) (z : ix_Z) (rec98 : ix_D2 → Option (Int32 × ix_D2)) (a0 : Nat) (x1 : Int32) (rec119 : Int32 → ix_D2 → Option (Int32 × ix_D2)) (x2 : Int32) (d : ix_D2) : Option (Int32 × ix_D2) :=
  ix_ck (ix_ok z [11] a0) (ix_if (d.1 a0 23 ≤ x2) (f_X12_follows_159 n z rec98 a0 x1 d) (ix_if (d.1 a0 113 = 0) (ix_bd1 (z.1 a0 24) (fun b_38 => ix_ck (ix_ix z 20 b_38 x2) (ix_ck (ix_ix z 20 b_38 (x2 + 1)) (ix_bd1 (f_X12_press n z a0 1 (d.1 b_38 (ix_n x2)) (d.1 b_38 (ix_n (x2 + 1))) d) (fun d_42 => ix_lt (x2 + 1) (fun x2_44 => rec119 x2_44 d_42)))))) (f_X12_follows_159 n z rec98 a0 x1 d)))
noncomputable def f_X12_follows_119 (n : Nat) (z : ix_Z) (rec98 : ix_D2 → Option (Int32 × ix_D2)) (a0 : Nat) (x1 : Int32) (x2 : Int32) (d : ix_D2) : Option (Int32 × ix_D2) := ix_fix (b_X12_follows_119 n z rec98 a0 x1) (fun _ _ => none) n x2 d
noncomputable def b_X12_follows_98 (n : Nat) (z : ix_Z)  (a0 : Nat) (x1 : Int32) (rec98 : ix_D2 → Option (Int32 × ix_D2))  (d : ix_D2) : Option (Int32 × ix_D2) :=
  ix_ck (ix_ok z [11] a0) (ix_if (d.1 a0 114 = 0) (f_X12_follows_201 n z  a0 d) (ix_if (d.1 a0 113 = 0) (ix_lt (ix_di d a0 114 0) (fun d_22 => f_X12_follows_119 n z rec98 a0 x1 0 d_22)) (f_X12_follows_201 n z  a0 d)))
noncomputable def f_X12_follows_98 (n : Nat) (z : ix_Z)  (a0 : Nat) (x1 : Int32)  (d : ix_D2) : Option (Int32 × ix_D2) := ix_fix (b_X12_follows_98 n z  a0 x1) (fun  _ => none) n  d
noncomputable def f_X12_follows_73 (n : Nat) (z : ix_Z) (rec34 : Int32 → ix_D2 → Option (Int32 × ix_D2)) (a0 : Nat) (x1 : Int32) (x2 : Int32) (s0 : Int32) (s1 : Nat) (d : ix_D2) : Option (Int32 × ix_D2) :=
  ix_ck (ix_ok z [11] s1) (ix_ck (s0 = 0 ∨ s0 = 1) (ix_lt (ix_di d s1 113 s0) (fun d_49 => ix_ck (ix_ok z [11] a0) (ix_bd1 (z.1 a0 110) (fun b_52 => ix_ck (ix_ix z 20 b_52 x2) (ix_bd1 (f_X12_suppose n z a0 (-(d_49.1 b_52 (ix_n x2))) d_49) (fun d_55 => ix_lt (x2 + 1) (fun x2_57 => rec34 x2_57 d_55))))))))
noncomputable def f_X12_follows_68 (n : Nat) (z : ix_Z) (rec34 : Int32 → ix_D2 → Option (Int32 × ix_D2)) (a0 : Nat) (x1 : Int32) (x2 : Int32) (s0 : Nat) (d : ix_D2) : Option (Int32 × ix_D2) :=
  f_X12_follows_73 n z rec34 a0 x1 x2 1 s0 d
noncomputable def b_X12_follows_34 (n : Nat) (z : ix_Z)  (a0 : Nat) (x1 : Int32) (rec34 : Int32 → ix_D2 → Option (Int32 × ix_D2)) (x2 : Int32) (d : ix_D2) : Option (Int32 × ix_D2) :=
  ix_ck (ix_ok z [11] a0) (ix_bd1 (z.1 a0 109) (fun b_11 => ix_ck (ix_ix z 20 b_11 (x1 + 1)) (ix_if (d.1 b_11 (ix_n (x1 + 1)) ≤ x2) (ix_lt (ix_di d a0 114 1) (fun d_15 => f_X12_follows_98 n z  a0 x1  d_15)) (ix_if (d.1 a0 113 = 0) (ix_bd1 (z.1 a0 110) (fun b_59 => ix_ck (ix_ix z 20 b_59 x2) (ix_bd2 (f_X12_supposedOf n z a0 (d.1 b_59 (ix_n x2)) d) (fun r_64 d_62 => ix_if (r_64 = 1) (f_X12_follows_68 n z rec34 a0 x1 x2 a0 d_62) (f_X12_follows_73 n z rec34 a0 x1 x2 0 a0 d_62))))) (f_X12_follows_68 n z rec34 a0 x1 x2 a0 d)))))
noncomputable def f_X12_follows_34 (n : Nat) (z : ix_Z)  (a0 : Nat) (x1 : Int32) (x2 : Int32) (d : ix_D2) : Option (Int32 × ix_D2) := ix_fix (b_X12_follows_34 n z  a0 x1) (fun _ _ => none) n x2 d
noncomputable def b_X12_follows_2 (n : Nat) (z : ix_Z)  (a0 : Nat) (x1 : Int32) (rec2 : Int32 → ix_D2 → Option (Int32 × ix_D2)) (x2 : Int32) (d : ix_D2) : Option (Int32 × ix_D2) :=
  ix_if (300 < x2) (ix_ck (ix_ok z [11] a0) (ix_lt (ix_di d a0 113 0) (fun d_3 => ix_bd1 (z.1 a0 109) (fun b_5 => ix_ck (ix_ix z 20 b_5 x1) (ix_lt (d_3.1 b_5 (ix_n x1)) (fun x2_8 => f_X12_follows_34 n z  a0 x1 x2_8 d_3)))))) (ix_ck (ix_ok z [11] a0) (ix_bd1 (z.1 a0 112) (fun b_67 => ix_ck (ix_ix z 20 b_67 x2) (ix_lt (ix_di d b_67 (ix_n x2) 2) (fun d_70 => ix_lt (x2 + 1) (fun x2_72 => rec2 x2_72 d_70))))))
noncomputable def f_X12_follows_2 (n : Nat) (z : ix_Z)  (a0 : Nat) (x1 : Int32) (x2 : Int32) (d : ix_D2) : Option (Int32 × ix_D2) := ix_fix (b_X12_follows_2 n z  a0 x1) (fun _ _ => none) n x2 d
noncomputable def f_X12_follows (n : Nat) (z : ix_Z) (a0 : Nat) (x1 : Int32) (d : ix_D2) : Option (Int32 × ix_D2) :=
  f_X12_follows_2 n z  a0 x1 0 d
set_option maxRecDepth 20000 in
theorem t_X12_follows_201 {l : Launch} {p : Program} {e : Env} {s : State} {m : MethodId} {args : Array Value} {below : List Frame} {meth : Method} {c : Code} {K : ix_Cx} (hKp : ix_Kp K) {n : Nat} {z : ix_Z} (X : ix_X p s m args c K cX12_follows RX12 3) (hr : meth.sig.returnType = (some .boolean)) (hlk : meth.locks = false)  {a0 : Nat} {r : Int32} {d1 : ix_D2}  {d : ix_D2} (h : f_X12_follows_201 n z  a0 d = some (r, d1)) : ix_G p l e (ix_rm 3 70 0 0) s m args below meth c (MQ below (ix_Post K (some (.int r)) (ix_w z d1)) args s 0 0 (ix_A K)) K 3 0 0 201 [(0, .ref (K.2.2.1 + a0))] [] (ix_w z d) := by
  unfold f_X12_follows_201 at h
  refine ix_aload_n (i := 0) (j := 0) X (ix_tb_at tb_X12_follows 113 rfl) rfl rfl (pc1 := 202) rfl ?_
  obtain ⟨k_19, h⟩ := ix_ck_some h
  refine iz_getI X fl_RX12_611 k_19 (ix_tb_at tb_X12_follows 114 rfl) (pc1 := 205) rfl ?_
  obtain ⟨k_20, h⟩ := ix_ck_some h
  exact ix_zret X hr hlk k_20 (ix_r2 (f := fun r => some (.int r)) (g := ix_w z) h) (ix_tb_at tb_X12_follows 115 rfl)
set_option maxRecDepth 20000 in
theorem t_X12_follows_198 {l : Launch} {p : Program} {e : Env} {s : State} {m : MethodId} {args : Array Value} {below : List Frame} {meth : Method} {c : Code} {K : ix_Cx} (hKp : ix_Kp K) {n : Nat} {z : ix_Z} (X : ix_X p s m args c K cX12_follows RX12 3) (hr : meth.sig.returnType = (some .boolean)) (hlk : meth.locks = false) {rec98 : ix_D2 → Option (Int32 × ix_D2)} {a0 : Nat} {x1 : Int32} {r : Int32} {d1 : ix_D2} (hrec98 : ∀  (d : ix_D2), rec98  d = some (r, d1) → ix_G p l e (ix_rm 3 70 0 0) s m args below meth c (MQ below (ix_Post K (some (.int r)) (ix_w z d1)) args s 0 0 (ix_A K)) K 3 0 0 98 [(0, .ref (K.2.2.1 + a0)), (1, .int x1)] [] (ix_w z d)) {d : ix_D2} (h : f_X12_follows_198 n z rec98 a0 x1 d = some (r, d1)) : ix_G p l e (ix_rm 3 70 0 0) s m args below meth c (MQ below (ix_Post K (some (.int r)) (ix_w z d1)) args s 0 0 (ix_A K)) K 3 0 0 198 [(0, .ref (K.2.2.1 + a0)), (1, .int x1)] [] (ix_w z d) := by
  unfold f_X12_follows_198 at h
  refine ix_goto (tgt := 98) X (ix_tb_at tb_X12_follows 112 rfl) (by decide) ?_
  refine ix_sub (L1 := [(0, .ref (K.2.2.1 + a0)), (1, .int x1)]) [0, 1] rfl ?_
  exact hrec98  d h
set_option maxRecDepth 20000 in
theorem tb_X12_follows_161 {l : Launch} {p : Program} {e : Env} {s : State} {m : MethodId} {args : Array Value} {below : List Frame} {meth : Method} {c : Code} {K : ix_Cx} (hKp : ix_Kp K) {n : Nat} {z : ix_Z} (X : ix_X p s m args c K cX12_follows RX12 3) (hr : meth.sig.returnType = (some .boolean)) (hlk : meth.locks = false) {rec98 : ix_D2 → Option (Int32 × ix_D2)} {a0 : Nat} {x1 : Int32} {rec161 : Int32 → ix_D2 → Option (Int32 × ix_D2)} {r : Int32} {d1 : ix_D2} (hrec98 : ∀  (d : ix_D2), rec98  d = some (r, d1) → ix_G p l e (ix_rm 3 70 0 0) s m args below meth c (MQ below (ix_Post K (some (.int r)) (ix_w z d1)) args s 0 0 (ix_A K)) K 3 0 0 98 [(0, .ref (K.2.2.1 + a0)), (1, .int x1)] [] (ix_w z d)) (hrec161 : ∀ (x2 : Int32) (d : ix_D2), rec161 x2 d = some (r, d1) → ix_G p l e (ix_rm 3 70 0 0) s m args below meth c (MQ below (ix_Post K (some (.int r)) (ix_w z d1)) args s 0 0 (ix_A K)) K 3 0 0 161 [(0, .ref (K.2.2.1 + a0)), (1, .int x1), (2, .int x2)] [] (ix_w z d)) {x2 : Int32} {d : ix_D2} (h : b_X12_follows_161 n z rec98 a0 x1 rec161 x2 d = some (r, d1)) : ix_G p l e (ix_rm 3 70 0 0) s m args below meth c (MQ below (ix_Post K (some (.int r)) (ix_w z d1)) args s 0 0 (ix_A K)) K 3 0 0 161 [(0, .ref (K.2.2.1 + a0)), (1, .int x1), (2, .int x2)] [] (ix_w z d) := by
  unfold b_X12_follows_161 at h
  refine ix_iload_n (i := 2) (j := 2) X (ix_tb_at tb_X12_follows 91 rfl) rfl rfl (pc1 := 162) rfl ?_
  refine ix_iload_n (i := 1) (j := 1) X (ix_tb_at tb_X12_follows 92 rfl) rfl rfl (pc1 := 163) rfl ?_
  refine ix_icmp_ge (tgt := 198) X (ix_tb_at tb_X12_follows 93 rfl) (by decide) (pc1 := 166) rfl (fun q_26 => ?_) (fun q_26 => ?_)
  · have h := ix_ift q_26 h
    refine ix_sub (L1 := [(0, .ref (K.2.2.1 + a0)), (1, .int x1)]) [0, 1] rfl ?_
    exact t_X12_follows_198 hKp X hr hlk hrec98 h
  · have h := ix_iff q_26 h
    refine ix_aload_n (i := 0) (j := 0) X (ix_tb_at tb_X12_follows 94 rfl) rfl rfl (pc1 := 167) rfl ?_
    obtain ⟨k_27, h⟩ := ix_ck_some h
    refine iz_getI X fl_RX12_611 k_27 (ix_tb_at tb_X12_follows 95 rfl) (pc1 := 170) rfl ?_
    refine ix_if_ne (tgt := 198) X (ix_tb_at tb_X12_follows 96 rfl) (by decide) (pc1 := 173) rfl (fun q_28 => ?_) (fun q_28 => ?_)
    · have h := ix_iff q_28 h
      refine ix_sub (L1 := [(0, .ref (K.2.2.1 + a0)), (1, .int x1)]) [0, 1] rfl ?_
      exact t_X12_follows_198 hKp X hr hlk hrec98 h
    · have h := ix_ift q_28 h
      refine ix_aload_n (i := 0) (j := 0) X (ix_tb_at tb_X12_follows 97 rfl) rfl rfl (pc1 := 174) rfl ?_
      refine ix_iconst (v := 0) X (ix_tb_at tb_X12_follows 98 rfl) (by decide) (pc1 := 175) rfl ?_
      refine ix_aload_n (i := 0) (j := 0) X (ix_tb_at tb_X12_follows 99 rfl) rfl rfl (pc1 := 176) rfl ?_
      obtain ⟨b_29, q_30, h⟩ := ix_bd1_ex h
      refine iz_getR X fl_RX12_222 k_27 q_30 (ix_tb_at tb_X12_follows 100 rfl) (pc1 := 179) rfl ?_
      refine ix_iload_n (i := 2) (j := 2) X (ix_tb_at tb_X12_follows 101 rfl) rfl rfl (pc1 := 180) rfl ?_
      obtain ⟨k_31, h⟩ := ix_ck_some h
      refine iz_iald X k_31 (ix_tb_at tb_X12_follows 102 rfl) (pc1 := 181) rfl ?_
      refine ix_aload_n (i := 0) (j := 0) X (ix_tb_at tb_X12_follows 103 rfl) rfl rfl (pc1 := 182) rfl ?_
      refine iz_getR X fl_RX12_222 k_27 q_30 (ix_tb_at tb_X12_follows 104 rfl) (pc1 := 185) rfl ?_
      refine ix_iload_n (i := 2) (j := 2) X (ix_tb_at tb_X12_follows 105 rfl) rfl rfl (pc1 := 186) rfl ?_
      refine ix_iconst (v := 1) X (ix_tb_at tb_X12_follows 106 rfl) (by decide) (pc1 := 187) rfl ?_
      refine ix_iadd X (ix_tb_at tb_X12_follows 107 rfl) (pc1 := 188) rfl ?_
      obtain ⟨k_32, h⟩ := ix_ck_some h
      refine iz_iald X k_32 (ix_tb_at tb_X12_follows 108 rfl) (pc1 := 189) rfl ?_
      obtain ⟨d_33, h_34, h⟩ := ix_bd1_ex h
      refine ix_callV (As := [.int 0, .int (d.1 b_29 (ix_n x2)), .int (d.1 b_29 (ix_n (x2 + 1)))]) (rest := []) (ci := 11) (T := TX12) (nf := 116) X mf_X12_press mi_X12_press ms_X12_press rfl (Nat.le_of_ble_eq_true rfl) ml_RX12_620 ⟨Nat.le_of_ble_eq_true rfl, Nat.le_of_ble_eq_true rfl⟩ ⟨Nat.le_of_ble_eq_true rfl, Nat.le_of_ble_eq_true rfl⟩ rfl (Nat.le_of_ble_eq_true rfl) (ix_tb_at tb_X12_follows 109 rfl) ⟨k_27.1, List.mem_singleton.mp k_27.2⟩ (c_X12_press hKp h_34) rfl (pc1 := 192) rfl ?_
      obtain ⟨x2_35, e_36, h⟩ := ix_lt_ex h
      refine ix_iinc (i := 2) (j := 2) (v := x2_35) (L1 := [(2, .int x2_35), (0, .ref (K.2.2.1 + a0)), (1, .int x1)]) X (ix_tb_at tb_X12_follows 110 rfl) rfl (by rw [oi_1]; exact e_36.symm) (Nat.le_of_ble_eq_true rfl) rfl (pc1 := 195) rfl ?_
      refine ix_goto (tgt := 161) X (ix_tb_at tb_X12_follows 111 rfl) (by decide) ?_
      refine ix_sub (L1 := [(0, .ref (K.2.2.1 + a0)), (1, .int x1), (2, .int x2_35)]) [1, 2, 0] rfl ?_
      exact hrec161 x2_35 d_33 h
theorem t_X12_follows_161 {l : Launch} {p : Program} {e : Env} {s : State} {m : MethodId} {args : Array Value} {below : List Frame} {meth : Method} {c : Code} {K : ix_Cx} (hKp : ix_Kp K) {n : Nat} {z : ix_Z} (X : ix_X p s m args c K cX12_follows RX12 3) (hr : meth.sig.returnType = (some .boolean)) (hlk : meth.locks = false) {rec98 : ix_D2 → Option (Int32 × ix_D2)} {a0 : Nat} {x1 : Int32} {r : Int32} {d1 : ix_D2} (hrec98 : ∀  (d : ix_D2), rec98  d = some (r, d1) → ix_G p l e (ix_rm 3 70 0 0) s m args below meth c (MQ below (ix_Post K (some (.int r)) (ix_w z d1)) args s 0 0 (ix_A K)) K 3 0 0 98 [(0, .ref (K.2.2.1 + a0)), (1, .int x1)] [] (ix_w z d)) {x2 : Int32} {d : ix_D2} (h : f_X12_follows_161 n z rec98 a0 x1 x2 d = some (r, d1)) : ix_G p l e (ix_rm 3 70 0 0) s m args below meth c (MQ below (ix_Post K (some (.int r)) (ix_w z d1)) args s 0 0 (ix_A K)) K 3 0 0 161 [(0, .ref (K.2.2.1 + a0)), (1, .int x1), (2, .int x2)] [] (ix_w z d) := by
  have key : ∀ (f : Nat) (x2 : Int32) (d : ix_D2), ix_fix (b_X12_follows_161 n z rec98 a0 x1) (fun _ _ => none) f x2 d = some (r, d1) → ix_G p l e (ix_rm 3 70 0 0) s m args below meth c (MQ below (ix_Post K (some (.int r)) (ix_w z d1)) args s 0 0 (ix_A K)) K 3 0 0 161 [(0, .ref (K.2.2.1 + a0)), (1, .int x1), (2, .int x2)] [] (ix_w z d) := by
    intro f
    induction f with
    | zero =>
      intro x2 d h
      have h : (none : Option (Int32 × ix_D2)) = some (r, d1) := h
      cases h
    | succ f ih =>
      intro x2 d h
      exact tb_X12_follows_161 hKp X hr hlk (rec161 := ix_fix (b_X12_follows_161 n z rec98 a0 x1) (fun _ _ => none) f) hrec98 ih h
  exact key n x2 d h
set_option maxRecDepth 20000 in
theorem t_X12_follows_159 {l : Launch} {p : Program} {e : Env} {s : State} {m : MethodId} {args : Array Value} {below : List Frame} {meth : Method} {c : Code} {K : ix_Cx} (hKp : ix_Kp K) {n : Nat} {z : ix_Z} (X : ix_X p s m args c K cX12_follows RX12 3) (hr : meth.sig.returnType = (some .boolean)) (hlk : meth.locks = false) {rec98 : ix_D2 → Option (Int32 × ix_D2)} {a0 : Nat} {x1 : Int32} {r : Int32} {d1 : ix_D2} (hrec98 : ∀  (d : ix_D2), rec98  d = some (r, d1) → ix_G p l e (ix_rm 3 70 0 0) s m args below meth c (MQ below (ix_Post K (some (.int r)) (ix_w z d1)) args s 0 0 (ix_A K)) K 3 0 0 98 [(0, .ref (K.2.2.1 + a0)), (1, .int x1)] [] (ix_w z d)) {d : ix_D2} (h : f_X12_follows_159 n z rec98 a0 x1 d = some (r, d1)) : ix_G p l e (ix_rm 3 70 0 0) s m args below meth c (MQ below (ix_Post K (some (.int r)) (ix_w z d1)) args s 0 0 (ix_A K)) K 3 0 0 159 [(0, .ref (K.2.2.1 + a0)), (1, .int x1)] [] (ix_w z d) := by
  unfold f_X12_follows_159 at h
  refine ix_iconst (v := 0) X (ix_tb_at tb_X12_follows 89 rfl) (by decide) (pc1 := 160) rfl ?_
  refine ix_istore_n (i := 2) (L1 := [(2, .int 0), (0, .ref (K.2.2.1 + a0)), (1, .int x1)]) X (ix_tb_at tb_X12_follows 90 rfl) rfl (Nat.le_of_ble_eq_true rfl) rfl (pc1 := 161) rfl ?_
  refine ix_sub (L1 := [(0, .ref (K.2.2.1 + a0)), (1, .int x1), (2, .int 0)]) [1, 2, 0] rfl ?_
  exact t_X12_follows_161 hKp X hr hlk hrec98 h
set_option maxRecDepth 20000 in
theorem tb_X12_follows_119 {l : Launch} {p : Program} {e : Env} {s : State} {m : MethodId} {args : Array Value} {below : List Frame} {meth : Method} {c : Code} {K : ix_Cx} (hKp : ix_Kp K) {n : Nat} {z : ix_Z} (X : ix_X p s m args c K cX12_follows RX12 3) (hr : meth.sig.returnType = (some .boolean)) (hlk : meth.locks = false) {rec98 : ix_D2 → Option (Int32 × ix_D2)} {a0 : Nat} {x1 : Int32} {rec119 : Int32 → ix_D2 → Option (Int32 × ix_D2)} {r : Int32} {d1 : ix_D2} (hrec98 : ∀  (d : ix_D2), rec98  d = some (r, d1) → ix_G p l e (ix_rm 3 70 0 0) s m args below meth c (MQ below (ix_Post K (some (.int r)) (ix_w z d1)) args s 0 0 (ix_A K)) K 3 0 0 98 [(0, .ref (K.2.2.1 + a0)), (1, .int x1)] [] (ix_w z d)) (hrec119 : ∀ (x2 : Int32) (d : ix_D2), rec119 x2 d = some (r, d1) → ix_G p l e (ix_rm 3 70 0 0) s m args below meth c (MQ below (ix_Post K (some (.int r)) (ix_w z d1)) args s 0 0 (ix_A K)) K 3 0 0 119 [(0, .ref (K.2.2.1 + a0)), (1, .int x1), (2, .int x2)] [] (ix_w z d)) {x2 : Int32} {d : ix_D2} (h : b_X12_follows_119 n z rec98 a0 x1 rec119 x2 d = some (r, d1)) : ix_G p l e (ix_rm 3 70 0 0) s m args below meth c (MQ below (ix_Post K (some (.int r)) (ix_w z d1)) args s 0 0 (ix_A K)) K 3 0 0 119 [(0, .ref (K.2.2.1 + a0)), (1, .int x1), (2, .int x2)] [] (ix_w z d) := by
  unfold b_X12_follows_119 at h
  refine ix_iload_n (i := 2) (j := 2) X (ix_tb_at tb_X12_follows 67 rfl) rfl rfl (pc1 := 120) rfl ?_
  refine ix_aload_n (i := 0) (j := 0) X (ix_tb_at tb_X12_follows 68 rfl) rfl rfl (pc1 := 121) rfl ?_
  obtain ⟨k_24, h⟩ := ix_ck_some h
  refine iz_getI X fl_RX12_273 k_24 (ix_tb_at tb_X12_follows 69 rfl) (pc1 := 124) rfl ?_
  refine ix_icmp_ge (tgt := 159) X (ix_tb_at tb_X12_follows 70 rfl) (by decide) (pc1 := 127) rfl (fun q_25 => ?_) (fun q_25 => ?_)
  · have h := ix_ift q_25 h
    refine ix_sub (L1 := [(0, .ref (K.2.2.1 + a0)), (1, .int x1)]) [0, 1] rfl ?_
    exact t_X12_follows_159 hKp X hr hlk hrec98 h
  · have h := ix_iff q_25 h
    refine ix_aload_n (i := 0) (j := 0) X (ix_tb_at tb_X12_follows 71 rfl) rfl rfl (pc1 := 128) rfl ?_
    refine iz_getI X fl_RX12_611 k_24 (ix_tb_at tb_X12_follows 72 rfl) (pc1 := 131) rfl ?_
    refine ix_if_ne (tgt := 159) X (ix_tb_at tb_X12_follows 73 rfl) (by decide) (pc1 := 134) rfl (fun q_37 => ?_) (fun q_37 => ?_)
    · have h := ix_iff q_37 h
      refine ix_sub (L1 := [(0, .ref (K.2.2.1 + a0)), (1, .int x1)]) [0, 1] rfl ?_
      exact t_X12_follows_159 hKp X hr hlk hrec98 h
    · have h := ix_ift q_37 h
      refine ix_aload_n (i := 0) (j := 0) X (ix_tb_at tb_X12_follows 74 rfl) rfl rfl (pc1 := 135) rfl ?_
      refine ix_iconst (v := 1) X (ix_tb_at tb_X12_follows 75 rfl) (by decide) (pc1 := 136) rfl ?_
      refine ix_aload_n (i := 0) (j := 0) X (ix_tb_at tb_X12_follows 76 rfl) rfl rfl (pc1 := 137) rfl ?_
      obtain ⟨b_38, q_39, h⟩ := ix_bd1_ex h
      refine iz_getR X fl_RX12_62 k_24 q_39 (ix_tb_at tb_X12_follows 77 rfl) (pc1 := 140) rfl ?_
      refine ix_iload_n (i := 2) (j := 2) X (ix_tb_at tb_X12_follows 78 rfl) rfl rfl (pc1 := 141) rfl ?_
      obtain ⟨k_40, h⟩ := ix_ck_some h
      refine iz_iald X k_40 (ix_tb_at tb_X12_follows 79 rfl) (pc1 := 142) rfl ?_
      refine ix_aload_n (i := 0) (j := 0) X (ix_tb_at tb_X12_follows 80 rfl) rfl rfl (pc1 := 143) rfl ?_
      refine iz_getR X fl_RX12_62 k_24 q_39 (ix_tb_at tb_X12_follows 81 rfl) (pc1 := 146) rfl ?_
      refine ix_iload_n (i := 2) (j := 2) X (ix_tb_at tb_X12_follows 82 rfl) rfl rfl (pc1 := 147) rfl ?_
      refine ix_iconst (v := 1) X (ix_tb_at tb_X12_follows 83 rfl) (by decide) (pc1 := 148) rfl ?_
      refine ix_iadd X (ix_tb_at tb_X12_follows 84 rfl) (pc1 := 149) rfl ?_
      obtain ⟨k_41, h⟩ := ix_ck_some h
      refine iz_iald X k_41 (ix_tb_at tb_X12_follows 85 rfl) (pc1 := 150) rfl ?_
      obtain ⟨d_42, h_43, h⟩ := ix_bd1_ex h
      refine ix_callV (As := [.int 1, .int (d.1 b_38 (ix_n x2)), .int (d.1 b_38 (ix_n (x2 + 1)))]) (rest := []) (ci := 11) (T := TX12) (nf := 116) X mf_X12_press mi_X12_press ms_X12_press rfl (Nat.le_of_ble_eq_true rfl) ml_RX12_620 ⟨Nat.le_of_ble_eq_true rfl, Nat.le_of_ble_eq_true rfl⟩ ⟨Nat.le_of_ble_eq_true rfl, Nat.le_of_ble_eq_true rfl⟩ rfl (Nat.le_of_ble_eq_true rfl) (ix_tb_at tb_X12_follows 86 rfl) ⟨k_24.1, List.mem_singleton.mp k_24.2⟩ (c_X12_press hKp h_43) rfl (pc1 := 153) rfl ?_
      obtain ⟨x2_44, e_45, h⟩ := ix_lt_ex h
      refine ix_iinc (i := 2) (j := 2) (v := x2_44) (L1 := [(2, .int x2_44), (0, .ref (K.2.2.1 + a0)), (1, .int x1)]) X (ix_tb_at tb_X12_follows 87 rfl) rfl (by rw [oi_1]; exact e_45.symm) (Nat.le_of_ble_eq_true rfl) rfl (pc1 := 156) rfl ?_
      refine ix_goto (tgt := 119) X (ix_tb_at tb_X12_follows 88 rfl) (by decide) ?_
      refine ix_sub (L1 := [(0, .ref (K.2.2.1 + a0)), (1, .int x1), (2, .int x2_44)]) [1, 2, 0] rfl ?_
      exact hrec119 x2_44 d_42 h
theorem t_X12_follows_119 {l : Launch} {p : Program} {e : Env} {s : State} {m : MethodId} {args : Array Value} {below : List Frame} {meth : Method} {c : Code} {K : ix_Cx} (hKp : ix_Kp K) {n : Nat} {z : ix_Z} (X : ix_X p s m args c K cX12_follows RX12 3) (hr : meth.sig.returnType = (some .boolean)) (hlk : meth.locks = false) {rec98 : ix_D2 → Option (Int32 × ix_D2)} {a0 : Nat} {x1 : Int32} {r : Int32} {d1 : ix_D2} (hrec98 : ∀  (d : ix_D2), rec98  d = some (r, d1) → ix_G p l e (ix_rm 3 70 0 0) s m args below meth c (MQ below (ix_Post K (some (.int r)) (ix_w z d1)) args s 0 0 (ix_A K)) K 3 0 0 98 [(0, .ref (K.2.2.1 + a0)), (1, .int x1)] [] (ix_w z d)) {x2 : Int32} {d : ix_D2} (h : f_X12_follows_119 n z rec98 a0 x1 x2 d = some (r, d1)) : ix_G p l e (ix_rm 3 70 0 0) s m args below meth c (MQ below (ix_Post K (some (.int r)) (ix_w z d1)) args s 0 0 (ix_A K)) K 3 0 0 119 [(0, .ref (K.2.2.1 + a0)), (1, .int x1), (2, .int x2)] [] (ix_w z d) := by
  have key : ∀ (f : Nat) (x2 : Int32) (d : ix_D2), ix_fix (b_X12_follows_119 n z rec98 a0 x1) (fun _ _ => none) f x2 d = some (r, d1) → ix_G p l e (ix_rm 3 70 0 0) s m args below meth c (MQ below (ix_Post K (some (.int r)) (ix_w z d1)) args s 0 0 (ix_A K)) K 3 0 0 119 [(0, .ref (K.2.2.1 + a0)), (1, .int x1), (2, .int x2)] [] (ix_w z d) := by
    intro f
    induction f with
    | zero =>
      intro x2 d h
      have h : (none : Option (Int32 × ix_D2)) = some (r, d1) := h
      cases h
    | succ f ih =>
      intro x2 d h
      exact tb_X12_follows_119 hKp X hr hlk (rec119 := ix_fix (b_X12_follows_119 n z rec98 a0 x1) (fun _ _ => none) f) hrec98 ih h
  exact key n x2 d h
set_option maxRecDepth 20000 in
theorem tb_X12_follows_98 {l : Launch} {p : Program} {e : Env} {s : State} {m : MethodId} {args : Array Value} {below : List Frame} {meth : Method} {c : Code} {K : ix_Cx} (hKp : ix_Kp K) {n : Nat} {z : ix_Z} (X : ix_X p s m args c K cX12_follows RX12 3) (hr : meth.sig.returnType = (some .boolean)) (hlk : meth.locks = false)  {a0 : Nat} {x1 : Int32} {rec98 : ix_D2 → Option (Int32 × ix_D2)} {r : Int32} {d1 : ix_D2} (hrec98 : ∀  (d : ix_D2), rec98  d = some (r, d1) → ix_G p l e (ix_rm 3 70 0 0) s m args below meth c (MQ below (ix_Post K (some (.int r)) (ix_w z d1)) args s 0 0 (ix_A K)) K 3 0 0 98 [(0, .ref (K.2.2.1 + a0)), (1, .int x1)] [] (ix_w z d))  {d : ix_D2} (h : b_X12_follows_98 n z  a0 x1 rec98  d = some (r, d1)) : ix_G p l e (ix_rm 3 70 0 0) s m args below meth c (MQ below (ix_Post K (some (.int r)) (ix_w z d1)) args s 0 0 (ix_A K)) K 3 0 0 98 [(0, .ref (K.2.2.1 + a0)), (1, .int x1)] [] (ix_w z d) := by
  unfold b_X12_follows_98 at h
  refine ix_aload_n (i := 0) (j := 0) X (ix_tb_at tb_X12_follows 56 rfl) rfl rfl (pc1 := 99) rfl ?_
  obtain ⟨k_17, h⟩ := ix_ck_some h
  refine iz_getI X fl_RX12_617 k_17 (ix_tb_at tb_X12_follows 57 rfl) (pc1 := 102) rfl ?_
  refine ix_if_eq (tgt := 201) X (ix_tb_at tb_X12_follows 58 rfl) (by decide) (pc1 := 105) rfl (fun q_18 => ?_) (fun q_18 => ?_)
  · have h := ix_ift q_18 h
    refine ix_sub (L1 := [(0, .ref (K.2.2.1 + a0))]) [0] rfl ?_
    exact t_X12_follows_201 hKp X hr hlk  h
  · have h := ix_iff q_18 h
    refine ix_aload_n (i := 0) (j := 0) X (ix_tb_at tb_X12_follows 59 rfl) rfl rfl (pc1 := 106) rfl ?_
    refine iz_getI X fl_RX12_611 k_17 (ix_tb_at tb_X12_follows 60 rfl) (pc1 := 109) rfl ?_
    refine ix_if_ne (tgt := 201) X (ix_tb_at tb_X12_follows 61 rfl) (by decide) (pc1 := 112) rfl (fun q_21 => ?_) (fun q_21 => ?_)
    · have h := ix_iff q_21 h
      refine ix_sub (L1 := [(0, .ref (K.2.2.1 + a0))]) [0] rfl ?_
      exact t_X12_follows_201 hKp X hr hlk  h
    · have h := ix_ift q_21 h
      refine ix_aload_n (i := 0) (j := 0) X (ix_tb_at tb_X12_follows 62 rfl) rfl rfl (pc1 := 113) rfl ?_
      refine ix_iconst (v := 0) X (ix_tb_at tb_X12_follows 63 rfl) (by decide) (pc1 := 114) rfl ?_
      obtain ⟨d_22, e_23, h⟩ := ix_lt_ex h
      refine iz_putZ X fp_RX12_617 k_17 (ix_tb_at tb_X12_follows 64 rfl) (by decide) e_23 (pc1 := 117) rfl ?_
      refine ix_iconst (v := 0) X (ix_tb_at tb_X12_follows 65 rfl) (by decide) (pc1 := 118) rfl ?_
      refine ix_istore_n (i := 2) (L1 := [(2, .int 0), (0, .ref (K.2.2.1 + a0)), (1, .int x1)]) X (ix_tb_at tb_X12_follows 66 rfl) rfl (Nat.le_of_ble_eq_true rfl) rfl (pc1 := 119) rfl ?_
      refine ix_sub (L1 := [(0, .ref (K.2.2.1 + a0)), (1, .int x1), (2, .int 0)]) [1, 2, 0] rfl ?_
      exact t_X12_follows_119 hKp X hr hlk hrec98 h
theorem t_X12_follows_98 {l : Launch} {p : Program} {e : Env} {s : State} {m : MethodId} {args : Array Value} {below : List Frame} {meth : Method} {c : Code} {K : ix_Cx} (hKp : ix_Kp K) {n : Nat} {z : ix_Z} (X : ix_X p s m args c K cX12_follows RX12 3) (hr : meth.sig.returnType = (some .boolean)) (hlk : meth.locks = false)  {a0 : Nat} {x1 : Int32} {r : Int32} {d1 : ix_D2}   {d : ix_D2} (h : f_X12_follows_98 n z  a0 x1  d = some (r, d1)) : ix_G p l e (ix_rm 3 70 0 0) s m args below meth c (MQ below (ix_Post K (some (.int r)) (ix_w z d1)) args s 0 0 (ix_A K)) K 3 0 0 98 [(0, .ref (K.2.2.1 + a0)), (1, .int x1)] [] (ix_w z d) := by
  have key : ∀ (f : Nat)  (d : ix_D2), ix_fix (b_X12_follows_98 n z  a0 x1) (fun  _ => none) f  d = some (r, d1) → ix_G p l e (ix_rm 3 70 0 0) s m args below meth c (MQ below (ix_Post K (some (.int r)) (ix_w z d1)) args s 0 0 (ix_A K)) K 3 0 0 98 [(0, .ref (K.2.2.1 + a0)), (1, .int x1)] [] (ix_w z d) := by
    intro f
    induction f with
    | zero =>
      intro  d h
      have h : (none : Option (Int32 × ix_D2)) = some (r, d1) := h
      cases h
    | succ f ih =>
      intro  d h
      exact tb_X12_follows_98 hKp X hr hlk (rec98 := ix_fix (b_X12_follows_98 n z  a0 x1) (fun  _ => none) f)  ih h
  exact key n  d h
set_option maxRecDepth 20000 in
theorem t_X12_follows_73 {l : Launch} {p : Program} {e : Env} {s : State} {m : MethodId} {args : Array Value} {below : List Frame} {meth : Method} {c : Code} {K : ix_Cx} (hKp : ix_Kp K) {n : Nat} {z : ix_Z} (X : ix_X p s m args c K cX12_follows RX12 3) (hr : meth.sig.returnType = (some .boolean)) (hlk : meth.locks = false) {rec34 : Int32 → ix_D2 → Option (Int32 × ix_D2)} {a0 : Nat} {x1 : Int32} {x2 : Int32} {s0 : Int32} {s1 : Nat} {r : Int32} {d1 : ix_D2} (hrec34 : ∀ (x2 : Int32) (d : ix_D2), rec34 x2 d = some (r, d1) → ix_G p l e (ix_rm 3 70 0 0) s m args below meth c (MQ below (ix_Post K (some (.int r)) (ix_w z d1)) args s 0 0 (ix_A K)) K 3 0 0 34 [(0, .ref (K.2.2.1 + a0)), (1, .int x1), (2, .int x2)] [] (ix_w z d)) {d : ix_D2} (h : f_X12_follows_73 n z rec34 a0 x1 x2 s0 s1 d = some (r, d1)) : ix_G p l e (ix_rm 3 70 0 0) s m args below meth c (MQ below (ix_Post K (some (.int r)) (ix_w z d1)) args s 0 0 (ix_A K)) K 3 0 0 73 [(0, .ref (K.2.2.1 + a0)), (1, .int x1), (2, .int x2)] [.int s0, .ref (K.2.2.1 + s1)] (ix_w z d) := by
  unfold f_X12_follows_73 at h
  obtain ⟨k_47, h⟩ := ix_ck_some h
  obtain ⟨k_48, h⟩ := ix_ck_some h
  obtain ⟨d_49, e_50, h⟩ := ix_lt_ex h
  refine iz_putZ X fp_RX12_611 k_47 (ix_tb_at tb_X12_follows 43 rfl) k_48 e_50 (pc1 := 76) rfl ?_
  refine ix_aload_n (i := 0) (j := 0) X (ix_tb_at tb_X12_follows 44 rfl) rfl rfl (pc1 := 77) rfl ?_
  refine ix_aload_n (i := 0) (j := 0) X (ix_tb_at tb_X12_follows 45 rfl) rfl rfl (pc1 := 78) rfl ?_
  obtain ⟨k_51, h⟩ := ix_ck_some h
  obtain ⟨b_52, q_53, h⟩ := ix_bd1_ex h
  refine iz_getR X fl_RX12_225 k_51 q_53 (ix_tb_at tb_X12_follows 46 rfl) (pc1 := 81) rfl ?_
  refine ix_iload_n (i := 2) (j := 2) X (ix_tb_at tb_X12_follows 47 rfl) rfl rfl (pc1 := 82) rfl ?_
  obtain ⟨k_54, h⟩ := ix_ck_some h
  refine iz_iald X k_54 (ix_tb_at tb_X12_follows 48 rfl) (pc1 := 83) rfl ?_
  refine ix_ineg X (ix_tb_at tb_X12_follows 49 rfl) (pc1 := 84) rfl ?_
  obtain ⟨d_55, h_56, h⟩ := ix_bd1_ex h
  refine ix_callV (As := [.int (-(d_49.1 b_52 (ix_n x2)))]) (rest := []) (ci := 11) (T := TX12) (nf := 116) X mf_X12_suppose mi_X12_suppose ms_X12_suppose rfl (Nat.le_of_ble_eq_true rfl) ml_RX12_614 ⟨Nat.le_of_ble_eq_true rfl, Nat.le_of_ble_eq_true rfl⟩ ⟨Nat.le_of_ble_eq_true rfl, Nat.le_of_ble_eq_true rfl⟩ rfl (Nat.le_of_ble_eq_true rfl) (ix_tb_at tb_X12_follows 50 rfl) ⟨k_51.1, List.mem_singleton.mp k_51.2⟩ (c_X12_suppose hKp h_56) rfl (pc1 := 87) rfl ?_
  obtain ⟨x2_57, e_58, h⟩ := ix_lt_ex h
  refine ix_iinc (i := 2) (j := 2) (v := x2_57) (L1 := [(2, .int x2_57), (0, .ref (K.2.2.1 + a0)), (1, .int x1)]) X (ix_tb_at tb_X12_follows 51 rfl) rfl (by rw [oi_1]; exact e_58.symm) (Nat.le_of_ble_eq_true rfl) rfl (pc1 := 90) rfl ?_
  refine ix_goto (tgt := 34) X (ix_tb_at tb_X12_follows 52 rfl) (by decide) ?_
  refine ix_sub (L1 := [(0, .ref (K.2.2.1 + a0)), (1, .int x1), (2, .int x2_57)]) [1, 2, 0] rfl ?_
  exact hrec34 x2_57 d_55 h
set_option maxRecDepth 20000 in
theorem t_X12_follows_68 {l : Launch} {p : Program} {e : Env} {s : State} {m : MethodId} {args : Array Value} {below : List Frame} {meth : Method} {c : Code} {K : ix_Cx} (hKp : ix_Kp K) {n : Nat} {z : ix_Z} (X : ix_X p s m args c K cX12_follows RX12 3) (hr : meth.sig.returnType = (some .boolean)) (hlk : meth.locks = false) {rec34 : Int32 → ix_D2 → Option (Int32 × ix_D2)} {a0 : Nat} {x1 : Int32} {x2 : Int32} {s0 : Nat} {r : Int32} {d1 : ix_D2} (hrec34 : ∀ (x2 : Int32) (d : ix_D2), rec34 x2 d = some (r, d1) → ix_G p l e (ix_rm 3 70 0 0) s m args below meth c (MQ below (ix_Post K (some (.int r)) (ix_w z d1)) args s 0 0 (ix_A K)) K 3 0 0 34 [(0, .ref (K.2.2.1 + a0)), (1, .int x1), (2, .int x2)] [] (ix_w z d)) {d : ix_D2} (h : f_X12_follows_68 n z rec34 a0 x1 x2 s0 d = some (r, d1)) : ix_G p l e (ix_rm 3 70 0 0) s m args below meth c (MQ below (ix_Post K (some (.int r)) (ix_w z d1)) args s 0 0 (ix_A K)) K 3 0 0 68 [(0, .ref (K.2.2.1 + a0)), (1, .int x1), (2, .int x2)] [.ref (K.2.2.1 + s0)] (ix_w z d) := by
  unfold f_X12_follows_68 at h
  refine ix_iconst (v := 1) X (ix_tb_at tb_X12_follows 40 rfl) (by decide) (pc1 := 69) rfl ?_
  refine ix_goto (tgt := 73) X (ix_tb_at tb_X12_follows 41 rfl) (by decide) ?_
  refine ix_sub (L1 := [(0, .ref (K.2.2.1 + a0)), (1, .int x1), (2, .int x2)]) [0, 1, 2] rfl ?_
  exact t_X12_follows_73 hKp X hr hlk hrec34 h
set_option maxRecDepth 20000 in
theorem tb_X12_follows_34 {l : Launch} {p : Program} {e : Env} {s : State} {m : MethodId} {args : Array Value} {below : List Frame} {meth : Method} {c : Code} {K : ix_Cx} (hKp : ix_Kp K) {n : Nat} {z : ix_Z} (X : ix_X p s m args c K cX12_follows RX12 3) (hr : meth.sig.returnType = (some .boolean)) (hlk : meth.locks = false)  {a0 : Nat} {x1 : Int32} {rec34 : Int32 → ix_D2 → Option (Int32 × ix_D2)} {r : Int32} {d1 : ix_D2} (hrec34 : ∀ (x2 : Int32) (d : ix_D2), rec34 x2 d = some (r, d1) → ix_G p l e (ix_rm 3 70 0 0) s m args below meth c (MQ below (ix_Post K (some (.int r)) (ix_w z d1)) args s 0 0 (ix_A K)) K 3 0 0 34 [(0, .ref (K.2.2.1 + a0)), (1, .int x1), (2, .int x2)] [] (ix_w z d)) {x2 : Int32} {d : ix_D2} (h : b_X12_follows_34 n z  a0 x1 rec34 x2 d = some (r, d1)) : ix_G p l e (ix_rm 3 70 0 0) s m args below meth c (MQ below (ix_Post K (some (.int r)) (ix_w z d1)) args s 0 0 (ix_A K)) K 3 0 0 34 [(0, .ref (K.2.2.1 + a0)), (1, .int x1), (2, .int x2)] [] (ix_w z d) := by
  unfold b_X12_follows_34 at h
  refine ix_iload_n (i := 2) (j := 2) X (ix_tb_at tb_X12_follows 20 rfl) rfl rfl (pc1 := 35) rfl ?_
  refine ix_aload_n (i := 0) (j := 0) X (ix_tb_at tb_X12_follows 21 rfl) rfl rfl (pc1 := 36) rfl ?_
  obtain ⟨k_10, h⟩ := ix_ck_some h
  obtain ⟨b_11, q_12, h⟩ := ix_bd1_ex h
  refine iz_getR X fl_RX12_222 k_10 q_12 (ix_tb_at tb_X12_follows 22 rfl) (pc1 := 39) rfl ?_
  refine ix_iload_n (i := 1) (j := 1) X (ix_tb_at tb_X12_follows 23 rfl) rfl rfl (pc1 := 40) rfl ?_
  refine ix_iconst (v := 1) X (ix_tb_at tb_X12_follows 24 rfl) (by decide) (pc1 := 41) rfl ?_
  refine ix_iadd X (ix_tb_at tb_X12_follows 25 rfl) (pc1 := 42) rfl ?_
  obtain ⟨k_13, h⟩ := ix_ck_some h
  refine iz_iald X k_13 (ix_tb_at tb_X12_follows 26 rfl) (pc1 := 43) rfl ?_
  refine ix_icmp_ge (tgt := 93) X (ix_tb_at tb_X12_follows 27 rfl) (by decide) (pc1 := 46) rfl (fun q_14 => ?_) (fun q_14 => ?_)
  · have h := ix_ift q_14 h
    refine ix_aload_n (i := 0) (j := 0) X (ix_tb_at tb_X12_follows 53 rfl) rfl rfl (pc1 := 94) rfl ?_
    refine ix_iconst (v := 1) X (ix_tb_at tb_X12_follows 54 rfl) (by decide) (pc1 := 95) rfl ?_
    obtain ⟨d_15, e_16, h⟩ := ix_lt_ex h
    refine iz_putZ X fp_RX12_617 k_10 (ix_tb_at tb_X12_follows 55 rfl) (by decide) e_16 (pc1 := 98) rfl ?_
    refine ix_sub (L1 := [(0, .ref (K.2.2.1 + a0)), (1, .int x1)]) [0, 1] rfl ?_
    exact t_X12_follows_98 hKp X hr hlk  h
  · have h := ix_iff q_14 h
    refine ix_aload_n (i := 0) (j := 0) X (ix_tb_at tb_X12_follows 28 rfl) rfl rfl (pc1 := 47) rfl ?_
    refine ix_aload_n (i := 0) (j := 0) X (ix_tb_at tb_X12_follows 29 rfl) rfl rfl (pc1 := 48) rfl ?_
    refine iz_getI X fl_RX12_611 k_10 (ix_tb_at tb_X12_follows 30 rfl) (pc1 := 51) rfl ?_
    refine ix_if_ne (tgt := 68) X (ix_tb_at tb_X12_follows 31 rfl) (by decide) (pc1 := 54) rfl (fun q_46 => ?_) (fun q_46 => ?_)
    · have h := ix_iff q_46 h
      refine ix_sub (L1 := [(0, .ref (K.2.2.1 + a0)), (1, .int x1), (2, .int x2)]) [0, 1, 2] rfl ?_
      exact t_X12_follows_68 hKp X hr hlk hrec34 h
    · have h := ix_ift q_46 h
      refine ix_aload_n (i := 0) (j := 0) X (ix_tb_at tb_X12_follows 32 rfl) rfl rfl (pc1 := 55) rfl ?_
      refine ix_aload_n (i := 0) (j := 0) X (ix_tb_at tb_X12_follows 33 rfl) rfl rfl (pc1 := 56) rfl ?_
      obtain ⟨b_59, q_60, h⟩ := ix_bd1_ex h
      refine iz_getR X fl_RX12_225 k_10 q_60 (ix_tb_at tb_X12_follows 34 rfl) (pc1 := 59) rfl ?_
      refine ix_iload_n (i := 2) (j := 2) X (ix_tb_at tb_X12_follows 35 rfl) rfl rfl (pc1 := 60) rfl ?_
      obtain ⟨k_61, h⟩ := ix_ck_some h
      refine iz_iald X k_61 (ix_tb_at tb_X12_follows 36 rfl) (pc1 := 61) rfl ?_
      obtain ⟨r_64, d_62, h_63, h⟩ := ix_bd2_ex h
      refine ix_callV (As := [.int (d.1 b_59 (ix_n x2))]) (rest := [.ref (K.2.2.1 + a0)]) (ci := 11) (T := TX12) (nf := 116) X mf_X12_supposedOf mi_X12_supposedOf ms_X12_supposedOf rfl (Nat.le_of_ble_eq_true rfl) ml_RX12_608 ⟨Nat.le_of_ble_eq_true rfl, Nat.le_of_ble_eq_true rfl⟩ ⟨Nat.le_of_ble_eq_true rfl, Nat.le_of_ble_eq_true rfl⟩ rfl (Nat.le_of_ble_eq_true rfl) (ix_tb_at tb_X12_follows 37 rfl) ⟨k_10.1, List.mem_singleton.mp k_10.2⟩ (c_X12_supposedOf hKp h_63) rfl (pc1 := 64) rfl ?_
      refine ix_iconst (v := 1) X (ix_tb_at tb_X12_follows 38 rfl) (by decide) (pc1 := 65) rfl ?_
      refine ix_icmp_ne (tgt := 72) X (ix_tb_at tb_X12_follows 39 rfl) (by decide) (pc1 := 68) rfl (fun q_65 => ?_) (fun q_65 => ?_)
      · have h := ix_iff q_65 h
        refine ix_iconst (v := 0) X (ix_tb_at tb_X12_follows 42 rfl) (by decide) (pc1 := 73) rfl ?_
        refine ix_sub (L1 := [(0, .ref (K.2.2.1 + a0)), (1, .int x1), (2, .int x2)]) [0, 1, 2] rfl ?_
        exact t_X12_follows_73 hKp X hr hlk hrec34 h
      · have h := ix_ift q_65 h
        refine ix_sub (L1 := [(0, .ref (K.2.2.1 + a0)), (1, .int x1), (2, .int x2)]) [0, 1, 2] rfl ?_
        exact t_X12_follows_68 hKp X hr hlk hrec34 h
theorem t_X12_follows_34 {l : Launch} {p : Program} {e : Env} {s : State} {m : MethodId} {args : Array Value} {below : List Frame} {meth : Method} {c : Code} {K : ix_Cx} (hKp : ix_Kp K) {n : Nat} {z : ix_Z} (X : ix_X p s m args c K cX12_follows RX12 3) (hr : meth.sig.returnType = (some .boolean)) (hlk : meth.locks = false)  {a0 : Nat} {x1 : Int32} {r : Int32} {d1 : ix_D2}  {x2 : Int32} {d : ix_D2} (h : f_X12_follows_34 n z  a0 x1 x2 d = some (r, d1)) : ix_G p l e (ix_rm 3 70 0 0) s m args below meth c (MQ below (ix_Post K (some (.int r)) (ix_w z d1)) args s 0 0 (ix_A K)) K 3 0 0 34 [(0, .ref (K.2.2.1 + a0)), (1, .int x1), (2, .int x2)] [] (ix_w z d) := by
  have key : ∀ (f : Nat) (x2 : Int32) (d : ix_D2), ix_fix (b_X12_follows_34 n z  a0 x1) (fun _ _ => none) f x2 d = some (r, d1) → ix_G p l e (ix_rm 3 70 0 0) s m args below meth c (MQ below (ix_Post K (some (.int r)) (ix_w z d1)) args s 0 0 (ix_A K)) K 3 0 0 34 [(0, .ref (K.2.2.1 + a0)), (1, .int x1), (2, .int x2)] [] (ix_w z d) := by
    intro f
    induction f with
    | zero =>
      intro x2 d h
      have h : (none : Option (Int32 × ix_D2)) = some (r, d1) := h
      cases h
    | succ f ih =>
      intro x2 d h
      exact tb_X12_follows_34 hKp X hr hlk (rec34 := ix_fix (b_X12_follows_34 n z  a0 x1) (fun _ _ => none) f)  ih h
  exact key n x2 d h
set_option maxRecDepth 20000 in
theorem tb_X12_follows_2 {l : Launch} {p : Program} {e : Env} {s : State} {m : MethodId} {args : Array Value} {below : List Frame} {meth : Method} {c : Code} {K : ix_Cx} (hKp : ix_Kp K) {n : Nat} {z : ix_Z} (X : ix_X p s m args c K cX12_follows RX12 3) (hr : meth.sig.returnType = (some .boolean)) (hlk : meth.locks = false)  {a0 : Nat} {x1 : Int32} {rec2 : Int32 → ix_D2 → Option (Int32 × ix_D2)} {r : Int32} {d1 : ix_D2} (hrec2 : ∀ (x2 : Int32) (d : ix_D2), rec2 x2 d = some (r, d1) → ix_G p l e (ix_rm 3 70 0 0) s m args below meth c (MQ below (ix_Post K (some (.int r)) (ix_w z d1)) args s 0 0 (ix_A K)) K 3 0 0 2 [(0, .ref (K.2.2.1 + a0)), (1, .int x1), (2, .int x2)] [] (ix_w z d)) {x2 : Int32} {d : ix_D2} (h : b_X12_follows_2 n z  a0 x1 rec2 x2 d = some (r, d1)) : ix_G p l e (ix_rm 3 70 0 0) s m args below meth c (MQ below (ix_Post K (some (.int r)) (ix_w z d1)) args s 0 0 (ix_A K)) K 3 0 0 2 [(0, .ref (K.2.2.1 + a0)), (1, .int x1), (2, .int x2)] [] (ix_w z d) := by
  unfold b_X12_follows_2 at h
  refine ix_iload_n (i := 2) (j := 2) X (ix_tb_at tb_X12_follows 2 rfl) rfl rfl (pc1 := 3) rfl ?_
  refine ix_sipush (v := 300) X (ix_tb_at tb_X12_follows 3 rfl) (by decide) (pc1 := 6) rfl ?_
  refine ix_icmp_gt (tgt := 22) X (ix_tb_at tb_X12_follows 4 rfl) (by decide) (pc1 := 9) rfl (fun q_1 => ?_) (fun q_1 => ?_)
  · have h := ix_ift q_1 h
    refine ix_aload_n (i := 0) (j := 0) X (ix_tb_at tb_X12_follows 12 rfl) rfl rfl (pc1 := 23) rfl ?_
    refine ix_iconst (v := 0) X (ix_tb_at tb_X12_follows 13 rfl) (by decide) (pc1 := 24) rfl ?_
    obtain ⟨k_2, h⟩ := ix_ck_some h
    obtain ⟨d_3, e_4, h⟩ := ix_lt_ex h
    refine iz_putZ X fp_RX12_611 k_2 (ix_tb_at tb_X12_follows 14 rfl) (by decide) e_4 (pc1 := 27) rfl ?_
    refine ix_aload_n (i := 0) (j := 0) X (ix_tb_at tb_X12_follows 15 rfl) rfl rfl (pc1 := 28) rfl ?_
    obtain ⟨b_5, q_6, h⟩ := ix_bd1_ex h
    refine iz_getR X fl_RX12_222 k_2 q_6 (ix_tb_at tb_X12_follows 16 rfl) (pc1 := 31) rfl ?_
    refine ix_iload_n (i := 1) (j := 1) X (ix_tb_at tb_X12_follows 17 rfl) rfl rfl (pc1 := 32) rfl ?_
    obtain ⟨k_7, h⟩ := ix_ck_some h
    refine iz_iald X k_7 (ix_tb_at tb_X12_follows 18 rfl) (pc1 := 33) rfl ?_
    obtain ⟨x2_8, e_9, h⟩ := ix_lt_ex h
    refine ix_nmi e_9 ?_
    refine ix_istore_n (i := 2) (L1 := [(2, .int x2_8), (0, .ref (K.2.2.1 + a0)), (1, .int x1)]) X (ix_tb_at tb_X12_follows 19 rfl) rfl (Nat.le_of_ble_eq_true rfl) rfl (pc1 := 34) rfl ?_
    refine ix_sub (L1 := [(0, .ref (K.2.2.1 + a0)), (1, .int x1), (2, .int x2_8)]) [1, 2, 0] rfl ?_
    exact t_X12_follows_34 hKp X hr hlk  h
  · have h := ix_iff q_1 h
    refine ix_aload_n (i := 0) (j := 0) X (ix_tb_at tb_X12_follows 5 rfl) rfl rfl (pc1 := 10) rfl ?_
    obtain ⟨k_66, h⟩ := ix_ck_some h
    obtain ⟨b_67, q_68, h⟩ := ix_bd1_ex h
    refine iz_getR X fl_RX12_228 k_66 q_68 (ix_tb_at tb_X12_follows 6 rfl) (pc1 := 13) rfl ?_
    refine ix_iload_n (i := 2) (j := 2) X (ix_tb_at tb_X12_follows 7 rfl) rfl rfl (pc1 := 14) rfl ?_
    refine ix_iconst (v := 2) X (ix_tb_at tb_X12_follows 8 rfl) (by decide) (pc1 := 15) rfl ?_
    obtain ⟨k_69, h⟩ := ix_ck_some h
    obtain ⟨d_70, e_71, h⟩ := ix_lt_ex h
    refine iz_iast X k_69 (ix_tb_at tb_X12_follows 9 rfl) e_71 (pc1 := 16) rfl ?_
    obtain ⟨x2_72, e_73, h⟩ := ix_lt_ex h
    refine ix_iinc (i := 2) (j := 2) (v := x2_72) (L1 := [(2, .int x2_72), (0, .ref (K.2.2.1 + a0)), (1, .int x1)]) X (ix_tb_at tb_X12_follows 10 rfl) rfl (by rw [oi_1]; exact e_73.symm) (Nat.le_of_ble_eq_true rfl) rfl (pc1 := 19) rfl ?_
    refine ix_goto (tgt := 2) X (ix_tb_at tb_X12_follows 11 rfl) (by decide) ?_
    refine ix_sub (L1 := [(0, .ref (K.2.2.1 + a0)), (1, .int x1), (2, .int x2_72)]) [1, 2, 0] rfl ?_
    exact hrec2 x2_72 d_70 h
theorem t_X12_follows_2 {l : Launch} {p : Program} {e : Env} {s : State} {m : MethodId} {args : Array Value} {below : List Frame} {meth : Method} {c : Code} {K : ix_Cx} (hKp : ix_Kp K) {n : Nat} {z : ix_Z} (X : ix_X p s m args c K cX12_follows RX12 3) (hr : meth.sig.returnType = (some .boolean)) (hlk : meth.locks = false)  {a0 : Nat} {x1 : Int32} {r : Int32} {d1 : ix_D2}  {x2 : Int32} {d : ix_D2} (h : f_X12_follows_2 n z  a0 x1 x2 d = some (r, d1)) : ix_G p l e (ix_rm 3 70 0 0) s m args below meth c (MQ below (ix_Post K (some (.int r)) (ix_w z d1)) args s 0 0 (ix_A K)) K 3 0 0 2 [(0, .ref (K.2.2.1 + a0)), (1, .int x1), (2, .int x2)] [] (ix_w z d) := by
  have key : ∀ (f : Nat) (x2 : Int32) (d : ix_D2), ix_fix (b_X12_follows_2 n z  a0 x1) (fun _ _ => none) f x2 d = some (r, d1) → ix_G p l e (ix_rm 3 70 0 0) s m args below meth c (MQ below (ix_Post K (some (.int r)) (ix_w z d1)) args s 0 0 (ix_A K)) K 3 0 0 2 [(0, .ref (K.2.2.1 + a0)), (1, .int x1), (2, .int x2)] [] (ix_w z d) := by
    intro f
    induction f with
    | zero =>
      intro x2 d h
      have h : (none : Option (Int32 × ix_D2)) = some (r, d1) := h
      cases h
    | succ f ih =>
      intro x2 d h
      exact tb_X12_follows_2 hKp X hr hlk (rec2 := ix_fix (b_X12_follows_2 n z  a0 x1) (fun _ _ => none) f)  ih h
  exact key n x2 d h
set_option maxRecDepth 20000 in
theorem c_X12_follows {l : Launch} {K : ix_Cx} (hKp : ix_Kp K) {n : Nat} {z : ix_Z} {a0 : Nat} {x1 : Int32} {d : ix_D2} {r : Int32} {d1 : ix_D2} (h : f_X12_follows n z a0 x1 d = some (r, d1)) : ix_M l K yX12_follows cX12_follows 3 (some .boolean) 3 70 0 0 [.ref (K.2.2.1 + a0), .int x1] (ix_w z d) (some (.int r)) (ix_w z d1) := by
  refine ix_met mf_X12_follows hKp (Nat.le_of_ble_eq_true rfl) ?_
  intro p e s m args below meth c hr hlk hnm X
  have X : ix_X p s m args c K cX12_follows RX12 3 := X
  show ix_G p l e (ix_rm 3 70 0 0) s m args below meth c (MQ below (ix_Post K (some (.int r)) (ix_w z d1)) args s 0 0 (ix_A K)) K 3 0 0 0 [(0, .ref (K.2.2.1 + a0)), (1, .int x1)] [] (ix_w z d)
  unfold f_X12_follows at h
  refine ix_iconst (v := 0) X (ix_tb_at tb_X12_follows 0 rfl) (by decide) (pc1 := 1) rfl ?_
  refine ix_istore_n (i := 2) (L1 := [(2, .int 0), (0, .ref (K.2.2.1 + a0)), (1, .int x1)]) X (ix_tb_at tb_X12_follows 1 rfl) rfl (Nat.le_of_ble_eq_true rfl) rfl (pc1 := 2) rfl ?_
  refine ix_sub (L1 := [(0, .ref (K.2.2.1 + a0)), (1, .int x1), (2, .int 0)]) [1, 2, 0] rfl ?_
  exact t_X12_follows_2 hKp X hr hlk  h
def tab_X12_isAssumed : List (Nat × Instr × Nat) := [(0, .iconst 0, 1), (1, .istore_n 2, 1), (2, .iconst 0, 1), (3, .istore_n 3, 1), (4, .iload_n 3, 1), (5, .aload_n 0, 1), (6, .getfield 427, 3), (9, .if_icmp .ge 29, 3), (12, .iload_n 2, 1), (13, .ifCond .ne 13, 3), (16, .aload_n 0, 1), (17, .getfield 71, 3), (20, .iload_n 3, 1), (21, .iaload, 1), (22, .iload_n 1, 1), (23, .if_icmp .ne 7, 3), (26, .iconst 1, 1), (27, .goto 4, 3), (30, .iconst 0, 1), (31, .istore_n 2, 1), (32, .iinc 3 1, 3), (35, .goto (-31), 3), (38, .iload_n 2, 1), (39, .ireturn, 1)]
theorem tb_X12_isAssumed : ix_tab cX12_isAssumed tab_X12_isAssumed := by
  unfold ix_tab
  decide +kernel
noncomputable def f_X12_isAssumed_31 (n : Nat) (z : ix_Z) (rec4 : Int32 → Int32 → ix_D2 → Option (Int32 × ix_D2)) (a0 : Nat) (x1 : Int32) (x3 : Int32) (s0 : Int32) (d : ix_D2) : Option (Int32 × ix_D2) :=
  ix_lt (x3 + 1) (fun x3_5 => rec4 s0 x3_5 d)
noncomputable def f_X12_isAssumed_26 (n : Nat) (z : ix_Z) (rec4 : Int32 → Int32 → ix_D2 → Option (Int32 × ix_D2)) (a0 : Nat) (x1 : Int32) (x3 : Int32) (d : ix_D2) : Option (Int32 × ix_D2) :=
  f_X12_isAssumed_31 n z rec4 a0 x1 x3 1 d
noncomputable def b_X12_isAssumed_4 (n : Nat) (z : ix_Z)  (a0 : Nat) (x1 : Int32) (rec4 : Int32 → Int32 → ix_D2 → Option (Int32 × ix_D2)) (x2 : Int32) (x3 : Int32) (d : ix_D2) : Option (Int32 × ix_D2) :=
  ix_ck (ix_ok z [11] a0) (ix_if (d.1 a0 29 ≤ x3) (ix_ck (x2 = 0 ∨ x2 = 1) (some (x2, d))) (ix_if (x2 = 0) (ix_bd1 (z.1 a0 28) (fun b_7 => ix_ck (ix_ix z 20 b_7 x3) (ix_if (d.1 b_7 (ix_n x3) = x1) (f_X12_isAssumed_26 n z rec4 a0 x1 x3 d) (f_X12_isAssumed_31 n z rec4 a0 x1 x3 0 d)))) (f_X12_isAssumed_26 n z rec4 a0 x1 x3 d)))
noncomputable def f_X12_isAssumed_4 (n : Nat) (z : ix_Z)  (a0 : Nat) (x1 : Int32) (x2 : Int32) (x3 : Int32) (d : ix_D2) : Option (Int32 × ix_D2) := ix_fix (b_X12_isAssumed_4 n z  a0 x1) (fun _ _ _ => none) n x2 x3 d
noncomputable def f_X12_isAssumed (n : Nat) (z : ix_Z) (a0 : Nat) (x1 : Int32) (d : ix_D2) : Option (Int32 × ix_D2) :=
  f_X12_isAssumed_4 n z  a0 x1 0 0 d
set_option maxRecDepth 20000 in
theorem t_X12_isAssumed_31 {l : Launch} {p : Program} {e : Env} {s : State} {m : MethodId} {args : Array Value} {below : List Frame} {meth : Method} {c : Code} {K : ix_Cx} (hKp : ix_Kp K) {n : Nat} {z : ix_Z} (X : ix_X p s m args c K cX12_isAssumed RX12 4) (hr : meth.sig.returnType = (some .boolean)) (hlk : meth.locks = false) {rec4 : Int32 → Int32 → ix_D2 → Option (Int32 × ix_D2)} {a0 : Nat} {x1 : Int32} {x3 : Int32} {s0 : Int32} {r : Int32} {d1 : ix_D2} (hrec4 : ∀ (x2 : Int32) (x3 : Int32) (d : ix_D2), rec4 x2 x3 d = some (r, d1) → ix_G p l e (ix_rm 0 0 0 0) s m args below meth c (MQ below (ix_Post K (some (.int r)) (ix_w z d1)) args s 0 0 (ix_A K)) K 4 0 0 4 [(0, .ref (K.2.2.1 + a0)), (1, .int x1), (2, .int x2), (3, .int x3)] [] (ix_w z d)) {d : ix_D2} (h : f_X12_isAssumed_31 n z rec4 a0 x1 x3 s0 d = some (r, d1)) : ix_G p l e (ix_rm 0 0 0 0) s m args below meth c (MQ below (ix_Post K (some (.int r)) (ix_w z d1)) args s 0 0 (ix_A K)) K 4 0 0 31 [(0, .ref (K.2.2.1 + a0)), (1, .int x1), (3, .int x3)] [.int s0] (ix_w z d) := by
  unfold f_X12_isAssumed_31 at h
  refine ix_istore_n (i := 2) (L1 := [(2, .int s0), (0, .ref (K.2.2.1 + a0)), (1, .int x1), (3, .int x3)]) X (ix_tb_at tb_X12_isAssumed 19 rfl) rfl (Nat.le_of_ble_eq_true rfl) rfl (pc1 := 32) rfl ?_
  obtain ⟨x3_5, e_6, h⟩ := ix_lt_ex h
  refine ix_iinc (i := 3) (j := 3) (v := x3_5) (L1 := [(3, .int x3_5), (2, .int s0), (0, .ref (K.2.2.1 + a0)), (1, .int x1)]) X (ix_tb_at tb_X12_isAssumed 20 rfl) rfl (by rw [oi_1]; exact e_6.symm) (Nat.le_of_ble_eq_true rfl) rfl (pc1 := 35) rfl ?_
  refine ix_goto (tgt := 4) X (ix_tb_at tb_X12_isAssumed 21 rfl) (by decide) ?_
  refine ix_sub (L1 := [(0, .ref (K.2.2.1 + a0)), (1, .int x1), (2, .int s0), (3, .int x3_5)]) [2, 3, 1, 0] rfl ?_
  exact hrec4 s0 x3_5 d h
set_option maxRecDepth 20000 in
theorem t_X12_isAssumed_26 {l : Launch} {p : Program} {e : Env} {s : State} {m : MethodId} {args : Array Value} {below : List Frame} {meth : Method} {c : Code} {K : ix_Cx} (hKp : ix_Kp K) {n : Nat} {z : ix_Z} (X : ix_X p s m args c K cX12_isAssumed RX12 4) (hr : meth.sig.returnType = (some .boolean)) (hlk : meth.locks = false) {rec4 : Int32 → Int32 → ix_D2 → Option (Int32 × ix_D2)} {a0 : Nat} {x1 : Int32} {x3 : Int32} {r : Int32} {d1 : ix_D2} (hrec4 : ∀ (x2 : Int32) (x3 : Int32) (d : ix_D2), rec4 x2 x3 d = some (r, d1) → ix_G p l e (ix_rm 0 0 0 0) s m args below meth c (MQ below (ix_Post K (some (.int r)) (ix_w z d1)) args s 0 0 (ix_A K)) K 4 0 0 4 [(0, .ref (K.2.2.1 + a0)), (1, .int x1), (2, .int x2), (3, .int x3)] [] (ix_w z d)) {d : ix_D2} (h : f_X12_isAssumed_26 n z rec4 a0 x1 x3 d = some (r, d1)) : ix_G p l e (ix_rm 0 0 0 0) s m args below meth c (MQ below (ix_Post K (some (.int r)) (ix_w z d1)) args s 0 0 (ix_A K)) K 4 0 0 26 [(0, .ref (K.2.2.1 + a0)), (1, .int x1), (3, .int x3)] [] (ix_w z d) := by
  unfold f_X12_isAssumed_26 at h
  refine ix_iconst (v := 1) X (ix_tb_at tb_X12_isAssumed 16 rfl) (by decide) (pc1 := 27) rfl ?_
  refine ix_goto (tgt := 31) X (ix_tb_at tb_X12_isAssumed 17 rfl) (by decide) ?_
  refine ix_sub (L1 := [(0, .ref (K.2.2.1 + a0)), (1, .int x1), (3, .int x3)]) [0, 1, 2] rfl ?_
  exact t_X12_isAssumed_31 hKp X hr hlk hrec4 h
set_option maxRecDepth 20000 in
theorem tb_X12_isAssumed_4 {l : Launch} {p : Program} {e : Env} {s : State} {m : MethodId} {args : Array Value} {below : List Frame} {meth : Method} {c : Code} {K : ix_Cx} (hKp : ix_Kp K) {n : Nat} {z : ix_Z} (X : ix_X p s m args c K cX12_isAssumed RX12 4) (hr : meth.sig.returnType = (some .boolean)) (hlk : meth.locks = false)  {a0 : Nat} {x1 : Int32} {rec4 : Int32 → Int32 → ix_D2 → Option (Int32 × ix_D2)} {r : Int32} {d1 : ix_D2} (hrec4 : ∀ (x2 : Int32) (x3 : Int32) (d : ix_D2), rec4 x2 x3 d = some (r, d1) → ix_G p l e (ix_rm 0 0 0 0) s m args below meth c (MQ below (ix_Post K (some (.int r)) (ix_w z d1)) args s 0 0 (ix_A K)) K 4 0 0 4 [(0, .ref (K.2.2.1 + a0)), (1, .int x1), (2, .int x2), (3, .int x3)] [] (ix_w z d)) {x2 : Int32} {x3 : Int32} {d : ix_D2} (h : b_X12_isAssumed_4 n z  a0 x1 rec4 x2 x3 d = some (r, d1)) : ix_G p l e (ix_rm 0 0 0 0) s m args below meth c (MQ below (ix_Post K (some (.int r)) (ix_w z d1)) args s 0 0 (ix_A K)) K 4 0 0 4 [(0, .ref (K.2.2.1 + a0)), (1, .int x1), (2, .int x2), (3, .int x3)] [] (ix_w z d) := by
  unfold b_X12_isAssumed_4 at h
  refine ix_iload_n (i := 3) (j := 3) X (ix_tb_at tb_X12_isAssumed 4 rfl) rfl rfl (pc1 := 5) rfl ?_
  refine ix_aload_n (i := 0) (j := 0) X (ix_tb_at tb_X12_isAssumed 5 rfl) rfl rfl (pc1 := 6) rfl ?_
  obtain ⟨k_1, h⟩ := ix_ck_some h
  refine iz_getI X fl_RX12_427 k_1 (ix_tb_at tb_X12_isAssumed 6 rfl) (pc1 := 9) rfl ?_
  refine ix_icmp_ge (tgt := 38) X (ix_tb_at tb_X12_isAssumed 7 rfl) (by decide) (pc1 := 12) rfl (fun q_2 => ?_) (fun q_2 => ?_)
  · have h := ix_ift q_2 h
    refine ix_iload_n (i := 2) (j := 2) X (ix_tb_at tb_X12_isAssumed 22 rfl) rfl rfl (pc1 := 39) rfl ?_
    obtain ⟨k_3, h⟩ := ix_ck_some h
    exact ix_zret X hr hlk k_3 (ix_r2 (f := fun r => some (.int r)) (g := ix_w z) h) (ix_tb_at tb_X12_isAssumed 23 rfl)
  · have h := ix_iff q_2 h
    refine ix_iload_n (i := 2) (j := 2) X (ix_tb_at tb_X12_isAssumed 8 rfl) rfl rfl (pc1 := 13) rfl ?_
    refine ix_if_ne (tgt := 26) X (ix_tb_at tb_X12_isAssumed 9 rfl) (by decide) (pc1 := 16) rfl (fun q_4 => ?_) (fun q_4 => ?_)
    · have h := ix_iff q_4 h
      refine ix_sub (L1 := [(0, .ref (K.2.2.1 + a0)), (1, .int x1), (3, .int x3)]) [0, 1, 3] rfl ?_
      exact t_X12_isAssumed_26 hKp X hr hlk hrec4 h
    · have h := ix_ift q_4 h
      refine ix_aload_n (i := 0) (j := 0) X (ix_tb_at tb_X12_isAssumed 10 rfl) rfl rfl (pc1 := 17) rfl ?_
      obtain ⟨b_7, q_8, h⟩ := ix_bd1_ex h
      refine iz_getR X fl_RX12_71 k_1 q_8 (ix_tb_at tb_X12_isAssumed 11 rfl) (pc1 := 20) rfl ?_
      refine ix_iload_n (i := 3) (j := 3) X (ix_tb_at tb_X12_isAssumed 12 rfl) rfl rfl (pc1 := 21) rfl ?_
      obtain ⟨k_9, h⟩ := ix_ck_some h
      refine iz_iald X k_9 (ix_tb_at tb_X12_isAssumed 13 rfl) (pc1 := 22) rfl ?_
      refine ix_iload_n (i := 1) (j := 1) X (ix_tb_at tb_X12_isAssumed 14 rfl) rfl rfl (pc1 := 23) rfl ?_
      refine ix_icmp_ne (tgt := 30) X (ix_tb_at tb_X12_isAssumed 15 rfl) (by decide) (pc1 := 26) rfl (fun q_10 => ?_) (fun q_10 => ?_)
      · have h := ix_iff q_10 h
        refine ix_iconst (v := 0) X (ix_tb_at tb_X12_isAssumed 18 rfl) (by decide) (pc1 := 31) rfl ?_
        refine ix_sub (L1 := [(0, .ref (K.2.2.1 + a0)), (1, .int x1), (3, .int x3)]) [0, 1, 3] rfl ?_
        exact t_X12_isAssumed_31 hKp X hr hlk hrec4 h
      · have h := ix_ift q_10 h
        refine ix_sub (L1 := [(0, .ref (K.2.2.1 + a0)), (1, .int x1), (3, .int x3)]) [0, 1, 3] rfl ?_
        exact t_X12_isAssumed_26 hKp X hr hlk hrec4 h
theorem t_X12_isAssumed_4 {l : Launch} {p : Program} {e : Env} {s : State} {m : MethodId} {args : Array Value} {below : List Frame} {meth : Method} {c : Code} {K : ix_Cx} (hKp : ix_Kp K) {n : Nat} {z : ix_Z} (X : ix_X p s m args c K cX12_isAssumed RX12 4) (hr : meth.sig.returnType = (some .boolean)) (hlk : meth.locks = false)  {a0 : Nat} {x1 : Int32} {r : Int32} {d1 : ix_D2}  {x2 : Int32} {x3 : Int32} {d : ix_D2} (h : f_X12_isAssumed_4 n z  a0 x1 x2 x3 d = some (r, d1)) : ix_G p l e (ix_rm 0 0 0 0) s m args below meth c (MQ below (ix_Post K (some (.int r)) (ix_w z d1)) args s 0 0 (ix_A K)) K 4 0 0 4 [(0, .ref (K.2.2.1 + a0)), (1, .int x1), (2, .int x2), (3, .int x3)] [] (ix_w z d) := by
  have key : ∀ (f : Nat) (x2 : Int32) (x3 : Int32) (d : ix_D2), ix_fix (b_X12_isAssumed_4 n z  a0 x1) (fun _ _ _ => none) f x2 x3 d = some (r, d1) → ix_G p l e (ix_rm 0 0 0 0) s m args below meth c (MQ below (ix_Post K (some (.int r)) (ix_w z d1)) args s 0 0 (ix_A K)) K 4 0 0 4 [(0, .ref (K.2.2.1 + a0)), (1, .int x1), (2, .int x2), (3, .int x3)] [] (ix_w z d) := by
    intro f
    induction f with
    | zero =>
      intro x2 x3 d h
      have h : (none : Option (Int32 × ix_D2)) = some (r, d1) := h
      cases h
    | succ f ih =>
      intro x2 x3 d h
      exact tb_X12_isAssumed_4 hKp X hr hlk (rec4 := ix_fix (b_X12_isAssumed_4 n z  a0 x1) (fun _ _ _ => none) f)  ih h
  exact key n x2 x3 d h
set_option maxRecDepth 20000 in
theorem c_X12_isAssumed {l : Launch} {K : ix_Cx} (hKp : ix_Kp K) {n : Nat} {z : ix_Z} {a0 : Nat} {x1 : Int32} {d : ix_D2} {r : Int32} {d1 : ix_D2} (h : f_X12_isAssumed n z a0 x1 d = some (r, d1)) : ix_M l K yX12_isAssumed cX12_isAssumed 4 (some .boolean) 0 0 0 0 [.ref (K.2.2.1 + a0), .int x1] (ix_w z d) (some (.int r)) (ix_w z d1) := by
  refine ix_met mf_X12_isAssumed hKp (Nat.le_of_ble_eq_true rfl) ?_
  intro p e s m args below meth c hr hlk hnm X
  have X : ix_X p s m args c K cX12_isAssumed RX12 4 := X
  show ix_G p l e (ix_rm 0 0 0 0) s m args below meth c (MQ below (ix_Post K (some (.int r)) (ix_w z d1)) args s 0 0 (ix_A K)) K 4 0 0 0 [(0, .ref (K.2.2.1 + a0)), (1, .int x1)] [] (ix_w z d)
  unfold f_X12_isAssumed at h
  refine ix_iconst (v := 0) X (ix_tb_at tb_X12_isAssumed 0 rfl) (by decide) (pc1 := 1) rfl ?_
  refine ix_istore_n (i := 2) (L1 := [(2, .int 0), (0, .ref (K.2.2.1 + a0)), (1, .int x1)]) X (ix_tb_at tb_X12_isAssumed 1 rfl) rfl (Nat.le_of_ble_eq_true rfl) rfl (pc1 := 2) rfl ?_
  refine ix_iconst (v := 0) X (ix_tb_at tb_X12_isAssumed 2 rfl) (by decide) (pc1 := 3) rfl ?_
  refine ix_istore_n (i := 3) (L1 := [(3, .int 0), (2, .int 0), (0, .ref (K.2.2.1 + a0)), (1, .int x1)]) X (ix_tb_at tb_X12_isAssumed 3 rfl) rfl (Nat.le_of_ble_eq_true rfl) rfl (pc1 := 4) rfl ?_
  refine ix_sub (L1 := [(0, .ref (K.2.2.1 + a0)), (1, .int x1), (2, .int 0), (3, .int 0)]) [2, 3, 1, 0] rfl ?_
  exact t_X12_isAssumed_4 hKp X hr hlk  h
def tab_X12_check : List (Nat × Instr × Nat) := [(0, .iconst 0, 1), (1, .istore_n 1, 1), (2, .iload_n 1, 1), (3, .aload_n 0, 1), (4, .getfield 605, 3), (7, .if_icmp .ge 17, 3), (10, .aload_n 0, 1), (11, .iload_n 1, 1), (12, .invokevirtual 624, 3), (15, .ifCond .eq 9, 3), (18, .iinc 1 1, 3), (21, .goto (-19), 3), (24, .iload_n 1, 1), (25, .aload_n 0, 1), (26, .getfield 605, 3), (29, .if_icmp .ne 14, 3), (32, .aload_n 0, 1), (33, .getfield 605, 3), (36, .ifCond .le 7, 3), (39, .iconst 1, 1), (40, .goto 4, 3), (43, .iconst 0, 1), (44, .istore_n 2, 1), (45, .iload_n 2, 1), (46, .ifCond .eq 58, 3), (49, .aload_n 0, 1), (50, .getfield 222, 3), (53, .aload_n 0, 1), (54, .getfield 605, 3), (57, .iconst 1, 1), (58, .isub, 1), (59, .iaload, 1), (60, .istore_n 3, 1), (61, .iload_n 3, 1), (62, .aload_n 0, 1), (63, .getfield 222, 3), (66, .aload_n 0, 1), (67, .getfield 605, 3), (70, .iaload, 1), (71, .if_icmp .ge 33, 3), (74, .iload_n 2, 1), (75, .ifCond .eq 21, 3), (78, .aload_n 0, 1), (79, .aload_n 0, 1), (80, .getfield 225, 3), (83, .iload_n 3, 1), (84, .iaload, 1), (85, .ineg, 1), (86, .invokevirtual 627, 3), (89, .ifCond .eq 7, 3), (92, .iconst 1, 1), (93, .goto 4, 3), (96, .iconst 0, 1), (97, .istore_n 2, 1), (98, .iinc 3 1, 3), (101, .goto (-40), 3), (104, .aload_n 0, 1), (105, .iload_n 2, 1), (106, .ifCond .eq 9, 3), (109, .sipush (-1005), 3), (112, .goto 4, 3), (115, .iload_n 1, 1), (116, .putfield 231, 3), (119, .iload_n 2, 1), (120, .ifCond .eq 7, 3), (123, .iconst 1, 1), (124, .goto 4, 3), (127, .iconst 0, 1), (128, .ireturn, 1)]
theorem tb_X12_check : ix_tab cX12_check tab_X12_check := by
  unfold ix_tab
  decide +kernel
noncomputable def f_X12_check_116 (n : Nat) (z : ix_Z)  (x2 : Int32) (s0 : Int32) (s1 : Nat) (d : ix_D2) : Option (Int32 × ix_D2) :=
  ix_ck (ix_ok z [11] s1) (ix_lt (ix_di d s1 111 s0) (fun d_8 => ix_if (x2 = 0) (some (0, d_8)) (some (1, d_8))))
noncomputable def f_X12_check_104 (n : Nat) (z : ix_Z)  (a0 : Nat) (x1 : Int32) (x2 : Int32) (d : ix_D2) : Option (Int32 × ix_D2) :=
  ix_if (x2 = 0) (f_X12_check_116 n z  x2 x1 a0 d) (f_X12_check_116 n z  x2 ((-1005)) a0 d)
noncomputable def f_X12_check_97 (n : Nat) (z : ix_Z) (rec61 : Int32 → Int32 → ix_D2 → Option (Int32 × ix_D2)) (a0 : Nat) (x1 : Int32) (x3 : Int32) (s0 : Int32) (d : ix_D2) : Option (Int32 × ix_D2) :=
  ix_lt (x3 + 1) (fun x3_23 => rec61 s0 x3_23 d)
noncomputable def f_X12_check_96 (n : Nat) (z : ix_Z) (rec61 : Int32 → Int32 → ix_D2 → Option (Int32 × ix_D2)) (a0 : Nat) (x1 : Int32) (x3 : Int32) (d : ix_D2) : Option (Int32 × ix_D2) :=
  f_X12_check_97 n z rec61 a0 x1 x3 0 d
noncomputable def b_X12_check_61 (n : Nat) (z : ix_Z)  (a0 : Nat) (x1 : Int32) (rec61 : Int32 → Int32 → ix_D2 → Option (Int32 × ix_D2)) (x2 : Int32) (x3 : Int32) (d : ix_D2) : Option (Int32 × ix_D2) :=
  ix_ck (ix_ok z [11] a0) (ix_bd1 (z.1 a0 109) (fun b_18 => ix_ck (ix_ix z 20 b_18 (d.1 a0 108)) (ix_if (d.1 b_18 (ix_n (d.1 a0 108)) ≤ x3) (f_X12_check_104 n z  a0 x1 x2 d) (ix_if (x2 = 0) (f_X12_check_96 n z rec61 a0 x1 x3 d) (ix_bd1 (z.1 a0 110) (fun b_25 => ix_ck (ix_ix z 20 b_25 x3) (ix_bd2 (f_X12_isAssumed n z a0 (-(d.1 b_25 (ix_n x3))) d) (fun r_30 d_28 => ix_if (r_30 = 0) (f_X12_check_96 n z rec61 a0 x1 x3 d_28) (f_X12_check_97 n z rec61 a0 x1 x3 1 d_28)))))))))
noncomputable def f_X12_check_61 (n : Nat) (z : ix_Z)  (a0 : Nat) (x1 : Int32) (x2 : Int32) (x3 : Int32) (d : ix_D2) : Option (Int32 × ix_D2) := ix_fix (b_X12_check_61 n z  a0 x1) (fun _ _ _ => none) n x2 x3 d
noncomputable def f_X12_check_44 (n : Nat) (z : ix_Z)  (a0 : Nat) (x1 : Int32) (s0 : Int32) (d : ix_D2) : Option (Int32 × ix_D2) :=
  ix_if (s0 = 0) (f_X12_check_104 n z  a0 x1 s0 d) (ix_ck (ix_ok z [11] a0) (ix_bd1 (z.1 a0 109) (fun b_12 => ix_ck (ix_ix z 20 b_12 ((d.1 a0 108) - 1)) (ix_lt (d.1 b_12 (ix_n ((d.1 a0 108) - 1))) (fun x3_15 => f_X12_check_61 n z  a0 x1 s0 x3_15 d)))))
noncomputable def f_X12_check_43 (n : Nat) (z : ix_Z)  (a0 : Nat) (x1 : Int32) (d : ix_D2) : Option (Int32 × ix_D2) :=
  f_X12_check_44 n z  a0 x1 0 d
noncomputable def f_X12_check_24 (n : Nat) (z : ix_Z)  (a0 : Nat) (x1 : Int32) (d : ix_D2) : Option (Int32 × ix_D2) :=
  ix_ck (ix_ok z [11] a0) (ix_if (x1 = d.1 a0 108) (ix_if (d.1 a0 108 ≤ 0) (f_X12_check_43 n z  a0 x1 d) (f_X12_check_44 n z  a0 x1 1 d)) (f_X12_check_43 n z  a0 x1 d))
noncomputable def b_X12_check_2 (n : Nat) (z : ix_Z)  (a0 : Nat) (rec2 : Int32 → ix_D2 → Option (Int32 × ix_D2)) (x1 : Int32) (d : ix_D2) : Option (Int32 × ix_D2) :=
  ix_ck (ix_ok z [11] a0) (ix_if (d.1 a0 108 ≤ x1) (f_X12_check_24 n z  a0 x1 d) (ix_bd2 (f_X12_follows n z a0 x1 d) (fun r_35 d_33 => ix_if (r_35 = 0) (f_X12_check_24 n z  a0 x1 d_33) (ix_lt (x1 + 1) (fun x1_37 => rec2 x1_37 d_33)))))
noncomputable def f_X12_check_2 (n : Nat) (z : ix_Z)  (a0 : Nat) (x1 : Int32) (d : ix_D2) : Option (Int32 × ix_D2) := ix_fix (b_X12_check_2 n z  a0) (fun _ _ => none) n x1 d
noncomputable def f_X12_check (n : Nat) (z : ix_Z) (a0 : Nat) (d : ix_D2) : Option (Int32 × ix_D2) :=
  f_X12_check_2 n z  a0 0 d
set_option maxRecDepth 20000 in
theorem t_X12_check_116 {l : Launch} {p : Program} {e : Env} {s : State} {m : MethodId} {args : Array Value} {below : List Frame} {meth : Method} {c : Code} {K : ix_Cx} (hKp : ix_Kp K) {n : Nat} {z : ix_Z} (X : ix_X p s m args c K cX12_check RX12 4) (hr : meth.sig.returnType = (some .int)) (hlk : meth.locks = false)  {x2 : Int32} {s0 : Int32} {s1 : Nat} {r : Int32} {d1 : ix_D2}  {d : ix_D2} (h : f_X12_check_116 n z  x2 s0 s1 d = some (r, d1)) : ix_G p l e (ix_rm 4 92 0 0) s m args below meth c (MQ below (ix_Post K (some (.int r)) (ix_w z d1)) args s 0 0 (ix_A K)) K 4 0 0 116 [(2, .int x2)] [.int s0, .ref (K.2.2.1 + s1)] (ix_w z d) := by
  unfold f_X12_check_116 at h
  obtain ⟨k_7, h⟩ := ix_ck_some h
  obtain ⟨d_8, e_9, h⟩ := ix_lt_ex h
  refine iz_putI X fp_RX12_231 k_7 (ix_tb_at tb_X12_check 62 rfl) e_9 (pc1 := 119) rfl ?_
  refine ix_iload_n (i := 2) (j := 0) X (ix_tb_at tb_X12_check 63 rfl) rfl rfl (pc1 := 120) rfl ?_
  refine ix_if_eq (tgt := 127) X (ix_tb_at tb_X12_check 64 rfl) (by decide) (pc1 := 123) rfl (fun q_10 => ?_) (fun q_10 => ?_)
  · have h := ix_ift q_10 h
    refine ix_iconst (v := 0) X (ix_tb_at tb_X12_check 67 rfl) (by decide) (pc1 := 128) rfl ?_
    exact ix_iret X hr hlk (ix_r2 (f := fun r => some (.int r)) (g := ix_w z) h) (ix_tb_at tb_X12_check 68 rfl)
  · have h := ix_iff q_10 h
    refine ix_iconst (v := 1) X (ix_tb_at tb_X12_check 65 rfl) (by decide) (pc1 := 124) rfl ?_
    refine ix_goto (tgt := 128) X (ix_tb_at tb_X12_check 66 rfl) (by decide) ?_
    exact ix_iret X hr hlk (ix_r2 (f := fun r => some (.int r)) (g := ix_w z) h) (ix_tb_at tb_X12_check 68 rfl)
set_option maxRecDepth 20000 in
theorem t_X12_check_104 {l : Launch} {p : Program} {e : Env} {s : State} {m : MethodId} {args : Array Value} {below : List Frame} {meth : Method} {c : Code} {K : ix_Cx} (hKp : ix_Kp K) {n : Nat} {z : ix_Z} (X : ix_X p s m args c K cX12_check RX12 4) (hr : meth.sig.returnType = (some .int)) (hlk : meth.locks = false)  {a0 : Nat} {x1 : Int32} {x2 : Int32} {r : Int32} {d1 : ix_D2}  {d : ix_D2} (h : f_X12_check_104 n z  a0 x1 x2 d = some (r, d1)) : ix_G p l e (ix_rm 4 92 0 0) s m args below meth c (MQ below (ix_Post K (some (.int r)) (ix_w z d1)) args s 0 0 (ix_A K)) K 4 0 0 104 [(0, .ref (K.2.2.1 + a0)), (1, .int x1), (2, .int x2)] [] (ix_w z d) := by
  unfold f_X12_check_104 at h
  refine ix_aload_n (i := 0) (j := 0) X (ix_tb_at tb_X12_check 56 rfl) rfl rfl (pc1 := 105) rfl ?_
  refine ix_iload_n (i := 2) (j := 2) X (ix_tb_at tb_X12_check 57 rfl) rfl rfl (pc1 := 106) rfl ?_
  refine ix_if_eq (tgt := 115) X (ix_tb_at tb_X12_check 58 rfl) (by decide) (pc1 := 109) rfl (fun q_6 => ?_) (fun q_6 => ?_)
  · have h := ix_ift q_6 h
    refine ix_iload_n (i := 1) (j := 1) X (ix_tb_at tb_X12_check 61 rfl) rfl rfl (pc1 := 116) rfl ?_
    refine ix_sub (L1 := [(2, .int x2)]) [2] rfl ?_
    exact t_X12_check_116 hKp X hr hlk  h
  · have h := ix_iff q_6 h
    refine ix_sipush (v := (-1005)) X (ix_tb_at tb_X12_check 59 rfl) (by decide) (pc1 := 112) rfl ?_
    refine ix_goto (tgt := 116) X (ix_tb_at tb_X12_check 60 rfl) (by decide) ?_
    refine ix_sub (L1 := [(2, .int x2)]) [2] rfl ?_
    exact t_X12_check_116 hKp X hr hlk  h
set_option maxRecDepth 20000 in
theorem t_X12_check_97 {l : Launch} {p : Program} {e : Env} {s : State} {m : MethodId} {args : Array Value} {below : List Frame} {meth : Method} {c : Code} {K : ix_Cx} (hKp : ix_Kp K) {n : Nat} {z : ix_Z} (X : ix_X p s m args c K cX12_check RX12 4) (hr : meth.sig.returnType = (some .int)) (hlk : meth.locks = false) {rec61 : Int32 → Int32 → ix_D2 → Option (Int32 × ix_D2)} {a0 : Nat} {x1 : Int32} {x3 : Int32} {s0 : Int32} {r : Int32} {d1 : ix_D2} (hrec61 : ∀ (x2 : Int32) (x3 : Int32) (d : ix_D2), rec61 x2 x3 d = some (r, d1) → ix_G p l e (ix_rm 4 92 0 0) s m args below meth c (MQ below (ix_Post K (some (.int r)) (ix_w z d1)) args s 0 0 (ix_A K)) K 4 0 0 61 [(0, .ref (K.2.2.1 + a0)), (1, .int x1), (2, .int x2), (3, .int x3)] [] (ix_w z d)) {d : ix_D2} (h : f_X12_check_97 n z rec61 a0 x1 x3 s0 d = some (r, d1)) : ix_G p l e (ix_rm 4 92 0 0) s m args below meth c (MQ below (ix_Post K (some (.int r)) (ix_w z d1)) args s 0 0 (ix_A K)) K 4 0 0 97 [(0, .ref (K.2.2.1 + a0)), (1, .int x1), (3, .int x3)] [.int s0] (ix_w z d) := by
  unfold f_X12_check_97 at h
  refine ix_istore_n (i := 2) (L1 := [(2, .int s0), (0, .ref (K.2.2.1 + a0)), (1, .int x1), (3, .int x3)]) X (ix_tb_at tb_X12_check 53 rfl) rfl (Nat.le_of_ble_eq_true rfl) rfl (pc1 := 98) rfl ?_
  obtain ⟨x3_23, e_24, h⟩ := ix_lt_ex h
  refine ix_iinc (i := 3) (j := 3) (v := x3_23) (L1 := [(3, .int x3_23), (2, .int s0), (0, .ref (K.2.2.1 + a0)), (1, .int x1)]) X (ix_tb_at tb_X12_check 54 rfl) rfl (by rw [oi_1]; exact e_24.symm) (Nat.le_of_ble_eq_true rfl) rfl (pc1 := 101) rfl ?_
  refine ix_goto (tgt := 61) X (ix_tb_at tb_X12_check 55 rfl) (by decide) ?_
  refine ix_sub (L1 := [(0, .ref (K.2.2.1 + a0)), (1, .int x1), (2, .int s0), (3, .int x3_23)]) [2, 3, 1, 0] rfl ?_
  exact hrec61 s0 x3_23 d h
set_option maxRecDepth 20000 in
theorem t_X12_check_96 {l : Launch} {p : Program} {e : Env} {s : State} {m : MethodId} {args : Array Value} {below : List Frame} {meth : Method} {c : Code} {K : ix_Cx} (hKp : ix_Kp K) {n : Nat} {z : ix_Z} (X : ix_X p s m args c K cX12_check RX12 4) (hr : meth.sig.returnType = (some .int)) (hlk : meth.locks = false) {rec61 : Int32 → Int32 → ix_D2 → Option (Int32 × ix_D2)} {a0 : Nat} {x1 : Int32} {x3 : Int32} {r : Int32} {d1 : ix_D2} (hrec61 : ∀ (x2 : Int32) (x3 : Int32) (d : ix_D2), rec61 x2 x3 d = some (r, d1) → ix_G p l e (ix_rm 4 92 0 0) s m args below meth c (MQ below (ix_Post K (some (.int r)) (ix_w z d1)) args s 0 0 (ix_A K)) K 4 0 0 61 [(0, .ref (K.2.2.1 + a0)), (1, .int x1), (2, .int x2), (3, .int x3)] [] (ix_w z d)) {d : ix_D2} (h : f_X12_check_96 n z rec61 a0 x1 x3 d = some (r, d1)) : ix_G p l e (ix_rm 4 92 0 0) s m args below meth c (MQ below (ix_Post K (some (.int r)) (ix_w z d1)) args s 0 0 (ix_A K)) K 4 0 0 96 [(0, .ref (K.2.2.1 + a0)), (1, .int x1), (3, .int x3)] [] (ix_w z d) := by
  unfold f_X12_check_96 at h
  refine ix_iconst (v := 0) X (ix_tb_at tb_X12_check 52 rfl) (by decide) (pc1 := 97) rfl ?_
  refine ix_sub (L1 := [(0, .ref (K.2.2.1 + a0)), (1, .int x1), (3, .int x3)]) [0, 1, 2] rfl ?_
  exact t_X12_check_97 hKp X hr hlk hrec61 h
set_option maxRecDepth 20000 in
theorem tb_X12_check_61 {l : Launch} {p : Program} {e : Env} {s : State} {m : MethodId} {args : Array Value} {below : List Frame} {meth : Method} {c : Code} {K : ix_Cx} (hKp : ix_Kp K) {n : Nat} {z : ix_Z} (X : ix_X p s m args c K cX12_check RX12 4) (hr : meth.sig.returnType = (some .int)) (hlk : meth.locks = false)  {a0 : Nat} {x1 : Int32} {rec61 : Int32 → Int32 → ix_D2 → Option (Int32 × ix_D2)} {r : Int32} {d1 : ix_D2} (hrec61 : ∀ (x2 : Int32) (x3 : Int32) (d : ix_D2), rec61 x2 x3 d = some (r, d1) → ix_G p l e (ix_rm 4 92 0 0) s m args below meth c (MQ below (ix_Post K (some (.int r)) (ix_w z d1)) args s 0 0 (ix_A K)) K 4 0 0 61 [(0, .ref (K.2.2.1 + a0)), (1, .int x1), (2, .int x2), (3, .int x3)] [] (ix_w z d)) {x2 : Int32} {x3 : Int32} {d : ix_D2} (h : b_X12_check_61 n z  a0 x1 rec61 x2 x3 d = some (r, d1)) : ix_G p l e (ix_rm 4 92 0 0) s m args below meth c (MQ below (ix_Post K (some (.int r)) (ix_w z d1)) args s 0 0 (ix_A K)) K 4 0 0 61 [(0, .ref (K.2.2.1 + a0)), (1, .int x1), (2, .int x2), (3, .int x3)] [] (ix_w z d) := by
  unfold b_X12_check_61 at h
  refine ix_iload_n (i := 3) (j := 3) X (ix_tb_at tb_X12_check 33 rfl) rfl rfl (pc1 := 62) rfl ?_
  refine ix_aload_n (i := 0) (j := 0) X (ix_tb_at tb_X12_check 34 rfl) rfl rfl (pc1 := 63) rfl ?_
  obtain ⟨k_17, h⟩ := ix_ck_some h
  obtain ⟨b_18, q_19, h⟩ := ix_bd1_ex h
  refine iz_getR X fl_RX12_222 k_17 q_19 (ix_tb_at tb_X12_check 35 rfl) (pc1 := 66) rfl ?_
  refine ix_aload_n (i := 0) (j := 0) X (ix_tb_at tb_X12_check 36 rfl) rfl rfl (pc1 := 67) rfl ?_
  refine iz_getI X fl_RX12_605 k_17 (ix_tb_at tb_X12_check 37 rfl) (pc1 := 70) rfl ?_
  obtain ⟨k_20, h⟩ := ix_ck_some h
  refine iz_iald X k_20 (ix_tb_at tb_X12_check 38 rfl) (pc1 := 71) rfl ?_
  refine ix_icmp_ge (tgt := 104) X (ix_tb_at tb_X12_check 39 rfl) (by decide) (pc1 := 74) rfl (fun q_21 => ?_) (fun q_21 => ?_)
  · have h := ix_ift q_21 h
    refine ix_sub (L1 := [(0, .ref (K.2.2.1 + a0)), (1, .int x1), (2, .int x2)]) [0, 1, 2] rfl ?_
    exact t_X12_check_104 hKp X hr hlk  h
  · have h := ix_iff q_21 h
    refine ix_iload_n (i := 2) (j := 2) X (ix_tb_at tb_X12_check 40 rfl) rfl rfl (pc1 := 75) rfl ?_
    refine ix_if_eq (tgt := 96) X (ix_tb_at tb_X12_check 41 rfl) (by decide) (pc1 := 78) rfl (fun q_22 => ?_) (fun q_22 => ?_)
    · have h := ix_ift q_22 h
      refine ix_sub (L1 := [(0, .ref (K.2.2.1 + a0)), (1, .int x1), (3, .int x3)]) [0, 1, 3] rfl ?_
      exact t_X12_check_96 hKp X hr hlk hrec61 h
    · have h := ix_iff q_22 h
      refine ix_aload_n (i := 0) (j := 0) X (ix_tb_at tb_X12_check 42 rfl) rfl rfl (pc1 := 79) rfl ?_
      refine ix_aload_n (i := 0) (j := 0) X (ix_tb_at tb_X12_check 43 rfl) rfl rfl (pc1 := 80) rfl ?_
      obtain ⟨b_25, q_26, h⟩ := ix_bd1_ex h
      refine iz_getR X fl_RX12_225 k_17 q_26 (ix_tb_at tb_X12_check 44 rfl) (pc1 := 83) rfl ?_
      refine ix_iload_n (i := 3) (j := 3) X (ix_tb_at tb_X12_check 45 rfl) rfl rfl (pc1 := 84) rfl ?_
      obtain ⟨k_27, h⟩ := ix_ck_some h
      refine iz_iald X k_27 (ix_tb_at tb_X12_check 46 rfl) (pc1 := 85) rfl ?_
      refine ix_ineg X (ix_tb_at tb_X12_check 47 rfl) (pc1 := 86) rfl ?_
      obtain ⟨r_30, d_28, h_29, h⟩ := ix_bd2_ex h
      refine ix_callV (As := [.int (-(d.1 b_25 (ix_n x3)))]) (rest := []) (ci := 11) (T := TX12) (nf := 116) X mf_X12_isAssumed mi_X12_isAssumed ms_X12_isAssumed rfl (Nat.le_of_ble_eq_true rfl) ml_RX12_627 ⟨Nat.le_of_ble_eq_true rfl, Nat.le_of_ble_eq_true rfl⟩ ⟨Nat.le_of_ble_eq_true rfl, Nat.le_of_ble_eq_true rfl⟩ rfl (Nat.le_of_ble_eq_true rfl) (ix_tb_at tb_X12_check 48 rfl) ⟨k_17.1, List.mem_singleton.mp k_17.2⟩ (c_X12_isAssumed hKp h_29) rfl (pc1 := 89) rfl ?_
      refine ix_if_eq (tgt := 96) X (ix_tb_at tb_X12_check 49 rfl) (by decide) (pc1 := 92) rfl (fun q_31 => ?_) (fun q_31 => ?_)
      · have h := ix_ift q_31 h
        refine ix_sub (L1 := [(0, .ref (K.2.2.1 + a0)), (1, .int x1), (3, .int x3)]) [0, 1, 3] rfl ?_
        exact t_X12_check_96 hKp X hr hlk hrec61 h
      · have h := ix_iff q_31 h
        refine ix_iconst (v := 1) X (ix_tb_at tb_X12_check 50 rfl) (by decide) (pc1 := 93) rfl ?_
        refine ix_goto (tgt := 97) X (ix_tb_at tb_X12_check 51 rfl) (by decide) ?_
        refine ix_sub (L1 := [(0, .ref (K.2.2.1 + a0)), (1, .int x1), (3, .int x3)]) [0, 1, 3] rfl ?_
        exact t_X12_check_97 hKp X hr hlk hrec61 h
theorem t_X12_check_61 {l : Launch} {p : Program} {e : Env} {s : State} {m : MethodId} {args : Array Value} {below : List Frame} {meth : Method} {c : Code} {K : ix_Cx} (hKp : ix_Kp K) {n : Nat} {z : ix_Z} (X : ix_X p s m args c K cX12_check RX12 4) (hr : meth.sig.returnType = (some .int)) (hlk : meth.locks = false)  {a0 : Nat} {x1 : Int32} {r : Int32} {d1 : ix_D2}  {x2 : Int32} {x3 : Int32} {d : ix_D2} (h : f_X12_check_61 n z  a0 x1 x2 x3 d = some (r, d1)) : ix_G p l e (ix_rm 4 92 0 0) s m args below meth c (MQ below (ix_Post K (some (.int r)) (ix_w z d1)) args s 0 0 (ix_A K)) K 4 0 0 61 [(0, .ref (K.2.2.1 + a0)), (1, .int x1), (2, .int x2), (3, .int x3)] [] (ix_w z d) := by
  have key : ∀ (f : Nat) (x2 : Int32) (x3 : Int32) (d : ix_D2), ix_fix (b_X12_check_61 n z  a0 x1) (fun _ _ _ => none) f x2 x3 d = some (r, d1) → ix_G p l e (ix_rm 4 92 0 0) s m args below meth c (MQ below (ix_Post K (some (.int r)) (ix_w z d1)) args s 0 0 (ix_A K)) K 4 0 0 61 [(0, .ref (K.2.2.1 + a0)), (1, .int x1), (2, .int x2), (3, .int x3)] [] (ix_w z d) := by
    intro f
    induction f with
    | zero =>
      intro x2 x3 d h
      have h : (none : Option (Int32 × ix_D2)) = some (r, d1) := h
      cases h
    | succ f ih =>
      intro x2 x3 d h
      exact tb_X12_check_61 hKp X hr hlk (rec61 := ix_fix (b_X12_check_61 n z  a0 x1) (fun _ _ _ => none) f)  ih h
  exact key n x2 x3 d h
set_option maxRecDepth 20000 in
theorem t_X12_check_44 {l : Launch} {p : Program} {e : Env} {s : State} {m : MethodId} {args : Array Value} {below : List Frame} {meth : Method} {c : Code} {K : ix_Cx} (hKp : ix_Kp K) {n : Nat} {z : ix_Z} (X : ix_X p s m args c K cX12_check RX12 4) (hr : meth.sig.returnType = (some .int)) (hlk : meth.locks = false)  {a0 : Nat} {x1 : Int32} {s0 : Int32} {r : Int32} {d1 : ix_D2}  {d : ix_D2} (h : f_X12_check_44 n z  a0 x1 s0 d = some (r, d1)) : ix_G p l e (ix_rm 4 92 0 0) s m args below meth c (MQ below (ix_Post K (some (.int r)) (ix_w z d1)) args s 0 0 (ix_A K)) K 4 0 0 44 [(0, .ref (K.2.2.1 + a0)), (1, .int x1)] [.int s0] (ix_w z d) := by
  unfold f_X12_check_44 at h
  refine ix_istore_n (i := 2) (L1 := [(2, .int s0), (0, .ref (K.2.2.1 + a0)), (1, .int x1)]) X (ix_tb_at tb_X12_check 22 rfl) rfl (Nat.le_of_ble_eq_true rfl) rfl (pc1 := 45) rfl ?_
  refine ix_iload_n (i := 2) (j := 0) X (ix_tb_at tb_X12_check 23 rfl) rfl rfl (pc1 := 46) rfl ?_
  refine ix_if_eq (tgt := 104) X (ix_tb_at tb_X12_check 24 rfl) (by decide) (pc1 := 49) rfl (fun q_5 => ?_) (fun q_5 => ?_)
  · have h := ix_ift q_5 h
    refine ix_sub (L1 := [(0, .ref (K.2.2.1 + a0)), (1, .int x1), (2, .int s0)]) [1, 2, 0] rfl ?_
    exact t_X12_check_104 hKp X hr hlk  h
  · have h := ix_iff q_5 h
    refine ix_aload_n (i := 0) (j := 1) X (ix_tb_at tb_X12_check 25 rfl) rfl rfl (pc1 := 50) rfl ?_
    obtain ⟨k_11, h⟩ := ix_ck_some h
    obtain ⟨b_12, q_13, h⟩ := ix_bd1_ex h
    refine iz_getR X fl_RX12_222 k_11 q_13 (ix_tb_at tb_X12_check 26 rfl) (pc1 := 53) rfl ?_
    refine ix_aload_n (i := 0) (j := 1) X (ix_tb_at tb_X12_check 27 rfl) rfl rfl (pc1 := 54) rfl ?_
    refine iz_getI X fl_RX12_605 k_11 (ix_tb_at tb_X12_check 28 rfl) (pc1 := 57) rfl ?_
    refine ix_iconst (v := 1) X (ix_tb_at tb_X12_check 29 rfl) (by decide) (pc1 := 58) rfl ?_
    refine ix_isub X (ix_tb_at tb_X12_check 30 rfl) (pc1 := 59) rfl ?_
    obtain ⟨k_14, h⟩ := ix_ck_some h
    refine iz_iald X k_14 (ix_tb_at tb_X12_check 31 rfl) (pc1 := 60) rfl ?_
    obtain ⟨x3_15, e_16, h⟩ := ix_lt_ex h
    refine ix_nmi e_16 ?_
    refine ix_istore_n (i := 3) (L1 := [(3, .int x3_15), (2, .int s0), (0, .ref (K.2.2.1 + a0)), (1, .int x1)]) X (ix_tb_at tb_X12_check 32 rfl) rfl (Nat.le_of_ble_eq_true rfl) rfl (pc1 := 61) rfl ?_
    refine ix_sub (L1 := [(0, .ref (K.2.2.1 + a0)), (1, .int x1), (2, .int s0), (3, .int x3_15)]) [2, 3, 1, 0] rfl ?_
    exact t_X12_check_61 hKp X hr hlk  h
set_option maxRecDepth 20000 in
theorem t_X12_check_43 {l : Launch} {p : Program} {e : Env} {s : State} {m : MethodId} {args : Array Value} {below : List Frame} {meth : Method} {c : Code} {K : ix_Cx} (hKp : ix_Kp K) {n : Nat} {z : ix_Z} (X : ix_X p s m args c K cX12_check RX12 4) (hr : meth.sig.returnType = (some .int)) (hlk : meth.locks = false)  {a0 : Nat} {x1 : Int32} {r : Int32} {d1 : ix_D2}  {d : ix_D2} (h : f_X12_check_43 n z  a0 x1 d = some (r, d1)) : ix_G p l e (ix_rm 4 92 0 0) s m args below meth c (MQ below (ix_Post K (some (.int r)) (ix_w z d1)) args s 0 0 (ix_A K)) K 4 0 0 43 [(0, .ref (K.2.2.1 + a0)), (1, .int x1)] [] (ix_w z d) := by
  unfold f_X12_check_43 at h
  refine ix_iconst (v := 0) X (ix_tb_at tb_X12_check 21 rfl) (by decide) (pc1 := 44) rfl ?_
  refine ix_sub (L1 := [(0, .ref (K.2.2.1 + a0)), (1, .int x1)]) [0, 1] rfl ?_
  exact t_X12_check_44 hKp X hr hlk  h
set_option maxRecDepth 20000 in
theorem t_X12_check_24 {l : Launch} {p : Program} {e : Env} {s : State} {m : MethodId} {args : Array Value} {below : List Frame} {meth : Method} {c : Code} {K : ix_Cx} (hKp : ix_Kp K) {n : Nat} {z : ix_Z} (X : ix_X p s m args c K cX12_check RX12 4) (hr : meth.sig.returnType = (some .int)) (hlk : meth.locks = false)  {a0 : Nat} {x1 : Int32} {r : Int32} {d1 : ix_D2}  {d : ix_D2} (h : f_X12_check_24 n z  a0 x1 d = some (r, d1)) : ix_G p l e (ix_rm 4 92 0 0) s m args below meth c (MQ below (ix_Post K (some (.int r)) (ix_w z d1)) args s 0 0 (ix_A K)) K 4 0 0 24 [(0, .ref (K.2.2.1 + a0)), (1, .int x1)] [] (ix_w z d) := by
  unfold f_X12_check_24 at h
  refine ix_iload_n (i := 1) (j := 1) X (ix_tb_at tb_X12_check 12 rfl) rfl rfl (pc1 := 25) rfl ?_
  refine ix_aload_n (i := 0) (j := 0) X (ix_tb_at tb_X12_check 13 rfl) rfl rfl (pc1 := 26) rfl ?_
  obtain ⟨k_3, h⟩ := ix_ck_some h
  refine iz_getI X fl_RX12_605 k_3 (ix_tb_at tb_X12_check 14 rfl) (pc1 := 29) rfl ?_
  refine ix_icmp_ne (tgt := 43) X (ix_tb_at tb_X12_check 15 rfl) (by decide) (pc1 := 32) rfl (fun q_4 => ?_) (fun q_4 => ?_)
  · have h := ix_iff q_4 h
    refine ix_sub (L1 := [(0, .ref (K.2.2.1 + a0)), (1, .int x1)]) [0, 1] rfl ?_
    exact t_X12_check_43 hKp X hr hlk  h
  · have h := ix_ift q_4 h
    refine ix_aload_n (i := 0) (j := 0) X (ix_tb_at tb_X12_check 16 rfl) rfl rfl (pc1 := 33) rfl ?_
    refine iz_getI X fl_RX12_605 k_3 (ix_tb_at tb_X12_check 17 rfl) (pc1 := 36) rfl ?_
    refine ix_if_le (tgt := 43) X (ix_tb_at tb_X12_check 18 rfl) (by decide) (pc1 := 39) rfl (fun q_32 => ?_) (fun q_32 => ?_)
    · have h := ix_ift q_32 h
      refine ix_sub (L1 := [(0, .ref (K.2.2.1 + a0)), (1, .int x1)]) [0, 1] rfl ?_
      exact t_X12_check_43 hKp X hr hlk  h
    · have h := ix_iff q_32 h
      refine ix_iconst (v := 1) X (ix_tb_at tb_X12_check 19 rfl) (by decide) (pc1 := 40) rfl ?_
      refine ix_goto (tgt := 44) X (ix_tb_at tb_X12_check 20 rfl) (by decide) ?_
      refine ix_sub (L1 := [(0, .ref (K.2.2.1 + a0)), (1, .int x1)]) [0, 1] rfl ?_
      exact t_X12_check_44 hKp X hr hlk  h
set_option maxRecDepth 20000 in
theorem tb_X12_check_2 {l : Launch} {p : Program} {e : Env} {s : State} {m : MethodId} {args : Array Value} {below : List Frame} {meth : Method} {c : Code} {K : ix_Cx} (hKp : ix_Kp K) {n : Nat} {z : ix_Z} (X : ix_X p s m args c K cX12_check RX12 4) (hr : meth.sig.returnType = (some .int)) (hlk : meth.locks = false)  {a0 : Nat} {rec2 : Int32 → ix_D2 → Option (Int32 × ix_D2)} {r : Int32} {d1 : ix_D2} (hrec2 : ∀ (x1 : Int32) (d : ix_D2), rec2 x1 d = some (r, d1) → ix_G p l e (ix_rm 4 92 0 0) s m args below meth c (MQ below (ix_Post K (some (.int r)) (ix_w z d1)) args s 0 0 (ix_A K)) K 4 0 0 2 [(0, .ref (K.2.2.1 + a0)), (1, .int x1)] [] (ix_w z d)) {x1 : Int32} {d : ix_D2} (h : b_X12_check_2 n z  a0 rec2 x1 d = some (r, d1)) : ix_G p l e (ix_rm 4 92 0 0) s m args below meth c (MQ below (ix_Post K (some (.int r)) (ix_w z d1)) args s 0 0 (ix_A K)) K 4 0 0 2 [(0, .ref (K.2.2.1 + a0)), (1, .int x1)] [] (ix_w z d) := by
  unfold b_X12_check_2 at h
  refine ix_iload_n (i := 1) (j := 1) X (ix_tb_at tb_X12_check 2 rfl) rfl rfl (pc1 := 3) rfl ?_
  refine ix_aload_n (i := 0) (j := 0) X (ix_tb_at tb_X12_check 3 rfl) rfl rfl (pc1 := 4) rfl ?_
  obtain ⟨k_1, h⟩ := ix_ck_some h
  refine iz_getI X fl_RX12_605 k_1 (ix_tb_at tb_X12_check 4 rfl) (pc1 := 7) rfl ?_
  refine ix_icmp_ge (tgt := 24) X (ix_tb_at tb_X12_check 5 rfl) (by decide) (pc1 := 10) rfl (fun q_2 => ?_) (fun q_2 => ?_)
  · have h := ix_ift q_2 h
    refine ix_sub (L1 := [(0, .ref (K.2.2.1 + a0)), (1, .int x1)]) [0, 1] rfl ?_
    exact t_X12_check_24 hKp X hr hlk  h
  · have h := ix_iff q_2 h
    refine ix_aload_n (i := 0) (j := 0) X (ix_tb_at tb_X12_check 6 rfl) rfl rfl (pc1 := 11) rfl ?_
    refine ix_iload_n (i := 1) (j := 1) X (ix_tb_at tb_X12_check 7 rfl) rfl rfl (pc1 := 12) rfl ?_
    obtain ⟨r_35, d_33, h_34, h⟩ := ix_bd2_ex h
    refine ix_callV (As := [.int x1]) (rest := []) (ci := 11) (T := TX12) (nf := 116) X mf_X12_follows mi_X12_follows ms_X12_follows rfl (Nat.le_of_ble_eq_true rfl) ml_RX12_624 ⟨Nat.le_of_ble_eq_true rfl, Nat.le_of_ble_eq_true rfl⟩ ⟨Nat.le_of_ble_eq_true rfl, Nat.le_of_ble_eq_true rfl⟩ rfl (Nat.le_of_ble_eq_true rfl) (ix_tb_at tb_X12_check 8 rfl) ⟨k_1.1, List.mem_singleton.mp k_1.2⟩ (c_X12_follows hKp h_34) rfl (pc1 := 15) rfl ?_
    refine ix_if_eq (tgt := 24) X (ix_tb_at tb_X12_check 9 rfl) (by decide) (pc1 := 18) rfl (fun q_36 => ?_) (fun q_36 => ?_)
    · have h := ix_ift q_36 h
      refine ix_sub (L1 := [(0, .ref (K.2.2.1 + a0)), (1, .int x1)]) [0, 1] rfl ?_
      exact t_X12_check_24 hKp X hr hlk  h
    · have h := ix_iff q_36 h
      obtain ⟨x1_37, e_38, h⟩ := ix_lt_ex h
      refine ix_iinc (i := 1) (j := 1) (v := x1_37) (L1 := [(1, .int x1_37), (0, .ref (K.2.2.1 + a0))]) X (ix_tb_at tb_X12_check 10 rfl) rfl (by rw [oi_1]; exact e_38.symm) (Nat.le_of_ble_eq_true rfl) rfl (pc1 := 21) rfl ?_
      refine ix_goto (tgt := 2) X (ix_tb_at tb_X12_check 11 rfl) (by decide) ?_
      refine ix_sub (L1 := [(0, .ref (K.2.2.1 + a0)), (1, .int x1_37)]) [1, 0] rfl ?_
      exact hrec2 x1_37 d_33 h
theorem t_X12_check_2 {l : Launch} {p : Program} {e : Env} {s : State} {m : MethodId} {args : Array Value} {below : List Frame} {meth : Method} {c : Code} {K : ix_Cx} (hKp : ix_Kp K) {n : Nat} {z : ix_Z} (X : ix_X p s m args c K cX12_check RX12 4) (hr : meth.sig.returnType = (some .int)) (hlk : meth.locks = false)  {a0 : Nat} {r : Int32} {d1 : ix_D2}  {x1 : Int32} {d : ix_D2} (h : f_X12_check_2 n z  a0 x1 d = some (r, d1)) : ix_G p l e (ix_rm 4 92 0 0) s m args below meth c (MQ below (ix_Post K (some (.int r)) (ix_w z d1)) args s 0 0 (ix_A K)) K 4 0 0 2 [(0, .ref (K.2.2.1 + a0)), (1, .int x1)] [] (ix_w z d) := by
  have key : ∀ (f : Nat) (x1 : Int32) (d : ix_D2), ix_fix (b_X12_check_2 n z  a0) (fun _ _ => none) f x1 d = some (r, d1) → ix_G p l e (ix_rm 4 92 0 0) s m args below meth c (MQ below (ix_Post K (some (.int r)) (ix_w z d1)) args s 0 0 (ix_A K)) K 4 0 0 2 [(0, .ref (K.2.2.1 + a0)), (1, .int x1)] [] (ix_w z d) := by
    intro f
    induction f with
    | zero =>
      intro x1 d h
      have h : (none : Option (Int32 × ix_D2)) = some (r, d1) := h
      cases h
    | succ f ih =>
      intro x1 d h
      exact tb_X12_check_2 hKp X hr hlk (rec2 := ix_fix (b_X12_check_2 n z  a0) (fun _ _ => none) f)  ih h
  exact key n x1 d h
set_option maxRecDepth 20000 in
theorem c_X12_check {l : Launch} {K : ix_Cx} (hKp : ix_Kp K) {n : Nat} {z : ix_Z} {a0 : Nat} {d : ix_D2} {r : Int32} {d1 : ix_D2} (h : f_X12_check n z a0 d = some (r, d1)) : ix_M l K yX12_check cX12_check 4 (some .int) 4 92 0 0 [.ref (K.2.2.1 + a0)] (ix_w z d) (some (.int r)) (ix_w z d1) := by
  refine ix_met mf_X12_check hKp (Nat.le_of_ble_eq_true rfl) ?_
  intro p e s m args below meth c hr hlk hnm X
  have X : ix_X p s m args c K cX12_check RX12 4 := X
  show ix_G p l e (ix_rm 4 92 0 0) s m args below meth c (MQ below (ix_Post K (some (.int r)) (ix_w z d1)) args s 0 0 (ix_A K)) K 4 0 0 0 [(0, .ref (K.2.2.1 + a0))] [] (ix_w z d)
  unfold f_X12_check at h
  refine ix_iconst (v := 0) X (ix_tb_at tb_X12_check 0 rfl) (by decide) (pc1 := 1) rfl ?_
  refine ix_istore_n (i := 1) (L1 := [(1, .int 0), (0, .ref (K.2.2.1 + a0))]) X (ix_tb_at tb_X12_check 1 rfl) rfl (Nat.le_of_ble_eq_true rfl) rfl (pc1 := 2) rfl ?_
  refine ix_sub (L1 := [(0, .ref (K.2.2.1 + a0)), (1, .int 0)]) [1, 0] rfl ?_
  exact t_X12_check_2 hKp X hr hlk  h
def tab_X12_refusedAt : List (Nat × Instr × Nat) := [(0, .aload_n 0, 1), (1, .getfield 231, 3), (4, .ireturn, 1)]
theorem tb_X12_refusedAt : ix_tab cX12_refusedAt tab_X12_refusedAt := by
  unfold ix_tab
  decide +kernel
noncomputable def f_X12_refusedAt (n : Nat) (z : ix_Z) (a0 : Nat) (d : ix_D2) : Option (Int32 × ix_D2) :=
  ix_ck (ix_ok z [11] a0) (some (d.1 a0 111, d))
set_option maxRecDepth 20000 in
theorem c_X12_refusedAt {l : Launch} {K : ix_Cx} (hKp : ix_Kp K) {n : Nat} {z : ix_Z} {a0 : Nat} {d : ix_D2} {r : Int32} {d1 : ix_D2} (h : f_X12_refusedAt n z a0 d = some (r, d1)) : ix_M l K yX12_refusedAt cX12_refusedAt 1 (some .int) 0 0 0 0 [.ref (K.2.2.1 + a0)] (ix_w z d) (some (.int r)) (ix_w z d1) := by
  refine ix_met mf_X12_refusedAt hKp (Nat.le_of_ble_eq_true rfl) ?_
  intro p e s m args below meth c hr hlk hnm X
  have X : ix_X p s m args c K cX12_refusedAt RX12 1 := X
  show ix_G p l e (ix_rm 0 0 0 0) s m args below meth c (MQ below (ix_Post K (some (.int r)) (ix_w z d1)) args s 0 0 (ix_A K)) K 1 0 0 0 [(0, .ref (K.2.2.1 + a0))] [] (ix_w z d)
  unfold f_X12_refusedAt at h
  refine ix_aload_n (i := 0) (j := 0) X (ix_tb_at tb_X12_refusedAt 0 rfl) rfl rfl (pc1 := 1) rfl ?_
  obtain ⟨k_1, h⟩ := ix_ck_some h
  refine iz_getI X fl_RX12_231 k_1 (ix_tb_at tb_X12_refusedAt 1 rfl) (pc1 := 4) rfl ?_
  exact ix_iret X hr hlk (ix_r2 (f := fun r => some (.int r)) (g := ix_w z) h) (ix_tb_at tb_X12_refusedAt 2 rfl)
def tab_X12_counted : List (Nat × Instr × Nat) := [(0, .aload_n 0, 1), (1, .iload_n 1, 1), (2, .invokevirtual 433, 3), (5, .ifCond .ne 11, 3), (8, .aload_n 0, 1), (9, .sipush (-1001), 3), (12, .invokevirtual 242, 3), (15, .ireturn, 1), (16, .iload_n 2, 1), (17, .ifCond .eq 29, 3), (20, .aload_n 0, 1), (21, .getfield 13, 3), (24, .iload_n 1, 1), (25, .baload, 1), (26, .ifCond .ne 20, 3), (29, .aload_n 0, 1), (30, .getfield 630, 3), (33, .bipush 20, 2), (35, .if_icmp .ne 11, 3), (38, .aload_n 0, 1), (39, .sipush (-1003), 3), (42, .invokevirtual 242, 3), (45, .ireturn, 1), (46, .aload_n 0, 1), (47, .getfield 13, 3), (50, .iload_n 1, 1), (51, .baload, 1), (52, .ifCond .eq 7, 3), (55, .iconst 1, 1), (56, .goto 4, 3), (59, .iconst 0, 1), (60, .istore_n 3, 1), (61, .aload_n 0, 1), (62, .dup, 1), (63, .getfield 630, 3), (66, .iload_n 2, 1), (67, .ifCond .eq 7, 3), (70, .iconst 1, 1), (71, .goto 4, 3), (74, .iconst 0, 1), (75, .iload_n 3, 1), (76, .isub, 1), (77, .iadd, 1), (78, .putfield 630, 3), (81, .aload_n 0, 1), (82, .getfield 13, 3), (85, .iload_n 1, 1), (86, .iload_n 2, 1), (87, .bastore, 1), (88, .iload_n 3, 1), (89, .ireturn, 1)]
theorem tb_X12_counted : ix_tab cX12_counted tab_X12_counted := by
  unfold ix_tab
  decide +kernel
noncomputable def f_X12_counted_75 (n : Nat) (z : ix_Z)  (a0 : Nat) (x1 : Int32) (x2 : Int32) (x3 : Int32) (s0 : Int32) (s1 : Int32) (s2 : Nat) (d : ix_D2) : Option (Int32 × ix_D2) :=
  ix_ck (ix_ok z [11] s2) (ix_lt (ix_di d s2 4 (s1 + (s0 - x3))) (fun d_15 => ix_ck (ix_ok z [11] a0) (ix_bd1 (z.1 a0 3) (fun b_18 => ix_ck (ix_ix z 22 b_18 x1) (ix_lt (ix_di d_15 b_18 (ix_n x1) (vp_nar .boolean x2)) (fun d_21 => some (x3, d_21)))))))
noncomputable def f_X12_counted_60 (n : Nat) (z : ix_Z)  (a0 : Nat) (x1 : Int32) (x2 : Int32) (s0 : Int32) (d : ix_D2) : Option (Int32 × ix_D2) :=
  ix_ck (ix_ok z [11] a0) (ix_if (x2 = 0) (f_X12_counted_75 n z  a0 x1 x2 s0 0 (d.1 a0 4) a0 d) (f_X12_counted_75 n z  a0 x1 x2 s0 1 (d.1 a0 4) a0 d))
noncomputable def f_X12_counted_46 (n : Nat) (z : ix_Z)  (a0 : Nat) (x1 : Int32) (x2 : Int32) (d : ix_D2) : Option (Int32 × ix_D2) :=
  ix_ck (ix_ok z [11] a0) (ix_bd1 (z.1 a0 3) (fun b_8 => ix_ck (ix_ix z 22 b_8 x1) (ix_if (d.1 b_8 (ix_n x1) = 0) (f_X12_counted_60 n z  a0 x1 x2 0 d) (f_X12_counted_60 n z  a0 x1 x2 1 d))))
noncomputable def f_X12_counted (n : Nat) (z : ix_Z) (a0 : Nat) (x1 : Int32) (x2 : Int32) (d : ix_D2) : Option (Int32 × ix_D2) :=
  ix_ck (ix_ok z [11] a0) (ix_bd2 (f_X12_isName n z a0 x1 d) (fun r_4 d_1 => ix_if (r_4 = 0) (ix_bd2 (f_X12_fail n z a0 ((-1001)) d_1) (fun r_33 d_31 => some (r_33, d_31))) (ix_if (x2 = 0) (f_X12_counted_46 n z  a0 x1 x2 d_1) (ix_bd1 (z.1 a0 3) (fun b_23 => ix_ck (ix_ix z 22 b_23 x1) (ix_if (d_1.1 b_23 (ix_n x1) = 0) (ix_if (d_1.1 a0 4 = 20) (ix_bd2 (f_X12_fail n z a0 ((-1003)) d_1) (fun r_30 d_28 => some (r_30, d_28))) (f_X12_counted_46 n z  a0 x1 x2 d_1)) (f_X12_counted_46 n z  a0 x1 x2 d_1)))))))
set_option maxRecDepth 20000 in
theorem t_X12_counted_75 {l : Launch} {p : Program} {e : Env} {s : State} {m : MethodId} {args : Array Value} {below : List Frame} {meth : Method} {c : Code} {K : ix_Cx} (hKp : ix_Kp K) {n : Nat} {z : ix_Z} (X : ix_X p s m args c K cX12_counted RX12 4) (hr : meth.sig.returnType = (some .int)) (hlk : meth.locks = false)  {a0 : Nat} {x1 : Int32} {x2 : Int32} {x3 : Int32} {s0 : Int32} {s1 : Int32} {s2 : Nat} {r : Int32} {d1 : ix_D2}  {d : ix_D2} (h : f_X12_counted_75 n z  a0 x1 x2 x3 s0 s1 s2 d = some (r, d1)) : ix_G p l e (ix_rm 2 43 0 0) s m args below meth c (MQ below (ix_Post K (some (.int r)) (ix_w z d1)) args s 0 0 (ix_A K)) K 4 0 0 75 [(0, .ref (K.2.2.1 + a0)), (1, .int x1), (2, .int x2), (3, .int x3)] [.int s0, .int s1, .ref (K.2.2.1 + s2)] (ix_w z d) := by
  unfold f_X12_counted_75 at h
  refine ix_iload_n (i := 3) (j := 3) X (ix_tb_at tb_X12_counted 40 rfl) rfl rfl (pc1 := 76) rfl ?_
  refine ix_isub X (ix_tb_at tb_X12_counted 41 rfl) (pc1 := 77) rfl ?_
  refine ix_iadd X (ix_tb_at tb_X12_counted 42 rfl) (pc1 := 78) rfl ?_
  obtain ⟨k_14, h⟩ := ix_ck_some h
  obtain ⟨d_15, e_16, h⟩ := ix_lt_ex h
  refine iz_putI X fp_RX12_630 k_14 (ix_tb_at tb_X12_counted 43 rfl) e_16 (pc1 := 81) rfl ?_
  refine ix_aload_n (i := 0) (j := 0) X (ix_tb_at tb_X12_counted 44 rfl) rfl rfl (pc1 := 82) rfl ?_
  obtain ⟨k_17, h⟩ := ix_ck_some h
  obtain ⟨b_18, q_19, h⟩ := ix_bd1_ex h
  refine iz_getR X fl_RX12_13 k_17 q_19 (ix_tb_at tb_X12_counted 45 rfl) (pc1 := 85) rfl ?_
  refine ix_iload_n (i := 1) (j := 1) X (ix_tb_at tb_X12_counted 46 rfl) rfl rfl (pc1 := 86) rfl ?_
  refine ix_iload_n (i := 2) (j := 2) X (ix_tb_at tb_X12_counted 47 rfl) rfl rfl (pc1 := 87) rfl ?_
  obtain ⟨k_20, h⟩ := ix_ck_some h
  obtain ⟨d_21, e_22, h⟩ := ix_lt_ex h
  refine iz_zast X k_20 (ix_tb_at tb_X12_counted 48 rfl) e_22 (pc1 := 88) rfl ?_
  refine ix_iload_n (i := 3) (j := 3) X (ix_tb_at tb_X12_counted 49 rfl) rfl rfl (pc1 := 89) rfl ?_
  exact ix_iret X hr hlk (ix_r2 (f := fun r => some (.int r)) (g := ix_w z) h) (ix_tb_at tb_X12_counted 50 rfl)
set_option maxRecDepth 20000 in
theorem t_X12_counted_60 {l : Launch} {p : Program} {e : Env} {s : State} {m : MethodId} {args : Array Value} {below : List Frame} {meth : Method} {c : Code} {K : ix_Cx} (hKp : ix_Kp K) {n : Nat} {z : ix_Z} (X : ix_X p s m args c K cX12_counted RX12 4) (hr : meth.sig.returnType = (some .int)) (hlk : meth.locks = false)  {a0 : Nat} {x1 : Int32} {x2 : Int32} {s0 : Int32} {r : Int32} {d1 : ix_D2}  {d : ix_D2} (h : f_X12_counted_60 n z  a0 x1 x2 s0 d = some (r, d1)) : ix_G p l e (ix_rm 2 43 0 0) s m args below meth c (MQ below (ix_Post K (some (.int r)) (ix_w z d1)) args s 0 0 (ix_A K)) K 4 0 0 60 [(0, .ref (K.2.2.1 + a0)), (1, .int x1), (2, .int x2)] [.int s0] (ix_w z d) := by
  unfold f_X12_counted_60 at h
  refine ix_istore_n (i := 3) (L1 := [(3, .int s0), (0, .ref (K.2.2.1 + a0)), (1, .int x1), (2, .int x2)]) X (ix_tb_at tb_X12_counted 31 rfl) rfl (Nat.le_of_ble_eq_true rfl) rfl (pc1 := 61) rfl ?_
  refine ix_aload_n (i := 0) (j := 1) X (ix_tb_at tb_X12_counted 32 rfl) rfl rfl (pc1 := 62) rfl ?_
  refine ix_dup X (ix_tb_at tb_X12_counted 33 rfl) rfl (pc1 := 63) rfl ?_
  obtain ⟨k_12, h⟩ := ix_ck_some h
  refine iz_getI X fl_RX12_630 k_12 (ix_tb_at tb_X12_counted 34 rfl) (pc1 := 66) rfl ?_
  refine ix_iload_n (i := 2) (j := 3) X (ix_tb_at tb_X12_counted 35 rfl) rfl rfl (pc1 := 67) rfl ?_
  refine ix_if_eq (tgt := 74) X (ix_tb_at tb_X12_counted 36 rfl) (by decide) (pc1 := 70) rfl (fun q_13 => ?_) (fun q_13 => ?_)
  · have h := ix_ift q_13 h
    refine ix_iconst (v := 0) X (ix_tb_at tb_X12_counted 39 rfl) (by decide) (pc1 := 75) rfl ?_
    refine ix_sub (L1 := [(0, .ref (K.2.2.1 + a0)), (1, .int x1), (2, .int x2), (3, .int s0)]) [1, 2, 3, 0] rfl ?_
    exact t_X12_counted_75 hKp X hr hlk  h
  · have h := ix_iff q_13 h
    refine ix_iconst (v := 1) X (ix_tb_at tb_X12_counted 37 rfl) (by decide) (pc1 := 71) rfl ?_
    refine ix_goto (tgt := 75) X (ix_tb_at tb_X12_counted 38 rfl) (by decide) ?_
    refine ix_sub (L1 := [(0, .ref (K.2.2.1 + a0)), (1, .int x1), (2, .int x2), (3, .int s0)]) [1, 2, 3, 0] rfl ?_
    exact t_X12_counted_75 hKp X hr hlk  h
set_option maxRecDepth 20000 in
theorem t_X12_counted_46 {l : Launch} {p : Program} {e : Env} {s : State} {m : MethodId} {args : Array Value} {below : List Frame} {meth : Method} {c : Code} {K : ix_Cx} (hKp : ix_Kp K) {n : Nat} {z : ix_Z} (X : ix_X p s m args c K cX12_counted RX12 4) (hr : meth.sig.returnType = (some .int)) (hlk : meth.locks = false)  {a0 : Nat} {x1 : Int32} {x2 : Int32} {r : Int32} {d1 : ix_D2}  {d : ix_D2} (h : f_X12_counted_46 n z  a0 x1 x2 d = some (r, d1)) : ix_G p l e (ix_rm 2 43 0 0) s m args below meth c (MQ below (ix_Post K (some (.int r)) (ix_w z d1)) args s 0 0 (ix_A K)) K 4 0 0 46 [(0, .ref (K.2.2.1 + a0)), (1, .int x1), (2, .int x2)] [] (ix_w z d) := by
  unfold f_X12_counted_46 at h
  refine ix_aload_n (i := 0) (j := 0) X (ix_tb_at tb_X12_counted 23 rfl) rfl rfl (pc1 := 47) rfl ?_
  obtain ⟨k_7, h⟩ := ix_ck_some h
  obtain ⟨b_8, q_9, h⟩ := ix_bd1_ex h
  refine iz_getR X fl_RX12_13 k_7 q_9 (ix_tb_at tb_X12_counted 24 rfl) (pc1 := 50) rfl ?_
  refine ix_iload_n (i := 1) (j := 1) X (ix_tb_at tb_X12_counted 25 rfl) rfl rfl (pc1 := 51) rfl ?_
  obtain ⟨k_10, h⟩ := ix_ck_some h
  refine iz_zald X k_10 (ix_tb_at tb_X12_counted 26 rfl) (pc1 := 52) rfl ?_
  refine ix_if_eq (tgt := 59) X (ix_tb_at tb_X12_counted 27 rfl) (by decide) (pc1 := 55) rfl (fun q_11 => ?_) (fun q_11 => ?_)
  · have h := ix_ift q_11 h
    refine ix_iconst (v := 0) X (ix_tb_at tb_X12_counted 30 rfl) (by decide) (pc1 := 60) rfl ?_
    refine ix_sub (L1 := [(0, .ref (K.2.2.1 + a0)), (1, .int x1), (2, .int x2)]) [0, 1, 2] rfl ?_
    exact t_X12_counted_60 hKp X hr hlk  h
  · have h := ix_iff q_11 h
    refine ix_iconst (v := 1) X (ix_tb_at tb_X12_counted 28 rfl) (by decide) (pc1 := 56) rfl ?_
    refine ix_goto (tgt := 60) X (ix_tb_at tb_X12_counted 29 rfl) (by decide) ?_
    refine ix_sub (L1 := [(0, .ref (K.2.2.1 + a0)), (1, .int x1), (2, .int x2)]) [0, 1, 2] rfl ?_
    exact t_X12_counted_60 hKp X hr hlk  h
set_option maxRecDepth 20000 in
theorem c_X12_counted {l : Launch} {K : ix_Cx} (hKp : ix_Kp K) {n : Nat} {z : ix_Z} {a0 : Nat} {x1 : Int32} {x2 : Int32} {d : ix_D2} {r : Int32} {d1 : ix_D2} (h : f_X12_counted n z a0 x1 x2 d = some (r, d1)) : ix_M l K yX12_counted cX12_counted 4 (some .int) 2 43 0 0 [.ref (K.2.2.1 + a0), .int x1, .int x2] (ix_w z d) (some (.int r)) (ix_w z d1) := by
  refine ix_met mf_X12_counted hKp (Nat.le_of_ble_eq_true rfl) ?_
  intro p e s m args below meth c hr hlk hnm X
  have X : ix_X p s m args c K cX12_counted RX12 4 := X
  show ix_G p l e (ix_rm 2 43 0 0) s m args below meth c (MQ below (ix_Post K (some (.int r)) (ix_w z d1)) args s 0 0 (ix_A K)) K 4 0 0 0 [(0, .ref (K.2.2.1 + a0)), (1, .int x1), (2, .int x2)] [] (ix_w z d)
  unfold f_X12_counted at h
  refine ix_aload_n (i := 0) (j := 0) X (ix_tb_at tb_X12_counted 0 rfl) rfl rfl (pc1 := 1) rfl ?_
  refine ix_iload_n (i := 1) (j := 1) X (ix_tb_at tb_X12_counted 1 rfl) rfl rfl (pc1 := 2) rfl ?_
  obtain ⟨k_3, h⟩ := ix_ck_some h
  obtain ⟨r_4, d_1, h_2, h⟩ := ix_bd2_ex h
  refine ix_callV (As := [.int x1]) (rest := []) (ci := 11) (T := TX12) (nf := 116) X mf_X12_isName mi_X12_isName ms_X12_isName rfl (Nat.le_of_ble_eq_true rfl) ml_RX12_433 ⟨Nat.le_of_ble_eq_true rfl, Nat.le_of_ble_eq_true rfl⟩ ⟨Nat.le_of_ble_eq_true rfl, Nat.le_of_ble_eq_true rfl⟩ rfl (Nat.le_of_ble_eq_true rfl) (ix_tb_at tb_X12_counted 2 rfl) ⟨k_3.1, List.mem_singleton.mp k_3.2⟩ (c_X12_isName hKp h_2) rfl (pc1 := 5) rfl ?_
  refine ix_if_ne (tgt := 16) X (ix_tb_at tb_X12_counted 3 rfl) (by decide) (pc1 := 8) rfl (fun q_5 => ?_) (fun q_5 => ?_)
  · have h := ix_iff q_5 h
    refine ix_iload_n (i := 2) (j := 2) X (ix_tb_at tb_X12_counted 8 rfl) rfl rfl (pc1 := 17) rfl ?_
    refine ix_if_eq (tgt := 46) X (ix_tb_at tb_X12_counted 9 rfl) (by decide) (pc1 := 20) rfl (fun q_6 => ?_) (fun q_6 => ?_)
    · have h := ix_ift q_6 h
      refine ix_sub (L1 := [(0, .ref (K.2.2.1 + a0)), (1, .int x1), (2, .int x2)]) [0, 1, 2] rfl ?_
      exact t_X12_counted_46 hKp X hr hlk  h
    · have h := ix_iff q_6 h
      refine ix_aload_n (i := 0) (j := 0) X (ix_tb_at tb_X12_counted 10 rfl) rfl rfl (pc1 := 21) rfl ?_
      obtain ⟨b_23, q_24, h⟩ := ix_bd1_ex h
      refine iz_getR X fl_RX12_13 k_3 q_24 (ix_tb_at tb_X12_counted 11 rfl) (pc1 := 24) rfl ?_
      refine ix_iload_n (i := 1) (j := 1) X (ix_tb_at tb_X12_counted 12 rfl) rfl rfl (pc1 := 25) rfl ?_
      obtain ⟨k_25, h⟩ := ix_ck_some h
      refine iz_zald X k_25 (ix_tb_at tb_X12_counted 13 rfl) (pc1 := 26) rfl ?_
      refine ix_if_ne (tgt := 46) X (ix_tb_at tb_X12_counted 14 rfl) (by decide) (pc1 := 29) rfl (fun q_26 => ?_) (fun q_26 => ?_)
      · have h := ix_iff q_26 h
        refine ix_sub (L1 := [(0, .ref (K.2.2.1 + a0)), (1, .int x1), (2, .int x2)]) [0, 1, 2] rfl ?_
        exact t_X12_counted_46 hKp X hr hlk  h
      · have h := ix_ift q_26 h
        refine ix_aload_n (i := 0) (j := 0) X (ix_tb_at tb_X12_counted 15 rfl) rfl rfl (pc1 := 30) rfl ?_
        refine iz_getI X fl_RX12_630 k_3 (ix_tb_at tb_X12_counted 16 rfl) (pc1 := 33) rfl ?_
        refine ix_bipush (v := 20) X (ix_tb_at tb_X12_counted 17 rfl) (by decide) (pc1 := 35) rfl ?_
        refine ix_icmp_ne (tgt := 46) X (ix_tb_at tb_X12_counted 18 rfl) (by decide) (pc1 := 38) rfl (fun q_27 => ?_) (fun q_27 => ?_)
        · have h := ix_iff q_27 h
          refine ix_sub (L1 := [(0, .ref (K.2.2.1 + a0)), (1, .int x1), (2, .int x2)]) [0, 1, 2] rfl ?_
          exact t_X12_counted_46 hKp X hr hlk  h
        · have h := ix_ift q_27 h
          refine ix_aload_n (i := 0) (j := 0) X (ix_tb_at tb_X12_counted 19 rfl) rfl rfl (pc1 := 39) rfl ?_
          refine ix_sipush (v := (-1003)) X (ix_tb_at tb_X12_counted 20 rfl) (by decide) (pc1 := 42) rfl ?_
          obtain ⟨r_30, d_28, h_29, h⟩ := ix_bd2_ex h
          refine ix_callV (As := [.int ((-1003))]) (rest := []) (ci := 11) (T := TX12) (nf := 116) X mf_X12_fail mi_X12_fail ms_X12_fail rfl (Nat.le_of_ble_eq_true rfl) ml_RX12_242 ⟨Nat.le_of_ble_eq_true rfl, Nat.le_of_ble_eq_true rfl⟩ ⟨Nat.le_of_ble_eq_true rfl, Nat.le_of_ble_eq_true rfl⟩ rfl (Nat.le_of_ble_eq_true rfl) (ix_tb_at tb_X12_counted 21 rfl) ⟨k_3.1, List.mem_singleton.mp k_3.2⟩ (c_X12_fail hKp h_29) rfl (pc1 := 45) rfl ?_
          exact ix_iret X hr hlk (ix_r2 (f := fun r => some (.int r)) (g := ix_w z) h) (ix_tb_at tb_X12_counted 22 rfl)
  · have h := ix_ift q_5 h
    refine ix_aload_n (i := 0) (j := 0) X (ix_tb_at tb_X12_counted 4 rfl) rfl rfl (pc1 := 9) rfl ?_
    refine ix_sipush (v := (-1001)) X (ix_tb_at tb_X12_counted 5 rfl) (by decide) (pc1 := 12) rfl ?_
    obtain ⟨r_33, d_31, h_32, h⟩ := ix_bd2_ex h
    refine ix_callV (As := [.int ((-1001))]) (rest := []) (ci := 11) (T := TX12) (nf := 116) X mf_X12_fail mi_X12_fail ms_X12_fail rfl (Nat.le_of_ble_eq_true rfl) ml_RX12_242 ⟨Nat.le_of_ble_eq_true rfl, Nat.le_of_ble_eq_true rfl⟩ ⟨Nat.le_of_ble_eq_true rfl, Nat.le_of_ble_eq_true rfl⟩ rfl (Nat.le_of_ble_eq_true rfl) (ix_tb_at tb_X12_counted 6 rfl) ⟨k_3.1, List.mem_singleton.mp k_3.2⟩ (c_X12_fail hKp h_32) rfl (pc1 := 15) rfl ?_
    exact ix_iret X hr hlk (ix_r2 (f := fun r => some (.int r)) (g := ix_w z) h) (ix_tb_at tb_X12_counted 7 rfl)
def tab_X12_bar : List (Nat × Instr × Nat) := [(0, .iconst 0, 1), (1, .istore_n 3, 1), (2, .iconst 1, 1), (3, .istore 4, 2), (5, .iload 4, 2), (7, .aload_n 0, 1), (8, .getfield 246, 3), (11, .if_icmp .gt 58, 3), (14, .aload_n 0, 1), (15, .getfield 13, 3), (18, .iload 4, 2), (20, .baload, 1), (21, .ifCond .eq 42, 3), (24, .aload_n 0, 1), (25, .getfield 77, 3), (28, .bipush 20, 2), (30, .iload_n 2, 1), (31, .imul, 1), (32, .iload_n 3, 1), (33, .iadd, 1), (34, .aload_n 0, 1), (35, .getfield 134, 3), (38, .sipush 301, 3), (41, .iload_n 1, 1), (42, .imul, 1), (43, .iload 4, 2), (45, .iadd, 1), (46, .iaload, 1), (47, .iconst 1, 1), (48, .if_icmp .ne 9, 3), (51, .iload 4, 2), (53, .ineg, 1), (54, .goto 5, 3), (57, .iload 4, 2), (59, .iastore, 1), (60, .iinc 3 1, 3), (63, .iinc 4 1, 3), (66, .goto (-61), 3), (69, .aload_n 0, 1), (70, .getfield 74, 3), (73, .iload_n 2, 1), (74, .iload_n 3, 1), (75, .iastore, 1), (76, .return_, 1)]
theorem tb_X12_bar : ix_tab cX12_bar tab_X12_bar := by
  unfold ix_tab
  decide +kernel
noncomputable def f_X12_bar_63 (n : Nat) (z : ix_Z) (rec5 : Int32 → Int32 → ix_D2 → Option (ix_D2)) (a0 : Nat) (x1 : Int32) (x2 : Int32) (x3 : Int32) (x4 : Int32) (d : ix_D2) : Option (ix_D2) :=
  ix_lt (x4 + 1) (fun x4_12 => rec5 x3 x4_12 d)
noncomputable def f_X12_bar_59 (n : Nat) (z : ix_Z) (rec5 : Int32 → Int32 → ix_D2 → Option (ix_D2)) (a0 : Nat) (x1 : Int32) (x2 : Int32) (x3 : Int32) (x4 : Int32) (s0 : Int32) (s1 : Int32) (s2 : Nat) (d : ix_D2) : Option (ix_D2) :=
  ix_ck (ix_ix z 20 s2 s1) (ix_lt (ix_di d s2 (ix_n s1) s0) (fun d_21 => ix_lt (x3 + 1) (fun x3_23 => f_X12_bar_63 n z rec5 a0 x1 x2 x3_23 x4 d_21)))
noncomputable def b_X12_bar_5 (n : Nat) (z : ix_Z)  (a0 : Nat) (x1 : Int32) (x2 : Int32) (rec5 : Int32 → Int32 → ix_D2 → Option (ix_D2)) (x3 : Int32) (x4 : Int32) (d : ix_D2) : Option (ix_D2) :=
  ix_ck (ix_ok z [11] a0) (ix_if (d.1 a0 1 < x4) (ix_bd1 (z.1 a0 33) (fun b_3 => ix_ck (ix_ix z 20 b_3 x2) (ix_lt (ix_di d b_3 (ix_n x2) x3) (fun d_6 => some d_6)))) (ix_bd1 (z.1 a0 3) (fun b_8 => ix_ck (ix_ix z 22 b_8 x4) (ix_if (d.1 b_8 (ix_n x4) = 0) (f_X12_bar_63 n z rec5 a0 x1 x2 x3 x4 d) (ix_bd1 (z.1 a0 34) (fun b_14 => ix_bd1 (z.1 a0 69) (fun b_16 => ix_ck (ix_ix z 20 b_16 ((301 * x1) + x4)) (ix_if (d.1 b_16 (ix_n ((301 * x1) + x4)) = 1) (f_X12_bar_59 n z rec5 a0 x1 x2 x3 x4 (-x4) ((20 * x2) + x3) b_14 d) (f_X12_bar_59 n z rec5 a0 x1 x2 x3 x4 x4 ((20 * x2) + x3) b_14 d)))))))))
noncomputable def f_X12_bar_5 (n : Nat) (z : ix_Z)  (a0 : Nat) (x1 : Int32) (x2 : Int32) (x3 : Int32) (x4 : Int32) (d : ix_D2) : Option (ix_D2) := ix_fix (b_X12_bar_5 n z  a0 x1 x2) (fun _ _ _ => none) n x3 x4 d
noncomputable def f_X12_bar (n : Nat) (z : ix_Z) (a0 : Nat) (x1 : Int32) (x2 : Int32) (d : ix_D2) : Option (ix_D2) :=
  f_X12_bar_5 n z  a0 x1 x2 0 1 d
set_option maxRecDepth 20000 in
theorem t_X12_bar_63 {l : Launch} {p : Program} {e : Env} {s : State} {m : MethodId} {args : Array Value} {below : List Frame} {meth : Method} {c : Code} {K : ix_Cx} (hKp : ix_Kp K) {n : Nat} {z : ix_Z} (X : ix_X p s m args c K cX12_bar RX12 5) (hr : meth.sig.returnType = (none : Option Jvm.ClassFile.FieldType)) (hlk : meth.locks = false) {rec5 : Int32 → Int32 → ix_D2 → Option (ix_D2)} {a0 : Nat} {x1 : Int32} {x2 : Int32} {x3 : Int32} {x4 : Int32} {d1 : ix_D2} (hrec5 : ∀ (x3 : Int32) (x4 : Int32) (d : ix_D2), rec5 x3 x4 d = some d1 → ix_G p l e (ix_rm 0 0 0 0) s m args below meth c (MQ below (ix_Post K none (ix_w z d1)) args s 0 0 (ix_A K)) K 5 0 0 5 [(0, .ref (K.2.2.1 + a0)), (1, .int x1), (2, .int x2), (3, .int x3), (4, .int x4)] [] (ix_w z d)) {d : ix_D2} (h : f_X12_bar_63 n z rec5 a0 x1 x2 x3 x4 d = some d1) : ix_G p l e (ix_rm 0 0 0 0) s m args below meth c (MQ below (ix_Post K none (ix_w z d1)) args s 0 0 (ix_A K)) K 5 0 0 63 [(0, .ref (K.2.2.1 + a0)), (1, .int x1), (2, .int x2), (3, .int x3), (4, .int x4)] [] (ix_w z d) := by
  unfold f_X12_bar_63 at h
  obtain ⟨x4_12, e_13, h⟩ := ix_lt_ex h
  refine ix_iinc (i := 4) (j := 4) (v := x4_12) (L1 := [(4, .int x4_12), (0, .ref (K.2.2.1 + a0)), (1, .int x1), (2, .int x2), (3, .int x3)]) X (ix_tb_at tb_X12_bar 36 rfl) rfl (by rw [oi_1]; exact e_13.symm) (Nat.le_of_ble_eq_true rfl) rfl (pc1 := 66) rfl ?_
  refine ix_goto (tgt := 5) X (ix_tb_at tb_X12_bar 37 rfl) (by decide) ?_
  refine ix_sub (L1 := [(0, .ref (K.2.2.1 + a0)), (1, .int x1), (2, .int x2), (3, .int x3), (4, .int x4_12)]) [1, 2, 3, 4, 0] rfl ?_
  exact hrec5 x3 x4_12 d h
set_option maxRecDepth 20000 in
theorem t_X12_bar_59 {l : Launch} {p : Program} {e : Env} {s : State} {m : MethodId} {args : Array Value} {below : List Frame} {meth : Method} {c : Code} {K : ix_Cx} (hKp : ix_Kp K) {n : Nat} {z : ix_Z} (X : ix_X p s m args c K cX12_bar RX12 5) (hr : meth.sig.returnType = (none : Option Jvm.ClassFile.FieldType)) (hlk : meth.locks = false) {rec5 : Int32 → Int32 → ix_D2 → Option (ix_D2)} {a0 : Nat} {x1 : Int32} {x2 : Int32} {x3 : Int32} {x4 : Int32} {s0 : Int32} {s1 : Int32} {s2 : Nat} {d1 : ix_D2} (hrec5 : ∀ (x3 : Int32) (x4 : Int32) (d : ix_D2), rec5 x3 x4 d = some d1 → ix_G p l e (ix_rm 0 0 0 0) s m args below meth c (MQ below (ix_Post K none (ix_w z d1)) args s 0 0 (ix_A K)) K 5 0 0 5 [(0, .ref (K.2.2.1 + a0)), (1, .int x1), (2, .int x2), (3, .int x3), (4, .int x4)] [] (ix_w z d)) {d : ix_D2} (h : f_X12_bar_59 n z rec5 a0 x1 x2 x3 x4 s0 s1 s2 d = some d1) : ix_G p l e (ix_rm 0 0 0 0) s m args below meth c (MQ below (ix_Post K none (ix_w z d1)) args s 0 0 (ix_A K)) K 5 0 0 59 [(0, .ref (K.2.2.1 + a0)), (1, .int x1), (2, .int x2), (3, .int x3), (4, .int x4)] [.int s0, .int s1, .ref (K.2.2.1 + s2)] (ix_w z d) := by
  unfold f_X12_bar_59 at h
  obtain ⟨k_20, h⟩ := ix_ck_some h
  obtain ⟨d_21, e_22, h⟩ := ix_lt_ex h
  refine iz_iast X k_20 (ix_tb_at tb_X12_bar 34 rfl) e_22 (pc1 := 60) rfl ?_
  obtain ⟨x3_23, e_24, h⟩ := ix_lt_ex h
  refine ix_iinc (i := 3) (j := 3) (v := x3_23) (L1 := [(3, .int x3_23), (0, .ref (K.2.2.1 + a0)), (1, .int x1), (2, .int x2), (4, .int x4)]) X (ix_tb_at tb_X12_bar 35 rfl) rfl (by rw [oi_1]; exact e_24.symm) (Nat.le_of_ble_eq_true rfl) rfl (pc1 := 63) rfl ?_
  refine ix_sub (L1 := [(0, .ref (K.2.2.1 + a0)), (1, .int x1), (2, .int x2), (3, .int x3_23), (4, .int x4)]) [1, 2, 3, 0, 4] rfl ?_
  exact t_X12_bar_63 hKp X hr hlk hrec5 h
set_option maxRecDepth 20000 in
theorem tb_X12_bar_5 {l : Launch} {p : Program} {e : Env} {s : State} {m : MethodId} {args : Array Value} {below : List Frame} {meth : Method} {c : Code} {K : ix_Cx} (hKp : ix_Kp K) {n : Nat} {z : ix_Z} (X : ix_X p s m args c K cX12_bar RX12 5) (hr : meth.sig.returnType = (none : Option Jvm.ClassFile.FieldType)) (hlk : meth.locks = false)  {a0 : Nat} {x1 : Int32} {x2 : Int32} {rec5 : Int32 → Int32 → ix_D2 → Option (ix_D2)} {d1 : ix_D2} (hrec5 : ∀ (x3 : Int32) (x4 : Int32) (d : ix_D2), rec5 x3 x4 d = some d1 → ix_G p l e (ix_rm 0 0 0 0) s m args below meth c (MQ below (ix_Post K none (ix_w z d1)) args s 0 0 (ix_A K)) K 5 0 0 5 [(0, .ref (K.2.2.1 + a0)), (1, .int x1), (2, .int x2), (3, .int x3), (4, .int x4)] [] (ix_w z d)) {x3 : Int32} {x4 : Int32} {d : ix_D2} (h : b_X12_bar_5 n z  a0 x1 x2 rec5 x3 x4 d = some d1) : ix_G p l e (ix_rm 0 0 0 0) s m args below meth c (MQ below (ix_Post K none (ix_w z d1)) args s 0 0 (ix_A K)) K 5 0 0 5 [(0, .ref (K.2.2.1 + a0)), (1, .int x1), (2, .int x2), (3, .int x3), (4, .int x4)] [] (ix_w z d) := by
  unfold b_X12_bar_5 at h
  refine ix_iload (i := 4) (j := 4) X (ix_tb_at tb_X12_bar 4 rfl) rfl (pc1 := 7) rfl ?_
  refine ix_aload_n (i := 0) (j := 0) X (ix_tb_at tb_X12_bar 5 rfl) rfl rfl (pc1 := 8) rfl ?_
  obtain ⟨k_1, h⟩ := ix_ck_some h
  refine iz_getI X fl_RX12_246 k_1 (ix_tb_at tb_X12_bar 6 rfl) (pc1 := 11) rfl ?_
  refine ix_icmp_gt (tgt := 69) X (ix_tb_at tb_X12_bar 7 rfl) (by decide) (pc1 := 14) rfl (fun q_2 => ?_) (fun q_2 => ?_)
  · have h := ix_ift q_2 h
    refine ix_aload_n (i := 0) (j := 0) X (ix_tb_at tb_X12_bar 38 rfl) rfl rfl (pc1 := 70) rfl ?_
    obtain ⟨b_3, q_4, h⟩ := ix_bd1_ex h
    refine iz_getR X fl_RX12_74 k_1 q_4 (ix_tb_at tb_X12_bar 39 rfl) (pc1 := 73) rfl ?_
    refine ix_iload_n (i := 2) (j := 2) X (ix_tb_at tb_X12_bar 40 rfl) rfl rfl (pc1 := 74) rfl ?_
    refine ix_iload_n (i := 3) (j := 3) X (ix_tb_at tb_X12_bar 41 rfl) rfl rfl (pc1 := 75) rfl ?_
    obtain ⟨k_5, h⟩ := ix_ck_some h
    obtain ⟨d_6, e_7, h⟩ := ix_lt_ex h
    refine iz_iast X k_5 (ix_tb_at tb_X12_bar 42 rfl) e_7 (pc1 := 76) rfl ?_
    exact ix_vret X hr hlk (ix_r1 (g := ix_w z) h) (ix_tb_at tb_X12_bar 43 rfl)
  · have h := ix_iff q_2 h
    refine ix_aload_n (i := 0) (j := 0) X (ix_tb_at tb_X12_bar 8 rfl) rfl rfl (pc1 := 15) rfl ?_
    obtain ⟨b_8, q_9, h⟩ := ix_bd1_ex h
    refine iz_getR X fl_RX12_13 k_1 q_9 (ix_tb_at tb_X12_bar 9 rfl) (pc1 := 18) rfl ?_
    refine ix_iload (i := 4) (j := 4) X (ix_tb_at tb_X12_bar 10 rfl) rfl (pc1 := 20) rfl ?_
    obtain ⟨k_10, h⟩ := ix_ck_some h
    refine iz_zald X k_10 (ix_tb_at tb_X12_bar 11 rfl) (pc1 := 21) rfl ?_
    refine ix_if_eq (tgt := 63) X (ix_tb_at tb_X12_bar 12 rfl) (by decide) (pc1 := 24) rfl (fun q_11 => ?_) (fun q_11 => ?_)
    · have h := ix_ift q_11 h
      refine ix_sub (L1 := [(0, .ref (K.2.2.1 + a0)), (1, .int x1), (2, .int x2), (3, .int x3), (4, .int x4)]) [0, 1, 2, 3, 4] rfl ?_
      exact t_X12_bar_63 hKp X hr hlk hrec5 h
    · have h := ix_iff q_11 h
      refine ix_aload_n (i := 0) (j := 0) X (ix_tb_at tb_X12_bar 13 rfl) rfl rfl (pc1 := 25) rfl ?_
      obtain ⟨b_14, q_15, h⟩ := ix_bd1_ex h
      refine iz_getR X fl_RX12_77 k_1 q_15 (ix_tb_at tb_X12_bar 14 rfl) (pc1 := 28) rfl ?_
      refine ix_bipush (v := 20) X (ix_tb_at tb_X12_bar 15 rfl) (by decide) (pc1 := 30) rfl ?_
      refine ix_iload_n (i := 2) (j := 2) X (ix_tb_at tb_X12_bar 16 rfl) rfl rfl (pc1 := 31) rfl ?_
      refine ix_imul X (ix_tb_at tb_X12_bar 17 rfl) (pc1 := 32) rfl ?_
      refine ix_iload_n (i := 3) (j := 3) X (ix_tb_at tb_X12_bar 18 rfl) rfl rfl (pc1 := 33) rfl ?_
      refine ix_iadd X (ix_tb_at tb_X12_bar 19 rfl) (pc1 := 34) rfl ?_
      refine ix_aload_n (i := 0) (j := 0) X (ix_tb_at tb_X12_bar 20 rfl) rfl rfl (pc1 := 35) rfl ?_
      obtain ⟨b_16, q_17, h⟩ := ix_bd1_ex h
      refine iz_getR X fl_RX12_134 k_1 q_17 (ix_tb_at tb_X12_bar 21 rfl) (pc1 := 38) rfl ?_
      refine ix_sipush (v := 301) X (ix_tb_at tb_X12_bar 22 rfl) (by decide) (pc1 := 41) rfl ?_
      refine ix_iload_n (i := 1) (j := 1) X (ix_tb_at tb_X12_bar 23 rfl) rfl rfl (pc1 := 42) rfl ?_
      refine ix_imul X (ix_tb_at tb_X12_bar 24 rfl) (pc1 := 43) rfl ?_
      refine ix_iload (i := 4) (j := 4) X (ix_tb_at tb_X12_bar 25 rfl) rfl (pc1 := 45) rfl ?_
      refine ix_iadd X (ix_tb_at tb_X12_bar 26 rfl) (pc1 := 46) rfl ?_
      obtain ⟨k_18, h⟩ := ix_ck_some h
      refine iz_iald X k_18 (ix_tb_at tb_X12_bar 27 rfl) (pc1 := 47) rfl ?_
      refine ix_iconst (v := 1) X (ix_tb_at tb_X12_bar 28 rfl) (by decide) (pc1 := 48) rfl ?_
      refine ix_icmp_ne (tgt := 57) X (ix_tb_at tb_X12_bar 29 rfl) (by decide) (pc1 := 51) rfl (fun q_19 => ?_) (fun q_19 => ?_)
      · have h := ix_iff q_19 h
        refine ix_iload (i := 4) (j := 4) X (ix_tb_at tb_X12_bar 33 rfl) rfl (pc1 := 59) rfl ?_
        refine ix_sub (L1 := [(0, .ref (K.2.2.1 + a0)), (1, .int x1), (2, .int x2), (3, .int x3), (4, .int x4)]) [0, 1, 2, 3, 4] rfl ?_
        exact t_X12_bar_59 hKp X hr hlk hrec5 h
      · have h := ix_ift q_19 h
        refine ix_iload (i := 4) (j := 4) X (ix_tb_at tb_X12_bar 30 rfl) rfl (pc1 := 53) rfl ?_
        refine ix_ineg X (ix_tb_at tb_X12_bar 31 rfl) (pc1 := 54) rfl ?_
        refine ix_goto (tgt := 59) X (ix_tb_at tb_X12_bar 32 rfl) (by decide) ?_
        refine ix_sub (L1 := [(0, .ref (K.2.2.1 + a0)), (1, .int x1), (2, .int x2), (3, .int x3), (4, .int x4)]) [0, 1, 2, 3, 4] rfl ?_
        exact t_X12_bar_59 hKp X hr hlk hrec5 h
theorem t_X12_bar_5 {l : Launch} {p : Program} {e : Env} {s : State} {m : MethodId} {args : Array Value} {below : List Frame} {meth : Method} {c : Code} {K : ix_Cx} (hKp : ix_Kp K) {n : Nat} {z : ix_Z} (X : ix_X p s m args c K cX12_bar RX12 5) (hr : meth.sig.returnType = (none : Option Jvm.ClassFile.FieldType)) (hlk : meth.locks = false)  {a0 : Nat} {x1 : Int32} {x2 : Int32} {d1 : ix_D2}  {x3 : Int32} {x4 : Int32} {d : ix_D2} (h : f_X12_bar_5 n z  a0 x1 x2 x3 x4 d = some d1) : ix_G p l e (ix_rm 0 0 0 0) s m args below meth c (MQ below (ix_Post K none (ix_w z d1)) args s 0 0 (ix_A K)) K 5 0 0 5 [(0, .ref (K.2.2.1 + a0)), (1, .int x1), (2, .int x2), (3, .int x3), (4, .int x4)] [] (ix_w z d) := by
  have key : ∀ (f : Nat) (x3 : Int32) (x4 : Int32) (d : ix_D2), ix_fix (b_X12_bar_5 n z  a0 x1 x2) (fun _ _ _ => none) f x3 x4 d = some d1 → ix_G p l e (ix_rm 0 0 0 0) s m args below meth c (MQ below (ix_Post K none (ix_w z d1)) args s 0 0 (ix_A K)) K 5 0 0 5 [(0, .ref (K.2.2.1 + a0)), (1, .int x1), (2, .int x2), (3, .int x3), (4, .int x4)] [] (ix_w z d) := by
    intro f
    induction f with
    | zero =>
      intro x3 x4 d h
      have h : (none : Option (ix_D2)) = some d1 := h
      cases h
    | succ f ih =>
      intro x3 x4 d h
      exact tb_X12_bar_5 hKp X hr hlk (rec5 := ix_fix (b_X12_bar_5 n z  a0 x1 x2) (fun _ _ _ => none) f)  ih h
  exact key n x3 x4 d h
set_option maxRecDepth 20000 in
theorem c_X12_bar {l : Launch} {K : ix_Cx} (hKp : ix_Kp K) {n : Nat} {z : ix_Z} {a0 : Nat} {x1 : Int32} {x2 : Int32} {d : ix_D2} {d1 : ix_D2} (h : f_X12_bar n z a0 x1 x2 d = some d1) : ix_M l K yX12_bar cX12_bar 5 (none : Option Jvm.ClassFile.FieldType) 0 0 0 0 [.ref (K.2.2.1 + a0), .int x1, .int x2] (ix_w z d) none (ix_w z d1) := by
  refine ix_met mf_X12_bar hKp (Nat.le_of_ble_eq_true rfl) ?_
  intro p e s m args below meth c hr hlk hnm X
  have X : ix_X p s m args c K cX12_bar RX12 5 := X
  show ix_G p l e (ix_rm 0 0 0 0) s m args below meth c (MQ below (ix_Post K none (ix_w z d1)) args s 0 0 (ix_A K)) K 5 0 0 0 [(0, .ref (K.2.2.1 + a0)), (1, .int x1), (2, .int x2)] [] (ix_w z d)
  unfold f_X12_bar at h
  refine ix_iconst (v := 0) X (ix_tb_at tb_X12_bar 0 rfl) (by decide) (pc1 := 1) rfl ?_
  refine ix_istore_n (i := 3) (L1 := [(3, .int 0), (0, .ref (K.2.2.1 + a0)), (1, .int x1), (2, .int x2)]) X (ix_tb_at tb_X12_bar 1 rfl) rfl (Nat.le_of_ble_eq_true rfl) rfl (pc1 := 2) rfl ?_
  refine ix_iconst (v := 1) X (ix_tb_at tb_X12_bar 2 rfl) (by decide) (pc1 := 3) rfl ?_
  refine ix_istore (i := 4) (L1 := [(4, .int 1), (3, .int 0), (0, .ref (K.2.2.1 + a0)), (1, .int x1), (2, .int x2)]) X (ix_tb_at tb_X12_bar 3 rfl) (Nat.le_of_ble_eq_true rfl) rfl (pc1 := 5) rfl ?_
  refine ix_sub (L1 := [(0, .ref (K.2.2.1 + a0)), (1, .int x1), (2, .int x2), (3, .int 0), (4, .int 1)]) [2, 3, 4, 1, 0] rfl ?_
  exact t_X12_bar_5 hKp X hr hlk  h
def tab_X12_next : List (Nat × Instr × Nat) := [(0, .iload_n 1, 1), (1, .invokestatic 578, 3), (4, .ifCond .ne 11, 3), (7, .aload_n 0, 1), (8, .sipush (-1001), 3), (11, .invokevirtual 242, 3), (14, .ireturn, 1), (15, .aload_n 0, 1), (16, .getfield 374, 3), (19, .bipush 64, 2), (21, .if_icmp .ne 11, 3), (24, .aload_n 0, 1), (25, .sipush (-1003), 3), (28, .invokevirtual 242, 3), (31, .ireturn, 1), (32, .aload_n 0, 1), (33, .iconst 0, 1), (34, .invokevirtual 581, 3), (37, .aload_n 0, 1), (38, .iconst 0, 1), (39, .putfield 442, 3), (42, .aload_n 0, 1), (43, .aload_n 0, 1), (44, .getfield 374, 3), (47, .putfield 467, 3), (50, .aload_n 0, 1), (51, .aload_n 0, 1), (52, .getfield 264, 3), (55, .putfield 400, 3), (58, .aload_n 0, 1), (59, .iconst 0, 1), (60, .putfield 533, 3), (63, .aload_n 0, 1), (64, .iconst 1, 1), (65, .putfield 470, 3), (68, .aload_n 0, 1), (69, .iload_n 1, 1), (70, .putfield 490, 3), (73, .aload_n 0, 1), (74, .aload_n 0, 1), (75, .iconst 0, 1), (76, .invokevirtual 587, 3), (79, .invokevirtual 590, 3), (82, .istore_n 2, 1), (83, .aload_n 0, 1), (84, .iconst 0, 1), (85, .putfield 249, 3), (88, .iload_n 2, 1), (89, .iconst 1, 1), (90, .if_icmp .ne 22, 3), (93, .aload_n 0, 1), (94, .iconst 0, 1), (95, .aload_n 0, 1), (96, .getfield 374, 3), (99, .invokevirtual 633, 3), (102, .aload_n 0, 1), (103, .dup, 1), (104, .getfield 374, 3), (107, .iconst 1, 1), (108, .iadd, 1), (109, .putfield 374, 3), (112, .iload_n 2, 1), (113, .ireturn, 1)]
theorem tb_X12_next : ix_tab cX12_next tab_X12_next := by
  unfold ix_tab
  decide +kernel
noncomputable def f_X12_next (n : Nat) (z : ix_Z) (a0 : Nat) (x1 : Int32) (d : ix_D2) : Option (Int32 × ix_D2) :=
  ix_bd2 (f_X12_areSteps n z x1 d) (fun r_3 d_1 => ix_if (r_3 = 0) (ix_ck (ix_ok z [11] a0) (ix_bd2 (f_X12_fail n z a0 ((-1001)) d_1) (fun r_40 d_37 => some (r_40, d_37)))) (ix_ck (ix_ok z [11] a0) (ix_if (d_1.1 a0 32 = 64) (ix_bd2 (f_X12_fail n z a0 ((-1003)) d_1) (fun r_36 d_34 => some (r_36, d_34))) (ix_bd1 (f_X12_prepare n z a0 0 d_1) (fun d_7 => ix_lt (ix_di d_7 a0 66 0) (fun d_9 => ix_lt (ix_di d_9 a0 67 (d_9.1 a0 32)) (fun d_11 => ix_lt (ix_di d_11 a0 59 (d_11.1 a0 11)) (fun d_13 => ix_lt (ix_di d_13 a0 91 0) (fun d_15 => ix_lt (ix_di d_15 a0 58 1) (fun d_17 => ix_lt (ix_di d_17 a0 89 x1) (fun d_19 => ix_bd2 (f_X12_solving n z a0 0 d_19) (fun r_23 d_21 => ix_bd2 (f_X12_ended n z a0 r_23 d_21) (fun r_26 d_24 => ix_lt (ix_di d_24 a0 57 0) (fun d_27 => ix_if (r_26 = 1) (ix_bd1 (f_X12_bar n z a0 0 (d_27.1 a0 32) d_27) (fun d_30 => ix_lt (ix_di d_30 a0 32 ((d_30.1 a0 32) + 1)) (fun d_32 => some (r_26, d_32)))) (some (r_26, d_27))))))))))))))))
set_option maxRecDepth 20000 in
theorem c_X12_next {l : Launch} {K : ix_Cx} (hKp : ix_Kp K) {n : Nat} {z : ix_Z} {a0 : Nat} {x1 : Int32} {d : ix_D2} {r : Int32} {d1 : ix_D2} (h : f_X12_next n z a0 x1 d = some (r, d1)) : ix_M l K yX12_next cX12_next 3 (some .int) 7 162 0 0 [.ref (K.2.2.1 + a0), .int x1] (ix_w z d) (some (.int r)) (ix_w z d1) := by
  refine ix_met mf_X12_next hKp (Nat.le_of_ble_eq_true rfl) ?_
  intro p e s m args below meth c hr hlk hnm X
  have X : ix_X p s m args c K cX12_next RX12 3 := X
  show ix_G p l e (ix_rm 7 162 0 0) s m args below meth c (MQ below (ix_Post K (some (.int r)) (ix_w z d1)) args s 0 0 (ix_A K)) K 3 0 0 0 [(0, .ref (K.2.2.1 + a0)), (1, .int x1)] [] (ix_w z d)
  unfold f_X12_next at h
  refine ix_iload_n (i := 1) (j := 1) X (ix_tb_at tb_X12_next 0 rfl) rfl rfl (pc1 := 1) rfl ?_
  obtain ⟨r_3, d_1, h_2, h⟩ := ix_bd2_ex h
  refine ix_callS (As := [.int x1]) (rest := []) X mf_X12_areSteps st_X12_areSteps ml_RX12_578 ⟨Nat.le_of_ble_eq_true rfl, Nat.le_of_ble_eq_true rfl⟩ ⟨Nat.le_of_ble_eq_true rfl, Nat.le_of_ble_eq_true rfl⟩ rfl (Nat.le_of_ble_eq_true rfl) (ix_tb_at tb_X12_next 1 rfl) (c_X12_areSteps hKp h_2) rfl (pc1 := 4) rfl ?_
  refine ix_if_ne (tgt := 15) X (ix_tb_at tb_X12_next 2 rfl) (by decide) (pc1 := 7) rfl (fun q_4 => ?_) (fun q_4 => ?_)
  · have h := ix_iff q_4 h
    refine ix_aload_n (i := 0) (j := 0) X (ix_tb_at tb_X12_next 7 rfl) rfl rfl (pc1 := 16) rfl ?_
    obtain ⟨k_5, h⟩ := ix_ck_some h
    refine iz_getI X fl_RX12_374 k_5 (ix_tb_at tb_X12_next 8 rfl) (pc1 := 19) rfl ?_
    refine ix_bipush (v := 64) X (ix_tb_at tb_X12_next 9 rfl) (by decide) (pc1 := 21) rfl ?_
    refine ix_icmp_ne (tgt := 32) X (ix_tb_at tb_X12_next 10 rfl) (by decide) (pc1 := 24) rfl (fun q_6 => ?_) (fun q_6 => ?_)
    · have h := ix_iff q_6 h
      refine ix_aload_n (i := 0) (j := 0) X (ix_tb_at tb_X12_next 15 rfl) rfl rfl (pc1 := 33) rfl ?_
      refine ix_iconst (v := 0) X (ix_tb_at tb_X12_next 16 rfl) (by decide) (pc1 := 34) rfl ?_
      obtain ⟨d_7, h_8, h⟩ := ix_bd1_ex h
      refine ix_callV (As := [.int 0]) (rest := []) (ci := 11) (T := TX12) (nf := 116) X mf_X12_prepare mi_X12_prepare ms_X12_prepare rfl (Nat.le_of_ble_eq_true rfl) ml_RX12_581 ⟨Nat.le_of_ble_eq_true rfl, Nat.le_of_ble_eq_true rfl⟩ ⟨Nat.le_of_ble_eq_true rfl, Nat.le_of_ble_eq_true rfl⟩ rfl (Nat.le_of_ble_eq_true rfl) (ix_tb_at tb_X12_next 17 rfl) ⟨k_5.1, List.mem_singleton.mp k_5.2⟩ (c_X12_prepare hKp h_8) rfl (pc1 := 37) rfl ?_
      refine ix_aload_n (i := 0) (j := 0) X (ix_tb_at tb_X12_next 18 rfl) rfl rfl (pc1 := 38) rfl ?_
      refine ix_iconst (v := 0) X (ix_tb_at tb_X12_next 19 rfl) (by decide) (pc1 := 39) rfl ?_
      obtain ⟨d_9, e_10, h⟩ := ix_lt_ex h
      refine iz_putI X fp_RX12_442 k_5 (ix_tb_at tb_X12_next 20 rfl) e_10 (pc1 := 42) rfl ?_
      refine ix_aload_n (i := 0) (j := 0) X (ix_tb_at tb_X12_next 21 rfl) rfl rfl (pc1 := 43) rfl ?_
      refine ix_aload_n (i := 0) (j := 0) X (ix_tb_at tb_X12_next 22 rfl) rfl rfl (pc1 := 44) rfl ?_
      refine iz_getI X fl_RX12_374 k_5 (ix_tb_at tb_X12_next 23 rfl) (pc1 := 47) rfl ?_
      obtain ⟨d_11, e_12, h⟩ := ix_lt_ex h
      refine iz_putI X fp_RX12_467 k_5 (ix_tb_at tb_X12_next 24 rfl) e_12 (pc1 := 50) rfl ?_
      refine ix_aload_n (i := 0) (j := 0) X (ix_tb_at tb_X12_next 25 rfl) rfl rfl (pc1 := 51) rfl ?_
      refine ix_aload_n (i := 0) (j := 0) X (ix_tb_at tb_X12_next 26 rfl) rfl rfl (pc1 := 52) rfl ?_
      refine iz_getI X fl_RX12_264 k_5 (ix_tb_at tb_X12_next 27 rfl) (pc1 := 55) rfl ?_
      obtain ⟨d_13, e_14, h⟩ := ix_lt_ex h
      refine iz_putI X fp_RX12_400 k_5 (ix_tb_at tb_X12_next 28 rfl) e_14 (pc1 := 58) rfl ?_
      refine ix_aload_n (i := 0) (j := 0) X (ix_tb_at tb_X12_next 29 rfl) rfl rfl (pc1 := 59) rfl ?_
      refine ix_iconst (v := 0) X (ix_tb_at tb_X12_next 30 rfl) (by decide) (pc1 := 60) rfl ?_
      obtain ⟨d_15, e_16, h⟩ := ix_lt_ex h
      refine iz_putZ X fp_RX12_533 k_5 (ix_tb_at tb_X12_next 31 rfl) (by decide) e_16 (pc1 := 63) rfl ?_
      refine ix_aload_n (i := 0) (j := 0) X (ix_tb_at tb_X12_next 32 rfl) rfl rfl (pc1 := 64) rfl ?_
      refine ix_iconst (v := 1) X (ix_tb_at tb_X12_next 33 rfl) (by decide) (pc1 := 65) rfl ?_
      obtain ⟨d_17, e_18, h⟩ := ix_lt_ex h
      refine iz_putZ X fp_RX12_470 k_5 (ix_tb_at tb_X12_next 34 rfl) (by decide) e_18 (pc1 := 68) rfl ?_
      refine ix_aload_n (i := 0) (j := 0) X (ix_tb_at tb_X12_next 35 rfl) rfl rfl (pc1 := 69) rfl ?_
      refine ix_iload_n (i := 1) (j := 1) X (ix_tb_at tb_X12_next 36 rfl) rfl rfl (pc1 := 70) rfl ?_
      obtain ⟨d_19, e_20, h⟩ := ix_lt_ex h
      refine iz_putI X fp_RX12_490 k_5 (ix_tb_at tb_X12_next 37 rfl) e_20 (pc1 := 73) rfl ?_
      refine ix_aload_n (i := 0) (j := 0) X (ix_tb_at tb_X12_next 38 rfl) rfl rfl (pc1 := 74) rfl ?_
      refine ix_aload_n (i := 0) (j := 0) X (ix_tb_at tb_X12_next 39 rfl) rfl rfl (pc1 := 75) rfl ?_
      refine ix_iconst (v := 0) X (ix_tb_at tb_X12_next 40 rfl) (by decide) (pc1 := 76) rfl ?_
      obtain ⟨r_23, d_21, h_22, h⟩ := ix_bd2_ex h
      refine ix_callV (As := [.int 0]) (rest := [.ref (K.2.2.1 + a0)]) (ci := 11) (T := TX12) (nf := 116) X mf_X12_solving mi_X12_solving ms_X12_solving rfl (Nat.le_of_ble_eq_true rfl) ml_RX12_587 ⟨Nat.le_of_ble_eq_true rfl, Nat.le_of_ble_eq_true rfl⟩ ⟨Nat.le_of_ble_eq_true rfl, Nat.le_of_ble_eq_true rfl⟩ rfl (Nat.le_of_ble_eq_true rfl) (ix_tb_at tb_X12_next 41 rfl) ⟨k_5.1, List.mem_singleton.mp k_5.2⟩ (c_X12_solving hKp h_22) rfl (pc1 := 79) rfl ?_
      obtain ⟨r_26, d_24, h_25, h⟩ := ix_bd2_ex h
      refine ix_callV (As := [.int r_23]) (rest := []) (ci := 11) (T := TX12) (nf := 116) X mf_X12_ended mi_X12_ended ms_X12_ended rfl (Nat.le_of_ble_eq_true rfl) ml_RX12_590 ⟨Nat.le_of_ble_eq_true rfl, Nat.le_of_ble_eq_true rfl⟩ ⟨Nat.le_of_ble_eq_true rfl, Nat.le_of_ble_eq_true rfl⟩ rfl (Nat.le_of_ble_eq_true rfl) (ix_tb_at tb_X12_next 42 rfl) ⟨k_5.1, List.mem_singleton.mp k_5.2⟩ (c_X12_ended hKp h_25) rfl (pc1 := 82) rfl ?_
      refine ix_istore_n (i := 2) (L1 := [(2, .int r_26), (0, .ref (K.2.2.1 + a0)), (1, .int x1)]) X (ix_tb_at tb_X12_next 43 rfl) rfl (Nat.le_of_ble_eq_true rfl) rfl (pc1 := 83) rfl ?_
      refine ix_aload_n (i := 0) (j := 1) X (ix_tb_at tb_X12_next 44 rfl) rfl rfl (pc1 := 84) rfl ?_
      refine ix_iconst (v := 0) X (ix_tb_at tb_X12_next 45 rfl) (by decide) (pc1 := 85) rfl ?_
      obtain ⟨d_27, e_28, h⟩ := ix_lt_ex h
      refine iz_putZ X fp_RX12_249 k_5 (ix_tb_at tb_X12_next 46 rfl) (by decide) e_28 (pc1 := 88) rfl ?_
      refine ix_iload_n (i := 2) (j := 0) X (ix_tb_at tb_X12_next 47 rfl) rfl rfl (pc1 := 89) rfl ?_
      refine ix_iconst (v := 1) X (ix_tb_at tb_X12_next 48 rfl) (by decide) (pc1 := 90) rfl ?_
      refine ix_icmp_ne (tgt := 112) X (ix_tb_at tb_X12_next 49 rfl) (by decide) (pc1 := 93) rfl (fun q_29 => ?_) (fun q_29 => ?_)
      · have h := ix_iff q_29 h
        refine ix_iload_n (i := 2) (j := 0) X (ix_tb_at tb_X12_next 61 rfl) rfl rfl (pc1 := 113) rfl ?_
        exact ix_iret X hr hlk (ix_r2 (f := fun r => some (.int r)) (g := ix_w z) h) (ix_tb_at tb_X12_next 62 rfl)
      · have h := ix_ift q_29 h
        refine ix_aload_n (i := 0) (j := 1) X (ix_tb_at tb_X12_next 50 rfl) rfl rfl (pc1 := 94) rfl ?_
        refine ix_iconst (v := 0) X (ix_tb_at tb_X12_next 51 rfl) (by decide) (pc1 := 95) rfl ?_
        refine ix_aload_n (i := 0) (j := 1) X (ix_tb_at tb_X12_next 52 rfl) rfl rfl (pc1 := 96) rfl ?_
        refine iz_getI X fl_RX12_374 k_5 (ix_tb_at tb_X12_next 53 rfl) (pc1 := 99) rfl ?_
        obtain ⟨d_30, h_31, h⟩ := ix_bd1_ex h
        refine ix_callV (As := [.int 0, .int (d_27.1 a0 32)]) (rest := []) (ci := 11) (T := TX12) (nf := 116) X mf_X12_bar mi_X12_bar ms_X12_bar rfl (Nat.le_of_ble_eq_true rfl) ml_RX12_633 ⟨Nat.le_of_ble_eq_true rfl, Nat.le_of_ble_eq_true rfl⟩ ⟨Nat.le_of_ble_eq_true rfl, Nat.le_of_ble_eq_true rfl⟩ rfl (Nat.le_of_ble_eq_true rfl) (ix_tb_at tb_X12_next 54 rfl) ⟨k_5.1, List.mem_singleton.mp k_5.2⟩ (c_X12_bar hKp h_31) rfl (pc1 := 102) rfl ?_
        refine ix_aload_n (i := 0) (j := 1) X (ix_tb_at tb_X12_next 55 rfl) rfl rfl (pc1 := 103) rfl ?_
        refine ix_dup X (ix_tb_at tb_X12_next 56 rfl) rfl (pc1 := 104) rfl ?_
        refine iz_getI X fl_RX12_374 k_5 (ix_tb_at tb_X12_next 57 rfl) (pc1 := 107) rfl ?_
        refine ix_iconst (v := 1) X (ix_tb_at tb_X12_next 58 rfl) (by decide) (pc1 := 108) rfl ?_
        refine ix_iadd X (ix_tb_at tb_X12_next 59 rfl) (pc1 := 109) rfl ?_
        obtain ⟨d_32, e_33, h⟩ := ix_lt_ex h
        refine iz_putI X fp_RX12_374 k_5 (ix_tb_at tb_X12_next 60 rfl) e_33 (pc1 := 112) rfl ?_
        refine ix_iload_n (i := 2) (j := 0) X (ix_tb_at tb_X12_next 61 rfl) rfl rfl (pc1 := 113) rfl ?_
        exact ix_iret X hr hlk (ix_r2 (f := fun r => some (.int r)) (g := ix_w z) h) (ix_tb_at tb_X12_next 62 rfl)
    · have h := ix_ift q_6 h
      refine ix_aload_n (i := 0) (j := 0) X (ix_tb_at tb_X12_next 11 rfl) rfl rfl (pc1 := 25) rfl ?_
      refine ix_sipush (v := (-1003)) X (ix_tb_at tb_X12_next 12 rfl) (by decide) (pc1 := 28) rfl ?_
      obtain ⟨r_36, d_34, h_35, h⟩ := ix_bd2_ex h
      refine ix_callV (As := [.int ((-1003))]) (rest := []) (ci := 11) (T := TX12) (nf := 116) X mf_X12_fail mi_X12_fail ms_X12_fail rfl (Nat.le_of_ble_eq_true rfl) ml_RX12_242 ⟨Nat.le_of_ble_eq_true rfl, Nat.le_of_ble_eq_true rfl⟩ ⟨Nat.le_of_ble_eq_true rfl, Nat.le_of_ble_eq_true rfl⟩ rfl (Nat.le_of_ble_eq_true rfl) (ix_tb_at tb_X12_next 13 rfl) ⟨k_5.1, List.mem_singleton.mp k_5.2⟩ (c_X12_fail hKp h_35) rfl (pc1 := 31) rfl ?_
      exact ix_iret X hr hlk (ix_r2 (f := fun r => some (.int r)) (g := ix_w z) h) (ix_tb_at tb_X12_next 14 rfl)
  · have h := ix_ift q_4 h
    refine ix_aload_n (i := 0) (j := 0) X (ix_tb_at tb_X12_next 3 rfl) rfl rfl (pc1 := 8) rfl ?_
    refine ix_sipush (v := (-1001)) X (ix_tb_at tb_X12_next 4 rfl) (by decide) (pc1 := 11) rfl ?_
    obtain ⟨k_39, h⟩ := ix_ck_some h
    obtain ⟨r_40, d_37, h_38, h⟩ := ix_bd2_ex h
    refine ix_callV (As := [.int ((-1001))]) (rest := []) (ci := 11) (T := TX12) (nf := 116) X mf_X12_fail mi_X12_fail ms_X12_fail rfl (Nat.le_of_ble_eq_true rfl) ml_RX12_242 ⟨Nat.le_of_ble_eq_true rfl, Nat.le_of_ble_eq_true rfl⟩ ⟨Nat.le_of_ble_eq_true rfl, Nat.le_of_ble_eq_true rfl⟩ rfl (Nat.le_of_ble_eq_true rfl) (ix_tb_at tb_X12_next 5 rfl) ⟨k_39.1, List.mem_singleton.mp k_39.2⟩ (c_X12_fail hKp h_38) rfl (pc1 := 14) rfl ?_
    exact ix_iret X hr hlk (ix_r2 (f := fun r => some (.int r)) (g := ix_w z) h) (ix_tb_at tb_X12_next 6 rfl)
def tab_X12_unbar : List (Nat × Instr × Nat) := [(0, .aload_n 0, 1), (1, .getfield 374, 3), (4, .istore_n 1, 1), (5, .aload_n 0, 1), (6, .iconst 0, 1), (7, .putfield 374, 3), (10, .iload_n 1, 1), (11, .ireturn, 1)]
theorem tb_X12_unbar : ix_tab cX12_unbar tab_X12_unbar := by
  unfold ix_tab
  decide +kernel
noncomputable def f_X12_unbar (n : Nat) (z : ix_Z) (a0 : Nat) (d : ix_D2) : Option (Int32 × ix_D2) :=
  ix_ck (ix_ok z [11] a0) (ix_lt (d.1 a0 32) (fun x1_2 => ix_lt (ix_di d a0 32 0) (fun d_4 => some (x1_2, d_4))))
set_option maxRecDepth 20000 in
theorem c_X12_unbar {l : Launch} {K : ix_Cx} (hKp : ix_Kp K) {n : Nat} {z : ix_Z} {a0 : Nat} {d : ix_D2} {r : Int32} {d1 : ix_D2} (h : f_X12_unbar n z a0 d = some (r, d1)) : ix_M l K yX12_unbar cX12_unbar 2 (some .int) 0 0 0 0 [.ref (K.2.2.1 + a0)] (ix_w z d) (some (.int r)) (ix_w z d1) := by
  refine ix_met mf_X12_unbar hKp (Nat.le_of_ble_eq_true rfl) ?_
  intro p e s m args below meth c hr hlk hnm X
  have X : ix_X p s m args c K cX12_unbar RX12 2 := X
  show ix_G p l e (ix_rm 0 0 0 0) s m args below meth c (MQ below (ix_Post K (some (.int r)) (ix_w z d1)) args s 0 0 (ix_A K)) K 2 0 0 0 [(0, .ref (K.2.2.1 + a0))] [] (ix_w z d)
  unfold f_X12_unbar at h
  refine ix_aload_n (i := 0) (j := 0) X (ix_tb_at tb_X12_unbar 0 rfl) rfl rfl (pc1 := 1) rfl ?_
  obtain ⟨k_1, h⟩ := ix_ck_some h
  refine iz_getI X fl_RX12_374 k_1 (ix_tb_at tb_X12_unbar 1 rfl) (pc1 := 4) rfl ?_
  obtain ⟨x1_2, e_3, h⟩ := ix_lt_ex h
  refine ix_nmi e_3 ?_
  refine ix_istore_n (i := 1) (L1 := [(1, .int x1_2), (0, .ref (K.2.2.1 + a0))]) X (ix_tb_at tb_X12_unbar 2 rfl) rfl (Nat.le_of_ble_eq_true rfl) rfl (pc1 := 5) rfl ?_
  refine ix_aload_n (i := 0) (j := 1) X (ix_tb_at tb_X12_unbar 3 rfl) rfl rfl (pc1 := 6) rfl ?_
  refine ix_iconst (v := 0) X (ix_tb_at tb_X12_unbar 4 rfl) (by decide) (pc1 := 7) rfl ?_
  obtain ⟨d_4, e_5, h⟩ := ix_lt_ex h
  refine iz_putI X fp_RX12_374 k_1 (ix_tb_at tb_X12_unbar 5 rfl) e_5 (pc1 := 10) rfl ?_
  refine ix_iload_n (i := 1) (j := 0) X (ix_tb_at tb_X12_unbar 6 rfl) rfl rfl (pc1 := 11) rfl ?_
  exact ix_iret X hr hlk (ix_r2 (f := fun r => some (.int r)) (g := ix_w z) h) (ix_tb_at tb_X12_unbar 7 rfl)
def tab_X12_count : List (Nat × Instr × Nat) := [(0, .iload_n 1, 1), (1, .iconst 1, 1), (2, .bipush 64, 2), (4, .invokestatic 238, 3), (7, .ifCond .eq 10, 3), (10, .iload_n 2, 1), (11, .invokestatic 578, 3), (14, .ifCond .ne 11, 3), (17, .aload_n 0, 1), (18, .sipush (-1001), 3), (21, .invokevirtual 242, 3), (24, .ireturn, 1), (25, .aload_n 0, 1), (26, .iload_n 2, 1), (27, .putfield 490, 3), (30, .iconst 0, 1), (31, .istore_n 3, 1), (32, .iconst 1, 1), (33, .istore 4, 2), (35, .iload_n 3, 1), (36, .iload_n 1, 1), (37, .if_icmp .ge 53, 3), (40, .iload 4, 2), (42, .iconst 1, 1), (43, .if_icmp .ne 47, 3), (46, .aload_n 0, 1), (47, .iconst 1, 1), (48, .invokevirtual 581, 3), (51, .aload_n 0, 1), (52, .bipush 64, 2), (54, .putfield 442, 3), (57, .aload_n 0, 1), (58, .iload_n 3, 1), (59, .putfield 467, 3), (62, .aload_n 0, 1), (63, .iconst 1, 1), (64, .invokevirtual 587, 3), (67, .istore 4, 2), (69, .iload 4, 2), (71, .iconst 1, 1), (72, .if_icmp .ne (-37), 3), (75, .aload_n 0, 1), (76, .iconst 1, 1), (77, .bipush 64, 2), (79, .iload_n 3, 1), (80, .iadd, 1), (81, .invokevirtual 633, 3), (84, .iinc 3 1, 3), (87, .goto (-52), 3), (90, .aload_n 0, 1), (91, .iconst 0, 1), (92, .putfield 442, 3), (95, .iload 4, 2), (97, .ifCond .ge 8, 3), (100, .iload 4, 2), (102, .goto 4, 3), (105, .iload_n 3, 1), (106, .ireturn, 1)]
theorem tb_X12_count : ix_tab cX12_count tab_X12_count := by
  unfold ix_tab
  decide +kernel
noncomputable def f_X12_count_17 (n : Nat) (z : ix_Z)  (a0 : Nat) (d : ix_D2) : Option (Int32 × ix_D2) :=
  ix_ck (ix_ok z [11] a0) (ix_bd2 (f_X12_fail n z a0 ((-1001)) d) (fun r_8 d_5 => some (r_8, d_5)))
noncomputable def f_X12_count_90 (n : Nat) (z : ix_Z)  (a0 : Nat) (x3 : Int32) (x4 : Int32) (d : ix_D2) : Option (Int32 × ix_D2) :=
  ix_ck (ix_ok z [11] a0) (ix_lt (ix_di d a0 66 0) (fun d_18 => ix_if (0 ≤ x4) (some (x3, d_18)) (some (x4, d_18))))
noncomputable def b_X12_count_35 (n : Nat) (z : ix_Z)  (a0 : Nat) (x1 : Int32) (rec35 : Int32 → Int32 → ix_D2 → Option (Int32 × ix_D2)) (x3 : Int32) (x4 : Int32) (d : ix_D2) : Option (Int32 × ix_D2) :=
  ix_if (x1 ≤ x3) (f_X12_count_90 n z  a0 x3 x4 d) (ix_if (x4 = 1) (ix_ck (ix_ok z [11] a0) (ix_bd1 (f_X12_prepare n z a0 1 d) (fun d_22 => ix_lt (ix_di d_22 a0 66 64) (fun d_25 => ix_lt (ix_di d_25 a0 67 x3) (fun d_27 => ix_bd2 (f_X12_solving n z a0 1 d_27) (fun r_31 d_29 => ix_if (r_31 = 1) (ix_bd1 (f_X12_bar n z a0 1 (64 + x3) d_29) (fun d_33 => ix_lt (x3 + 1) (fun x3_35 => rec35 x3_35 r_31 d_33))) (rec35 x3 r_31 d_29))))))) (f_X12_count_90 n z  a0 x3 x4 d))
noncomputable def f_X12_count_35 (n : Nat) (z : ix_Z)  (a0 : Nat) (x1 : Int32) (x3 : Int32) (x4 : Int32) (d : ix_D2) : Option (Int32 × ix_D2) := ix_fix (b_X12_count_35 n z  a0 x1) (fun _ _ _ => none) n x3 x4 d
noncomputable def f_X12_count (n : Nat) (z : ix_Z) (a0 : Nat) (x1 : Int32) (x2 : Int32) (d : ix_D2) : Option (Int32 × ix_D2) :=
  ix_bd2 (f_X12_in n z x1 1 64 d) (fun r_3 d_1 => ix_if (r_3 = 0) (f_X12_count_17 n z  a0 d_1) (ix_bd2 (f_X12_areSteps n z x2 d_1) (fun r_11 d_9 => ix_if (r_11 = 0) (f_X12_count_17 n z  a0 d_9) (ix_ck (ix_ok z [11] a0) (ix_lt (ix_di d_9 a0 89 x2) (fun d_14 => f_X12_count_35 n z  a0 x1 0 1 d_14))))))
set_option maxRecDepth 20000 in
theorem t_X12_count_17 {l : Launch} {p : Program} {e : Env} {s : State} {m : MethodId} {args : Array Value} {below : List Frame} {meth : Method} {c : Code} {K : ix_Cx} (hKp : ix_Kp K) {n : Nat} {z : ix_Z} (X : ix_X p s m args c K cX12_count RX12 5) (hr : meth.sig.returnType = (some .int)) (hlk : meth.locks = false)  {a0 : Nat} {r : Int32} {d1 : ix_D2}  {d : ix_D2} (h : f_X12_count_17 n z  a0 d = some (r, d1)) : ix_G p l e (ix_rm 7 162 0 0) s m args below meth c (MQ below (ix_Post K (some (.int r)) (ix_w z d1)) args s 0 0 (ix_A K)) K 5 0 0 17 [(0, .ref (K.2.2.1 + a0))] [] (ix_w z d) := by
  unfold f_X12_count_17 at h
  refine ix_aload_n (i := 0) (j := 0) X (ix_tb_at tb_X12_count 8 rfl) rfl rfl (pc1 := 18) rfl ?_
  refine ix_sipush (v := (-1001)) X (ix_tb_at tb_X12_count 9 rfl) (by decide) (pc1 := 21) rfl ?_
  obtain ⟨k_7, h⟩ := ix_ck_some h
  obtain ⟨r_8, d_5, h_6, h⟩ := ix_bd2_ex h
  refine ix_callV (As := [.int ((-1001))]) (rest := []) (ci := 11) (T := TX12) (nf := 116) X mf_X12_fail mi_X12_fail ms_X12_fail rfl (Nat.le_of_ble_eq_true rfl) ml_RX12_242 ⟨Nat.le_of_ble_eq_true rfl, Nat.le_of_ble_eq_true rfl⟩ ⟨Nat.le_of_ble_eq_true rfl, Nat.le_of_ble_eq_true rfl⟩ rfl (Nat.le_of_ble_eq_true rfl) (ix_tb_at tb_X12_count 10 rfl) ⟨k_7.1, List.mem_singleton.mp k_7.2⟩ (c_X12_fail hKp h_6) rfl (pc1 := 24) rfl ?_
  exact ix_iret X hr hlk (ix_r2 (f := fun r => some (.int r)) (g := ix_w z) h) (ix_tb_at tb_X12_count 11 rfl)
set_option maxRecDepth 20000 in
theorem t_X12_count_90 {l : Launch} {p : Program} {e : Env} {s : State} {m : MethodId} {args : Array Value} {below : List Frame} {meth : Method} {c : Code} {K : ix_Cx} (hKp : ix_Kp K) {n : Nat} {z : ix_Z} (X : ix_X p s m args c K cX12_count RX12 5) (hr : meth.sig.returnType = (some .int)) (hlk : meth.locks = false)  {a0 : Nat} {x3 : Int32} {x4 : Int32} {r : Int32} {d1 : ix_D2}  {d : ix_D2} (h : f_X12_count_90 n z  a0 x3 x4 d = some (r, d1)) : ix_G p l e (ix_rm 7 162 0 0) s m args below meth c (MQ below (ix_Post K (some (.int r)) (ix_w z d1)) args s 0 0 (ix_A K)) K 5 0 0 90 [(0, .ref (K.2.2.1 + a0)), (3, .int x3), (4, .int x4)] [] (ix_w z d) := by
  unfold f_X12_count_90 at h
  refine ix_aload_n (i := 0) (j := 0) X (ix_tb_at tb_X12_count 49 rfl) rfl rfl (pc1 := 91) rfl ?_
  refine ix_iconst (v := 0) X (ix_tb_at tb_X12_count 50 rfl) (by decide) (pc1 := 92) rfl ?_
  obtain ⟨k_17, h⟩ := ix_ck_some h
  obtain ⟨d_18, e_19, h⟩ := ix_lt_ex h
  refine iz_putI X fp_RX12_442 k_17 (ix_tb_at tb_X12_count 51 rfl) e_19 (pc1 := 95) rfl ?_
  refine ix_iload (i := 4) (j := 2) X (ix_tb_at tb_X12_count 52 rfl) rfl (pc1 := 97) rfl ?_
  refine ix_if_ge (tgt := 105) X (ix_tb_at tb_X12_count 53 rfl) (by decide) (pc1 := 100) rfl (fun q_20 => ?_) (fun q_20 => ?_)
  · have h := ix_ift q_20 h
    refine ix_iload_n (i := 3) (j := 1) X (ix_tb_at tb_X12_count 56 rfl) rfl rfl (pc1 := 106) rfl ?_
    exact ix_iret X hr hlk (ix_r2 (f := fun r => some (.int r)) (g := ix_w z) h) (ix_tb_at tb_X12_count 57 rfl)
  · have h := ix_iff q_20 h
    refine ix_iload (i := 4) (j := 2) X (ix_tb_at tb_X12_count 54 rfl) rfl (pc1 := 102) rfl ?_
    refine ix_goto (tgt := 106) X (ix_tb_at tb_X12_count 55 rfl) (by decide) ?_
    exact ix_iret X hr hlk (ix_r2 (f := fun r => some (.int r)) (g := ix_w z) h) (ix_tb_at tb_X12_count 57 rfl)
set_option maxRecDepth 20000 in
theorem tb_X12_count_35 {l : Launch} {p : Program} {e : Env} {s : State} {m : MethodId} {args : Array Value} {below : List Frame} {meth : Method} {c : Code} {K : ix_Cx} (hKp : ix_Kp K) {n : Nat} {z : ix_Z} (X : ix_X p s m args c K cX12_count RX12 5) (hr : meth.sig.returnType = (some .int)) (hlk : meth.locks = false)  {a0 : Nat} {x1 : Int32} {rec35 : Int32 → Int32 → ix_D2 → Option (Int32 × ix_D2)} {r : Int32} {d1 : ix_D2} (hrec35 : ∀ (x3 : Int32) (x4 : Int32) (d : ix_D2), rec35 x3 x4 d = some (r, d1) → ix_G p l e (ix_rm 7 162 0 0) s m args below meth c (MQ below (ix_Post K (some (.int r)) (ix_w z d1)) args s 0 0 (ix_A K)) K 5 0 0 35 [(0, .ref (K.2.2.1 + a0)), (1, .int x1), (3, .int x3), (4, .int x4)] [] (ix_w z d)) {x3 : Int32} {x4 : Int32} {d : ix_D2} (h : b_X12_count_35 n z  a0 x1 rec35 x3 x4 d = some (r, d1)) : ix_G p l e (ix_rm 7 162 0 0) s m args below meth c (MQ below (ix_Post K (some (.int r)) (ix_w z d1)) args s 0 0 (ix_A K)) K 5 0 0 35 [(0, .ref (K.2.2.1 + a0)), (1, .int x1), (3, .int x3), (4, .int x4)] [] (ix_w z d) := by
  unfold b_X12_count_35 at h
  refine ix_iload_n (i := 3) (j := 2) X (ix_tb_at tb_X12_count 19 rfl) rfl rfl (pc1 := 36) rfl ?_
  refine ix_iload_n (i := 1) (j := 1) X (ix_tb_at tb_X12_count 20 rfl) rfl rfl (pc1 := 37) rfl ?_
  refine ix_icmp_ge (tgt := 90) X (ix_tb_at tb_X12_count 21 rfl) (by decide) (pc1 := 40) rfl (fun q_16 => ?_) (fun q_16 => ?_)
  · have h := ix_ift q_16 h
    refine ix_sub (L1 := [(0, .ref (K.2.2.1 + a0)), (3, .int x3), (4, .int x4)]) [0, 2, 3] rfl ?_
    exact t_X12_count_90 hKp X hr hlk  h
  · have h := ix_iff q_16 h
    refine ix_iload (i := 4) (j := 3) X (ix_tb_at tb_X12_count 22 rfl) rfl (pc1 := 42) rfl ?_
    refine ix_iconst (v := 1) X (ix_tb_at tb_X12_count 23 rfl) (by decide) (pc1 := 43) rfl ?_
    refine ix_icmp_ne (tgt := 90) X (ix_tb_at tb_X12_count 24 rfl) (by decide) (pc1 := 46) rfl (fun q_21 => ?_) (fun q_21 => ?_)
    · have h := ix_iff q_21 h
      refine ix_sub (L1 := [(0, .ref (K.2.2.1 + a0)), (3, .int x3), (4, .int x4)]) [0, 2, 3] rfl ?_
      exact t_X12_count_90 hKp X hr hlk  h
    · have h := ix_ift q_21 h
      refine ix_aload_n (i := 0) (j := 0) X (ix_tb_at tb_X12_count 25 rfl) rfl rfl (pc1 := 47) rfl ?_
      refine ix_iconst (v := 1) X (ix_tb_at tb_X12_count 26 rfl) (by decide) (pc1 := 48) rfl ?_
      obtain ⟨k_24, h⟩ := ix_ck_some h
      obtain ⟨d_22, h_23, h⟩ := ix_bd1_ex h
      refine ix_callV (As := [.int 1]) (rest := []) (ci := 11) (T := TX12) (nf := 116) X mf_X12_prepare mi_X12_prepare ms_X12_prepare rfl (Nat.le_of_ble_eq_true rfl) ml_RX12_581 ⟨Nat.le_of_ble_eq_true rfl, Nat.le_of_ble_eq_true rfl⟩ ⟨Nat.le_of_ble_eq_true rfl, Nat.le_of_ble_eq_true rfl⟩ rfl (Nat.le_of_ble_eq_true rfl) (ix_tb_at tb_X12_count 27 rfl) ⟨k_24.1, List.mem_singleton.mp k_24.2⟩ (c_X12_prepare hKp h_23) rfl (pc1 := 51) rfl ?_
      refine ix_aload_n (i := 0) (j := 0) X (ix_tb_at tb_X12_count 28 rfl) rfl rfl (pc1 := 52) rfl ?_
      refine ix_bipush (v := 64) X (ix_tb_at tb_X12_count 29 rfl) (by decide) (pc1 := 54) rfl ?_
      obtain ⟨d_25, e_26, h⟩ := ix_lt_ex h
      refine iz_putI X fp_RX12_442 k_24 (ix_tb_at tb_X12_count 30 rfl) e_26 (pc1 := 57) rfl ?_
      refine ix_aload_n (i := 0) (j := 0) X (ix_tb_at tb_X12_count 31 rfl) rfl rfl (pc1 := 58) rfl ?_
      refine ix_iload_n (i := 3) (j := 2) X (ix_tb_at tb_X12_count 32 rfl) rfl rfl (pc1 := 59) rfl ?_
      obtain ⟨d_27, e_28, h⟩ := ix_lt_ex h
      refine iz_putI X fp_RX12_467 k_24 (ix_tb_at tb_X12_count 33 rfl) e_28 (pc1 := 62) rfl ?_
      refine ix_aload_n (i := 0) (j := 0) X (ix_tb_at tb_X12_count 34 rfl) rfl rfl (pc1 := 63) rfl ?_
      refine ix_iconst (v := 1) X (ix_tb_at tb_X12_count 35 rfl) (by decide) (pc1 := 64) rfl ?_
      obtain ⟨r_31, d_29, h_30, h⟩ := ix_bd2_ex h
      refine ix_callV (As := [.int 1]) (rest := []) (ci := 11) (T := TX12) (nf := 116) X mf_X12_solving mi_X12_solving ms_X12_solving rfl (Nat.le_of_ble_eq_true rfl) ml_RX12_587 ⟨Nat.le_of_ble_eq_true rfl, Nat.le_of_ble_eq_true rfl⟩ ⟨Nat.le_of_ble_eq_true rfl, Nat.le_of_ble_eq_true rfl⟩ rfl (Nat.le_of_ble_eq_true rfl) (ix_tb_at tb_X12_count 36 rfl) ⟨k_24.1, List.mem_singleton.mp k_24.2⟩ (c_X12_solving hKp h_30) rfl (pc1 := 67) rfl ?_
      refine ix_istore (i := 4) (L1 := [(4, .int r_31), (0, .ref (K.2.2.1 + a0)), (1, .int x1), (3, .int x3)]) X (ix_tb_at tb_X12_count 37 rfl) (Nat.le_of_ble_eq_true rfl) rfl (pc1 := 69) rfl ?_
      refine ix_iload (i := 4) (j := 0) X (ix_tb_at tb_X12_count 38 rfl) rfl (pc1 := 71) rfl ?_
      refine ix_iconst (v := 1) X (ix_tb_at tb_X12_count 39 rfl) (by decide) (pc1 := 72) rfl ?_
      refine ix_icmp_ne (tgt := 35) X (ix_tb_at tb_X12_count 40 rfl) (by decide) (pc1 := 75) rfl (fun q_32 => ?_) (fun q_32 => ?_)
      · have h := ix_iff q_32 h
        refine ix_sub (L1 := [(0, .ref (K.2.2.1 + a0)), (1, .int x1), (3, .int x3), (4, .int r_31)]) [1, 2, 3, 0] rfl ?_
        exact hrec35 x3 r_31 d_29 h
      · have h := ix_ift q_32 h
        refine ix_aload_n (i := 0) (j := 1) X (ix_tb_at tb_X12_count 41 rfl) rfl rfl (pc1 := 76) rfl ?_
        refine ix_iconst (v := 1) X (ix_tb_at tb_X12_count 42 rfl) (by decide) (pc1 := 77) rfl ?_
        refine ix_bipush (v := 64) X (ix_tb_at tb_X12_count 43 rfl) (by decide) (pc1 := 79) rfl ?_
        refine ix_iload_n (i := 3) (j := 3) X (ix_tb_at tb_X12_count 44 rfl) rfl rfl (pc1 := 80) rfl ?_
        refine ix_iadd X (ix_tb_at tb_X12_count 45 rfl) (pc1 := 81) rfl ?_
        obtain ⟨d_33, h_34, h⟩ := ix_bd1_ex h
        refine ix_callV (As := [.int 1, .int (64 + x3)]) (rest := []) (ci := 11) (T := TX12) (nf := 116) X mf_X12_bar mi_X12_bar ms_X12_bar rfl (Nat.le_of_ble_eq_true rfl) ml_RX12_633 ⟨Nat.le_of_ble_eq_true rfl, Nat.le_of_ble_eq_true rfl⟩ ⟨Nat.le_of_ble_eq_true rfl, Nat.le_of_ble_eq_true rfl⟩ rfl (Nat.le_of_ble_eq_true rfl) (ix_tb_at tb_X12_count 46 rfl) ⟨k_24.1, List.mem_singleton.mp k_24.2⟩ (c_X12_bar hKp h_34) rfl (pc1 := 84) rfl ?_
        obtain ⟨x3_35, e_36, h⟩ := ix_lt_ex h
        refine ix_iinc (i := 3) (j := 3) (v := x3_35) (L1 := [(3, .int x3_35), (4, .int r_31), (0, .ref (K.2.2.1 + a0)), (1, .int x1)]) X (ix_tb_at tb_X12_count 47 rfl) rfl (by rw [oi_1]; exact e_36.symm) (Nat.le_of_ble_eq_true rfl) rfl (pc1 := 87) rfl ?_
        refine ix_goto (tgt := 35) X (ix_tb_at tb_X12_count 48 rfl) (by decide) ?_
        refine ix_sub (L1 := [(0, .ref (K.2.2.1 + a0)), (1, .int x1), (3, .int x3_35), (4, .int r_31)]) [2, 3, 0, 1] rfl ?_
        exact hrec35 x3_35 r_31 d_33 h
theorem t_X12_count_35 {l : Launch} {p : Program} {e : Env} {s : State} {m : MethodId} {args : Array Value} {below : List Frame} {meth : Method} {c : Code} {K : ix_Cx} (hKp : ix_Kp K) {n : Nat} {z : ix_Z} (X : ix_X p s m args c K cX12_count RX12 5) (hr : meth.sig.returnType = (some .int)) (hlk : meth.locks = false)  {a0 : Nat} {x1 : Int32} {r : Int32} {d1 : ix_D2}  {x3 : Int32} {x4 : Int32} {d : ix_D2} (h : f_X12_count_35 n z  a0 x1 x3 x4 d = some (r, d1)) : ix_G p l e (ix_rm 7 162 0 0) s m args below meth c (MQ below (ix_Post K (some (.int r)) (ix_w z d1)) args s 0 0 (ix_A K)) K 5 0 0 35 [(0, .ref (K.2.2.1 + a0)), (1, .int x1), (3, .int x3), (4, .int x4)] [] (ix_w z d) := by
  have key : ∀ (f : Nat) (x3 : Int32) (x4 : Int32) (d : ix_D2), ix_fix (b_X12_count_35 n z  a0 x1) (fun _ _ _ => none) f x3 x4 d = some (r, d1) → ix_G p l e (ix_rm 7 162 0 0) s m args below meth c (MQ below (ix_Post K (some (.int r)) (ix_w z d1)) args s 0 0 (ix_A K)) K 5 0 0 35 [(0, .ref (K.2.2.1 + a0)), (1, .int x1), (3, .int x3), (4, .int x4)] [] (ix_w z d) := by
    intro f
    induction f with
    | zero =>
      intro x3 x4 d h
      have h : (none : Option (Int32 × ix_D2)) = some (r, d1) := h
      cases h
    | succ f ih =>
      intro x3 x4 d h
      exact tb_X12_count_35 hKp X hr hlk (rec35 := ix_fix (b_X12_count_35 n z  a0 x1) (fun _ _ _ => none) f)  ih h
  exact key n x3 x4 d h
set_option maxRecDepth 20000 in
theorem c_X12_count {l : Launch} {K : ix_Cx} (hKp : ix_Kp K) {n : Nat} {z : ix_Z} {a0 : Nat} {x1 : Int32} {x2 : Int32} {d : ix_D2} {r : Int32} {d1 : ix_D2} (h : f_X12_count n z a0 x1 x2 d = some (r, d1)) : ix_M l K yX12_count cX12_count 5 (some .int) 7 162 0 0 [.ref (K.2.2.1 + a0), .int x1, .int x2] (ix_w z d) (some (.int r)) (ix_w z d1) := by
  refine ix_met mf_X12_count hKp (Nat.le_of_ble_eq_true rfl) ?_
  intro p e s m args below meth c hr hlk hnm X
  have X : ix_X p s m args c K cX12_count RX12 5 := X
  show ix_G p l e (ix_rm 7 162 0 0) s m args below meth c (MQ below (ix_Post K (some (.int r)) (ix_w z d1)) args s 0 0 (ix_A K)) K 5 0 0 0 [(0, .ref (K.2.2.1 + a0)), (1, .int x1), (2, .int x2)] [] (ix_w z d)
  unfold f_X12_count at h
  refine ix_iload_n (i := 1) (j := 1) X (ix_tb_at tb_X12_count 0 rfl) rfl rfl (pc1 := 1) rfl ?_
  refine ix_iconst (v := 1) X (ix_tb_at tb_X12_count 1 rfl) (by decide) (pc1 := 2) rfl ?_
  refine ix_bipush (v := 64) X (ix_tb_at tb_X12_count 2 rfl) (by decide) (pc1 := 4) rfl ?_
  obtain ⟨r_3, d_1, h_2, h⟩ := ix_bd2_ex h
  refine ix_callS (As := [.int x1, .int 1, .int 64]) (rest := []) X mf_X12_in st_X12_in ml_RX12_238 ⟨Nat.le_of_ble_eq_true rfl, Nat.le_of_ble_eq_true rfl⟩ ⟨Nat.le_of_ble_eq_true rfl, Nat.le_of_ble_eq_true rfl⟩ rfl (Nat.le_of_ble_eq_true rfl) (ix_tb_at tb_X12_count 3 rfl) (c_X12_in hKp h_2) rfl (pc1 := 7) rfl ?_
  refine ix_if_eq (tgt := 17) X (ix_tb_at tb_X12_count 4 rfl) (by decide) (pc1 := 10) rfl (fun q_4 => ?_) (fun q_4 => ?_)
  · have h := ix_ift q_4 h
    refine ix_sub (L1 := [(0, .ref (K.2.2.1 + a0))]) [0] rfl ?_
    exact t_X12_count_17 hKp X hr hlk  h
  · have h := ix_iff q_4 h
    refine ix_iload_n (i := 2) (j := 2) X (ix_tb_at tb_X12_count 5 rfl) rfl rfl (pc1 := 11) rfl ?_
    obtain ⟨r_11, d_9, h_10, h⟩ := ix_bd2_ex h
    refine ix_callS (As := [.int x2]) (rest := []) X mf_X12_areSteps st_X12_areSteps ml_RX12_578 ⟨Nat.le_of_ble_eq_true rfl, Nat.le_of_ble_eq_true rfl⟩ ⟨Nat.le_of_ble_eq_true rfl, Nat.le_of_ble_eq_true rfl⟩ rfl (Nat.le_of_ble_eq_true rfl) (ix_tb_at tb_X12_count 6 rfl) (c_X12_areSteps hKp h_10) rfl (pc1 := 14) rfl ?_
    refine ix_if_ne (tgt := 25) X (ix_tb_at tb_X12_count 7 rfl) (by decide) (pc1 := 17) rfl (fun q_12 => ?_) (fun q_12 => ?_)
    · have h := ix_iff q_12 h
      refine ix_aload_n (i := 0) (j := 0) X (ix_tb_at tb_X12_count 12 rfl) rfl rfl (pc1 := 26) rfl ?_
      refine ix_iload_n (i := 2) (j := 2) X (ix_tb_at tb_X12_count 13 rfl) rfl rfl (pc1 := 27) rfl ?_
      obtain ⟨k_13, h⟩ := ix_ck_some h
      obtain ⟨d_14, e_15, h⟩ := ix_lt_ex h
      refine iz_putI X fp_RX12_490 k_13 (ix_tb_at tb_X12_count 14 rfl) e_15 (pc1 := 30) rfl ?_
      refine ix_iconst (v := 0) X (ix_tb_at tb_X12_count 15 rfl) (by decide) (pc1 := 31) rfl ?_
      refine ix_istore_n (i := 3) (L1 := [(3, .int 0), (0, .ref (K.2.2.1 + a0)), (1, .int x1), (2, .int x2)]) X (ix_tb_at tb_X12_count 16 rfl) rfl (Nat.le_of_ble_eq_true rfl) rfl (pc1 := 32) rfl ?_
      refine ix_iconst (v := 1) X (ix_tb_at tb_X12_count 17 rfl) (by decide) (pc1 := 33) rfl ?_
      refine ix_istore (i := 4) (L1 := [(4, .int 1), (3, .int 0), (0, .ref (K.2.2.1 + a0)), (1, .int x1), (2, .int x2)]) X (ix_tb_at tb_X12_count 18 rfl) (Nat.le_of_ble_eq_true rfl) rfl (pc1 := 35) rfl ?_
      refine ix_sub (L1 := [(0, .ref (K.2.2.1 + a0)), (1, .int x1), (3, .int 0), (4, .int 1)]) [2, 3, 1, 0] rfl ?_
      exact t_X12_count_35 hKp X hr hlk  h
    · have h := ix_ift q_12 h
      refine ix_sub (L1 := [(0, .ref (K.2.2.1 + a0))]) [0] rfl ?_
      exact t_X12_count_17 hKp X hr hlk  h
def tab_X12_force : List (Nat × Instr × Nat) := [(0, .aload_n 0, 1), (1, .iconst 1, 1), (2, .invokevirtual 581, 3), (5, .aload_n 0, 1), (6, .iconst 1, 1), (7, .invokevirtual 493, 3), (10, .aload_n 0, 1), (11, .getfield 460, 3), (14, .ifCond .ge 31, 3), (17, .aload_n 0, 1), (18, .getfield 454, 3), (21, .ifCond .lt 24, 3), (24, .aload_n 0, 1), (25, .iconst 1, 1), (26, .aload_n 0, 1), (27, .getfield 457, 3), (30, .aload_n 0, 1), (31, .getfield 454, 3), (34, .invokevirtual 499, 3), (37, .aload_n 0, 1), (38, .iconst 1, 1), (39, .invokevirtual 493, 3), (42, .goto (-32), 3), (45, .aload_n 0, 1), (46, .getfield 460, 3), (49, .ifCond .ge 7, 3), (52, .iconst 1, 1), (53, .goto 4, 3), (56, .iconst 0, 1), (57, .ireturn, 1)]
theorem tb_X12_force : ix_tab cX12_force tab_X12_force := by
  unfold ix_tab
  decide +kernel
noncomputable def f_X12_force_45 (n : Nat) (z : ix_Z)  (a0 : Nat) (d : ix_D2) : Option (Int32 × ix_D2) :=
  ix_ck (ix_ok z [11] a0) (ix_if (0 ≤ d.1 a0 98) (some (0, d)) (some (1, d)))
noncomputable def b_X12_force_10 (n : Nat) (z : ix_Z)  (a0 : Nat) (rec10 : ix_D2 → Option (Int32 × ix_D2))  (d : ix_D2) : Option (Int32 × ix_D2) :=
  ix_ck (ix_ok z [11] a0) (ix_if (0 ≤ d.1 a0 98) (f_X12_force_45 n z  a0 d) (ix_if (d.1 a0 99 < 0) (f_X12_force_45 n z  a0 d) (ix_bd1 (f_X12_become n z a0 1 (d.1 a0 100) (d.1 a0 99) d) (fun d_11 => ix_bd1 (f_X12_find n z a0 1 d_11) (fun d_13 => rec10  d_13)))))
noncomputable def f_X12_force_10 (n : Nat) (z : ix_Z)  (a0 : Nat)  (d : ix_D2) : Option (Int32 × ix_D2) := ix_fix (b_X12_force_10 n z  a0) (fun  _ => none) n  d
noncomputable def f_X12_force (n : Nat) (z : ix_Z) (a0 : Nat) (d : ix_D2) : Option (Int32 × ix_D2) :=
  ix_ck (ix_ok z [11] a0) (ix_bd1 (f_X12_prepare n z a0 1 d) (fun d_1 => ix_bd1 (f_X12_find n z a0 1 d_1) (fun d_4 => f_X12_force_10 n z  a0  d_4)))
set_option maxRecDepth 20000 in
theorem t_X12_force_45 {l : Launch} {p : Program} {e : Env} {s : State} {m : MethodId} {args : Array Value} {below : List Frame} {meth : Method} {c : Code} {K : ix_Cx} (hKp : ix_Kp K) {n : Nat} {z : ix_Z} (X : ix_X p s m args c K cX12_force RX12 1) (hr : meth.sig.returnType = (some .boolean)) (hlk : meth.locks = false)  {a0 : Nat} {r : Int32} {d1 : ix_D2}  {d : ix_D2} (h : f_X12_force_45 n z  a0 d = some (r, d1)) : ix_G p l e (ix_rm 5 116 0 0) s m args below meth c (MQ below (ix_Post K (some (.int r)) (ix_w z d1)) args s 0 0 (ix_A K)) K 1 0 0 45 [(0, .ref (K.2.2.1 + a0))] [] (ix_w z d) := by
  unfold f_X12_force_45 at h
  refine ix_aload_n (i := 0) (j := 0) X (ix_tb_at tb_X12_force 23 rfl) rfl rfl (pc1 := 46) rfl ?_
  obtain ⟨k_8, h⟩ := ix_ck_some h
  refine iz_getI X fl_RX12_460 k_8 (ix_tb_at tb_X12_force 24 rfl) (pc1 := 49) rfl ?_
  refine ix_if_ge (tgt := 56) X (ix_tb_at tb_X12_force 25 rfl) (by decide) (pc1 := 52) rfl (fun q_9 => ?_) (fun q_9 => ?_)
  · have h := ix_ift q_9 h
    refine ix_iconst (v := 0) X (ix_tb_at tb_X12_force 28 rfl) (by decide) (pc1 := 57) rfl ?_
    exact ix_zret X hr hlk (by decide) (ix_r2 (f := fun r => some (.int r)) (g := ix_w z) h) (ix_tb_at tb_X12_force 29 rfl)
  · have h := ix_iff q_9 h
    refine ix_iconst (v := 1) X (ix_tb_at tb_X12_force 26 rfl) (by decide) (pc1 := 53) rfl ?_
    refine ix_goto (tgt := 57) X (ix_tb_at tb_X12_force 27 rfl) (by decide) ?_
    exact ix_zret X hr hlk (by decide) (ix_r2 (f := fun r => some (.int r)) (g := ix_w z) h) (ix_tb_at tb_X12_force 29 rfl)
set_option maxRecDepth 20000 in
theorem tb_X12_force_10 {l : Launch} {p : Program} {e : Env} {s : State} {m : MethodId} {args : Array Value} {below : List Frame} {meth : Method} {c : Code} {K : ix_Cx} (hKp : ix_Kp K) {n : Nat} {z : ix_Z} (X : ix_X p s m args c K cX12_force RX12 1) (hr : meth.sig.returnType = (some .boolean)) (hlk : meth.locks = false)  {a0 : Nat} {rec10 : ix_D2 → Option (Int32 × ix_D2)} {r : Int32} {d1 : ix_D2} (hrec10 : ∀  (d : ix_D2), rec10  d = some (r, d1) → ix_G p l e (ix_rm 5 116 0 0) s m args below meth c (MQ below (ix_Post K (some (.int r)) (ix_w z d1)) args s 0 0 (ix_A K)) K 1 0 0 10 [(0, .ref (K.2.2.1 + a0))] [] (ix_w z d))  {d : ix_D2} (h : b_X12_force_10 n z  a0 rec10  d = some (r, d1)) : ix_G p l e (ix_rm 5 116 0 0) s m args below meth c (MQ below (ix_Post K (some (.int r)) (ix_w z d1)) args s 0 0 (ix_A K)) K 1 0 0 10 [(0, .ref (K.2.2.1 + a0))] [] (ix_w z d) := by
  unfold b_X12_force_10 at h
  refine ix_aload_n (i := 0) (j := 0) X (ix_tb_at tb_X12_force 6 rfl) rfl rfl (pc1 := 11) rfl ?_
  obtain ⟨k_6, h⟩ := ix_ck_some h
  refine iz_getI X fl_RX12_460 k_6 (ix_tb_at tb_X12_force 7 rfl) (pc1 := 14) rfl ?_
  refine ix_if_ge (tgt := 45) X (ix_tb_at tb_X12_force 8 rfl) (by decide) (pc1 := 17) rfl (fun q_7 => ?_) (fun q_7 => ?_)
  · have h := ix_ift q_7 h
    refine ix_sub (L1 := [(0, .ref (K.2.2.1 + a0))]) [0] rfl ?_
    exact t_X12_force_45 hKp X hr hlk  h
  · have h := ix_iff q_7 h
    refine ix_aload_n (i := 0) (j := 0) X (ix_tb_at tb_X12_force 9 rfl) rfl rfl (pc1 := 18) rfl ?_
    refine iz_getI X fl_RX12_454 k_6 (ix_tb_at tb_X12_force 10 rfl) (pc1 := 21) rfl ?_
    refine ix_if_lt (tgt := 45) X (ix_tb_at tb_X12_force 11 rfl) (by decide) (pc1 := 24) rfl (fun q_10 => ?_) (fun q_10 => ?_)
    · have h := ix_ift q_10 h
      refine ix_sub (L1 := [(0, .ref (K.2.2.1 + a0))]) [0] rfl ?_
      exact t_X12_force_45 hKp X hr hlk  h
    · have h := ix_iff q_10 h
      refine ix_aload_n (i := 0) (j := 0) X (ix_tb_at tb_X12_force 12 rfl) rfl rfl (pc1 := 25) rfl ?_
      refine ix_iconst (v := 1) X (ix_tb_at tb_X12_force 13 rfl) (by decide) (pc1 := 26) rfl ?_
      refine ix_aload_n (i := 0) (j := 0) X (ix_tb_at tb_X12_force 14 rfl) rfl rfl (pc1 := 27) rfl ?_
      refine iz_getI X fl_RX12_457 k_6 (ix_tb_at tb_X12_force 15 rfl) (pc1 := 30) rfl ?_
      refine ix_aload_n (i := 0) (j := 0) X (ix_tb_at tb_X12_force 16 rfl) rfl rfl (pc1 := 31) rfl ?_
      refine iz_getI X fl_RX12_454 k_6 (ix_tb_at tb_X12_force 17 rfl) (pc1 := 34) rfl ?_
      obtain ⟨d_11, h_12, h⟩ := ix_bd1_ex h
      refine ix_callV (As := [.int 1, .int (d.1 a0 100), .int (d.1 a0 99)]) (rest := []) (ci := 11) (T := TX12) (nf := 116) X mf_X12_become mi_X12_become ms_X12_become rfl (Nat.le_of_ble_eq_true rfl) ml_RX12_499 ⟨Nat.le_of_ble_eq_true rfl, Nat.le_of_ble_eq_true rfl⟩ ⟨Nat.le_of_ble_eq_true rfl, Nat.le_of_ble_eq_true rfl⟩ rfl (Nat.le_of_ble_eq_true rfl) (ix_tb_at tb_X12_force 18 rfl) ⟨k_6.1, List.mem_singleton.mp k_6.2⟩ (c_X12_become hKp h_12) rfl (pc1 := 37) rfl ?_
      refine ix_aload_n (i := 0) (j := 0) X (ix_tb_at tb_X12_force 19 rfl) rfl rfl (pc1 := 38) rfl ?_
      refine ix_iconst (v := 1) X (ix_tb_at tb_X12_force 20 rfl) (by decide) (pc1 := 39) rfl ?_
      obtain ⟨d_13, h_14, h⟩ := ix_bd1_ex h
      refine ix_callV (As := [.int 1]) (rest := []) (ci := 11) (T := TX12) (nf := 116) X mf_X12_find mi_X12_find ms_X12_find rfl (Nat.le_of_ble_eq_true rfl) ml_RX12_493 ⟨Nat.le_of_ble_eq_true rfl, Nat.le_of_ble_eq_true rfl⟩ ⟨Nat.le_of_ble_eq_true rfl, Nat.le_of_ble_eq_true rfl⟩ rfl (Nat.le_of_ble_eq_true rfl) (ix_tb_at tb_X12_force 21 rfl) ⟨k_6.1, List.mem_singleton.mp k_6.2⟩ (c_X12_find hKp h_14) rfl (pc1 := 42) rfl ?_
      refine ix_goto (tgt := 10) X (ix_tb_at tb_X12_force 22 rfl) (by decide) ?_
      refine ix_sub (L1 := [(0, .ref (K.2.2.1 + a0))]) [0] rfl ?_
      exact hrec10  d_13 h
theorem t_X12_force_10 {l : Launch} {p : Program} {e : Env} {s : State} {m : MethodId} {args : Array Value} {below : List Frame} {meth : Method} {c : Code} {K : ix_Cx} (hKp : ix_Kp K) {n : Nat} {z : ix_Z} (X : ix_X p s m args c K cX12_force RX12 1) (hr : meth.sig.returnType = (some .boolean)) (hlk : meth.locks = false)  {a0 : Nat} {r : Int32} {d1 : ix_D2}   {d : ix_D2} (h : f_X12_force_10 n z  a0  d = some (r, d1)) : ix_G p l e (ix_rm 5 116 0 0) s m args below meth c (MQ below (ix_Post K (some (.int r)) (ix_w z d1)) args s 0 0 (ix_A K)) K 1 0 0 10 [(0, .ref (K.2.2.1 + a0))] [] (ix_w z d) := by
  have key : ∀ (f : Nat)  (d : ix_D2), ix_fix (b_X12_force_10 n z  a0) (fun  _ => none) f  d = some (r, d1) → ix_G p l e (ix_rm 5 116 0 0) s m args below meth c (MQ below (ix_Post K (some (.int r)) (ix_w z d1)) args s 0 0 (ix_A K)) K 1 0 0 10 [(0, .ref (K.2.2.1 + a0))] [] (ix_w z d) := by
    intro f
    induction f with
    | zero =>
      intro  d h
      have h : (none : Option (Int32 × ix_D2)) = some (r, d1) := h
      cases h
    | succ f ih =>
      intro  d h
      exact tb_X12_force_10 hKp X hr hlk (rec10 := ix_fix (b_X12_force_10 n z  a0) (fun  _ => none) f)  ih h
  exact key n  d h
set_option maxRecDepth 20000 in
theorem c_X12_force {l : Launch} {K : ix_Cx} (hKp : ix_Kp K) {n : Nat} {z : ix_Z} {a0 : Nat} {d : ix_D2} {r : Int32} {d1 : ix_D2} (h : f_X12_force n z a0 d = some (r, d1)) : ix_M l K yX12_force cX12_force 1 (some .boolean) 5 116 0 0 [.ref (K.2.2.1 + a0)] (ix_w z d) (some (.int r)) (ix_w z d1) := by
  refine ix_met mf_X12_force hKp (Nat.le_of_ble_eq_true rfl) ?_
  intro p e s m args below meth c hr hlk hnm X
  have X : ix_X p s m args c K cX12_force RX12 1 := X
  show ix_G p l e (ix_rm 5 116 0 0) s m args below meth c (MQ below (ix_Post K (some (.int r)) (ix_w z d1)) args s 0 0 (ix_A K)) K 1 0 0 0 [(0, .ref (K.2.2.1 + a0))] [] (ix_w z d)
  unfold f_X12_force at h
  refine ix_aload_n (i := 0) (j := 0) X (ix_tb_at tb_X12_force 0 rfl) rfl rfl (pc1 := 1) rfl ?_
  refine ix_iconst (v := 1) X (ix_tb_at tb_X12_force 1 rfl) (by decide) (pc1 := 2) rfl ?_
  obtain ⟨k_3, h⟩ := ix_ck_some h
  obtain ⟨d_1, h_2, h⟩ := ix_bd1_ex h
  refine ix_callV (As := [.int 1]) (rest := []) (ci := 11) (T := TX12) (nf := 116) X mf_X12_prepare mi_X12_prepare ms_X12_prepare rfl (Nat.le_of_ble_eq_true rfl) ml_RX12_581 ⟨Nat.le_of_ble_eq_true rfl, Nat.le_of_ble_eq_true rfl⟩ ⟨Nat.le_of_ble_eq_true rfl, Nat.le_of_ble_eq_true rfl⟩ rfl (Nat.le_of_ble_eq_true rfl) (ix_tb_at tb_X12_force 2 rfl) ⟨k_3.1, List.mem_singleton.mp k_3.2⟩ (c_X12_prepare hKp h_2) rfl (pc1 := 5) rfl ?_
  refine ix_aload_n (i := 0) (j := 0) X (ix_tb_at tb_X12_force 3 rfl) rfl rfl (pc1 := 6) rfl ?_
  refine ix_iconst (v := 1) X (ix_tb_at tb_X12_force 4 rfl) (by decide) (pc1 := 7) rfl ?_
  obtain ⟨d_4, h_5, h⟩ := ix_bd1_ex h
  refine ix_callV (As := [.int 1]) (rest := []) (ci := 11) (T := TX12) (nf := 116) X mf_X12_find mi_X12_find ms_X12_find rfl (Nat.le_of_ble_eq_true rfl) ml_RX12_493 ⟨Nat.le_of_ble_eq_true rfl, Nat.le_of_ble_eq_true rfl⟩ ⟨Nat.le_of_ble_eq_true rfl, Nat.le_of_ble_eq_true rfl⟩ rfl (Nat.le_of_ble_eq_true rfl) (ix_tb_at tb_X12_force 5 rfl) ⟨k_3.1, List.mem_singleton.mp k_3.2⟩ (c_X12_find hKp h_5) rfl (pc1 := 10) rfl ?_
  refine ix_sub (L1 := [(0, .ref (K.2.2.1 + a0))]) [0] rfl ?_
  exact t_X12_force_10 hKp X hr hlk  h
def tab_X12_forced : List (Nat × Instr × Nat) := [(0, .aload_n 0, 1), (1, .invokevirtual 636, 3), (4, .ifCond .eq 12, 3), (7, .aload_n 0, 1), (8, .getfield 156, 3), (11, .iconst 1, 1), (12, .iaload, 1), (13, .goto 6, 3), (16, .sipush (-1005), 3), (19, .ireturn, 1)]
theorem tb_X12_forced : ix_tab cX12_forced tab_X12_forced := by
  unfold ix_tab
  decide +kernel
noncomputable def f_X12_forced (n : Nat) (z : ix_Z) (a0 : Nat) (d : ix_D2) : Option (Int32 × ix_D2) :=
  ix_ck (ix_ok z [11] a0) (ix_bd2 (f_X12_force n z a0 d) (fun r_4 d_1 => ix_if (r_4 = 0) (some ((-1005), d_1)) (ix_bd1 (z.1 a0 76) (fun b_6 => ix_ck (ix_ix z 20 b_6 1) (some (d_1.1 b_6 (ix_n 1), d_1))))))
set_option maxRecDepth 20000 in
theorem c_X12_forced {l : Launch} {K : ix_Cx} (hKp : ix_Kp K) {n : Nat} {z : ix_Z} {a0 : Nat} {d : ix_D2} {r : Int32} {d1 : ix_D2} (h : f_X12_forced n z a0 d = some (r, d1)) : ix_M l K yX12_forced cX12_forced 1 (some .int) 6 136 0 0 [.ref (K.2.2.1 + a0)] (ix_w z d) (some (.int r)) (ix_w z d1) := by
  refine ix_met mf_X12_forced hKp (Nat.le_of_ble_eq_true rfl) ?_
  intro p e s m args below meth c hr hlk hnm X
  have X : ix_X p s m args c K cX12_forced RX12 1 := X
  show ix_G p l e (ix_rm 6 136 0 0) s m args below meth c (MQ below (ix_Post K (some (.int r)) (ix_w z d1)) args s 0 0 (ix_A K)) K 1 0 0 0 [(0, .ref (K.2.2.1 + a0))] [] (ix_w z d)
  unfold f_X12_forced at h
  refine ix_aload_n (i := 0) (j := 0) X (ix_tb_at tb_X12_forced 0 rfl) rfl rfl (pc1 := 1) rfl ?_
  obtain ⟨k_3, h⟩ := ix_ck_some h
  obtain ⟨r_4, d_1, h_2, h⟩ := ix_bd2_ex h
  refine ix_callV (As := []) (rest := []) (ci := 11) (T := TX12) (nf := 116) X mf_X12_force mi_X12_force ms_X12_force rfl (Nat.le_of_ble_eq_true rfl) ml_RX12_636 ⟨Nat.le_of_ble_eq_true rfl, Nat.le_of_ble_eq_true rfl⟩ ⟨Nat.le_of_ble_eq_true rfl, Nat.le_of_ble_eq_true rfl⟩ rfl (Nat.le_of_ble_eq_true rfl) (ix_tb_at tb_X12_forced 1 rfl) ⟨k_3.1, List.mem_singleton.mp k_3.2⟩ (c_X12_force hKp h_2) rfl (pc1 := 4) rfl ?_
  refine ix_if_eq (tgt := 16) X (ix_tb_at tb_X12_forced 2 rfl) (by decide) (pc1 := 7) rfl (fun q_5 => ?_) (fun q_5 => ?_)
  · have h := ix_ift q_5 h
    refine ix_sipush (v := (-1005)) X (ix_tb_at tb_X12_forced 8 rfl) (by decide) (pc1 := 19) rfl ?_
    exact ix_iret X hr hlk (ix_r2 (f := fun r => some (.int r)) (g := ix_w z) h) (ix_tb_at tb_X12_forced 9 rfl)
  · have h := ix_iff q_5 h
    refine ix_aload_n (i := 0) (j := 0) X (ix_tb_at tb_X12_forced 3 rfl) rfl rfl (pc1 := 8) rfl ?_
    obtain ⟨b_6, q_7, h⟩ := ix_bd1_ex h
    refine iz_getR X fl_RX12_156 k_3 q_7 (ix_tb_at tb_X12_forced 4 rfl) (pc1 := 11) rfl ?_
    refine ix_iconst (v := 1) X (ix_tb_at tb_X12_forced 5 rfl) (by decide) (pc1 := 12) rfl ?_
    obtain ⟨k_8, h⟩ := ix_ck_some h
    refine iz_iald X k_8 (ix_tb_at tb_X12_forced 6 rfl) (pc1 := 13) rfl ?_
    refine ix_goto (tgt := 19) X (ix_tb_at tb_X12_forced 7 rfl) (by decide) ?_
    exact ix_iret X hr hlk (ix_r2 (f := fun r => some (.int r)) (g := ix_w z) h) (ix_tb_at tb_X12_forced 9 rfl)
def tab_X12_forcedAt : List (Nat × Instr × Nat) := [(0, .aload_n 0, 1), (1, .invokevirtual 636, 3), (4, .istore_n 2, 1), (5, .iload_n 1, 1), (6, .iconst 0, 1), (7, .aload_n 0, 1), (8, .getfield 156, 3), (11, .iconst 1, 1), (12, .iaload, 1), (13, .iconst 1, 1), (14, .isub, 1), (15, .invokestatic 238, 3), (18, .ifCond .eq 16, 3), (21, .aload_n 0, 1), (22, .getfield 153, 3), (25, .sipush 300, 3), (28, .iload_n 1, 1), (29, .iadd, 1), (30, .iaload, 1), (31, .goto 6, 3), (34, .sipush (-1005), 3), (37, .ireturn, 1)]
theorem tb_X12_forcedAt : ix_tab cX12_forcedAt tab_X12_forcedAt := by
  unfold ix_tab
  decide +kernel
noncomputable def f_X12_forcedAt (n : Nat) (z : ix_Z) (a0 : Nat) (x1 : Int32) (d : ix_D2) : Option (Int32 × ix_D2) :=
  ix_ck (ix_ok z [11] a0) (ix_bd2 (f_X12_force n z a0 d) (fun r_4 d_1 => ix_bd1 (z.1 a0 76) (fun b_5 => ix_ck (ix_ix z 20 b_5 1) (ix_bd2 (f_X12_in n z x1 0 ((d_1.1 b_5 (ix_n 1)) - 1) d_1) (fun r_10 d_8 => ix_if (r_10 = 0) (some ((-1005), d_8)) (ix_bd1 (z.1 a0 75) (fun b_12 => ix_ck (ix_ix z 20 b_12 (300 + x1)) (some (d_8.1 b_12 (ix_n (300 + x1)), d_8)))))))))
set_option maxRecDepth 20000 in
theorem c_X12_forcedAt {l : Launch} {K : ix_Cx} (hKp : ix_Kp K) {n : Nat} {z : ix_Z} {a0 : Nat} {x1 : Int32} {d : ix_D2} {r : Int32} {d1 : ix_D2} (h : f_X12_forcedAt n z a0 x1 d = some (r, d1)) : ix_M l K yX12_forcedAt cX12_forcedAt 3 (some .int) 6 136 0 0 [.ref (K.2.2.1 + a0), .int x1] (ix_w z d) (some (.int r)) (ix_w z d1) := by
  refine ix_met mf_X12_forcedAt hKp (Nat.le_of_ble_eq_true rfl) ?_
  intro p e s m args below meth c hr hlk hnm X
  have X : ix_X p s m args c K cX12_forcedAt RX12 3 := X
  show ix_G p l e (ix_rm 6 136 0 0) s m args below meth c (MQ below (ix_Post K (some (.int r)) (ix_w z d1)) args s 0 0 (ix_A K)) K 3 0 0 0 [(0, .ref (K.2.2.1 + a0)), (1, .int x1)] [] (ix_w z d)
  unfold f_X12_forcedAt at h
  refine ix_aload_n (i := 0) (j := 0) X (ix_tb_at tb_X12_forcedAt 0 rfl) rfl rfl (pc1 := 1) rfl ?_
  obtain ⟨k_3, h⟩ := ix_ck_some h
  obtain ⟨r_4, d_1, h_2, h⟩ := ix_bd2_ex h
  refine ix_callV (As := []) (rest := []) (ci := 11) (T := TX12) (nf := 116) X mf_X12_force mi_X12_force ms_X12_force rfl (Nat.le_of_ble_eq_true rfl) ml_RX12_636 ⟨Nat.le_of_ble_eq_true rfl, Nat.le_of_ble_eq_true rfl⟩ ⟨Nat.le_of_ble_eq_true rfl, Nat.le_of_ble_eq_true rfl⟩ rfl (Nat.le_of_ble_eq_true rfl) (ix_tb_at tb_X12_forcedAt 1 rfl) ⟨k_3.1, List.mem_singleton.mp k_3.2⟩ (c_X12_force hKp h_2) rfl (pc1 := 4) rfl ?_
  refine ix_istore_n (i := 2) (L1 := [(2, .int r_4), (0, .ref (K.2.2.1 + a0)), (1, .int x1)]) X (ix_tb_at tb_X12_forcedAt 2 rfl) rfl (Nat.le_of_ble_eq_true rfl) rfl (pc1 := 5) rfl ?_
  refine ix_iload_n (i := 1) (j := 2) X (ix_tb_at tb_X12_forcedAt 3 rfl) rfl rfl (pc1 := 6) rfl ?_
  refine ix_iconst (v := 0) X (ix_tb_at tb_X12_forcedAt 4 rfl) (by decide) (pc1 := 7) rfl ?_
  refine ix_aload_n (i := 0) (j := 1) X (ix_tb_at tb_X12_forcedAt 5 rfl) rfl rfl (pc1 := 8) rfl ?_
  obtain ⟨b_5, q_6, h⟩ := ix_bd1_ex h
  refine iz_getR X fl_RX12_156 k_3 q_6 (ix_tb_at tb_X12_forcedAt 6 rfl) (pc1 := 11) rfl ?_
  refine ix_iconst (v := 1) X (ix_tb_at tb_X12_forcedAt 7 rfl) (by decide) (pc1 := 12) rfl ?_
  obtain ⟨k_7, h⟩ := ix_ck_some h
  refine iz_iald X k_7 (ix_tb_at tb_X12_forcedAt 8 rfl) (pc1 := 13) rfl ?_
  refine ix_iconst (v := 1) X (ix_tb_at tb_X12_forcedAt 9 rfl) (by decide) (pc1 := 14) rfl ?_
  refine ix_isub X (ix_tb_at tb_X12_forcedAt 10 rfl) (pc1 := 15) rfl ?_
  obtain ⟨r_10, d_8, h_9, h⟩ := ix_bd2_ex h
  refine ix_callS (As := [.int x1, .int 0, .int ((d_1.1 b_5 (ix_n 1)) - 1)]) (rest := []) X mf_X12_in st_X12_in ml_RX12_238 ⟨Nat.le_of_ble_eq_true rfl, Nat.le_of_ble_eq_true rfl⟩ ⟨Nat.le_of_ble_eq_true rfl, Nat.le_of_ble_eq_true rfl⟩ rfl (Nat.le_of_ble_eq_true rfl) (ix_tb_at tb_X12_forcedAt 11 rfl) (c_X12_in hKp h_9) rfl (pc1 := 18) rfl ?_
  refine ix_if_eq (tgt := 34) X (ix_tb_at tb_X12_forcedAt 12 rfl) (by decide) (pc1 := 21) rfl (fun q_11 => ?_) (fun q_11 => ?_)
  · have h := ix_ift q_11 h
    refine ix_sipush (v := (-1005)) X (ix_tb_at tb_X12_forcedAt 20 rfl) (by decide) (pc1 := 37) rfl ?_
    exact ix_iret X hr hlk (ix_r2 (f := fun r => some (.int r)) (g := ix_w z) h) (ix_tb_at tb_X12_forcedAt 21 rfl)
  · have h := ix_iff q_11 h
    refine ix_aload_n (i := 0) (j := 1) X (ix_tb_at tb_X12_forcedAt 13 rfl) rfl rfl (pc1 := 22) rfl ?_
    obtain ⟨b_12, q_13, h⟩ := ix_bd1_ex h
    refine iz_getR X fl_RX12_153 k_3 q_13 (ix_tb_at tb_X12_forcedAt 14 rfl) (pc1 := 25) rfl ?_
    refine ix_sipush (v := 300) X (ix_tb_at tb_X12_forcedAt 15 rfl) (by decide) (pc1 := 28) rfl ?_
    refine ix_iload_n (i := 1) (j := 2) X (ix_tb_at tb_X12_forcedAt 16 rfl) rfl rfl (pc1 := 29) rfl ?_
    refine ix_iadd X (ix_tb_at tb_X12_forcedAt 17 rfl) (pc1 := 30) rfl ?_
    obtain ⟨k_14, h⟩ := ix_ck_some h
    refine iz_iald X k_14 (ix_tb_at tb_X12_forcedAt 18 rfl) (pc1 := 31) rfl ?_
    refine ix_goto (tgt := 37) X (ix_tb_at tb_X12_forcedAt 19 rfl) (by decide) ?_
    exact ix_iret X hr hlk (ix_r2 (f := fun r => some (.int r)) (g := ix_w z) h) (ix_tb_at tb_X12_forcedAt 21 rfl)
def tab_X12_why : List (Nat × Instr × Nat) := [(0, .aload_n 0, 1), (1, .iload_n 1, 1), (2, .invokevirtual 433, 3), (5, .ifCond .ne 11, 3), (8, .aload_n 0, 1), (9, .sipush (-1001), 3), (12, .invokevirtual 242, 3), (15, .ireturn, 1), (16, .aload_n 0, 1), (17, .invokevirtual 636, 3), (20, .istore_n 2, 1), (21, .aload_n 0, 1), (22, .getfield 134, 3), (25, .sipush 301, 3), (28, .iload_n 1, 1), (29, .iadd, 1), (30, .iaload, 1), (31, .iconst 2, 1), (32, .if_icmp .ne 9, 3), (35, .sipush (-1005), 3), (38, .goto 13, 3), (41, .aload_n 0, 1), (42, .getfield 140, 3), (45, .sipush 301, 3), (48, .iload_n 1, 1), (49, .iadd, 1), (50, .iaload, 1), (51, .ireturn, 1)]
theorem tb_X12_why : ix_tab cX12_why tab_X12_why := by
  unfold ix_tab
  decide +kernel
noncomputable def f_X12_why (n : Nat) (z : ix_Z) (a0 : Nat) (x1 : Int32) (d : ix_D2) : Option (Int32 × ix_D2) :=
  ix_ck (ix_ok z [11] a0) (ix_bd2 (f_X12_isName n z a0 x1 d) (fun r_4 d_1 => ix_if (r_4 = 0) (ix_bd2 (f_X12_fail n z a0 ((-1001)) d_1) (fun r_18 d_16 => some (r_18, d_16))) (ix_bd2 (f_X12_force n z a0 d_1) (fun r_8 d_6 => ix_bd1 (z.1 a0 69) (fun b_9 => ix_ck (ix_ix z 20 b_9 (301 + x1)) (ix_if (d_6.1 b_9 (ix_n (301 + x1)) = 2) (some ((-1005), d_6)) (ix_bd1 (z.1 a0 71) (fun b_13 => ix_ck (ix_ix z 20 b_13 (301 + x1)) (some (d_6.1 b_13 (ix_n (301 + x1)), d_6))))))))))
set_option maxRecDepth 20000 in
theorem c_X12_why {l : Launch} {K : ix_Cx} (hKp : ix_Kp K) {n : Nat} {z : ix_Z} {a0 : Nat} {x1 : Int32} {d : ix_D2} {r : Int32} {d1 : ix_D2} (h : f_X12_why n z a0 x1 d = some (r, d1)) : ix_M l K yX12_why cX12_why 3 (some .int) 6 136 0 0 [.ref (K.2.2.1 + a0), .int x1] (ix_w z d) (some (.int r)) (ix_w z d1) := by
  refine ix_met mf_X12_why hKp (Nat.le_of_ble_eq_true rfl) ?_
  intro p e s m args below meth c hr hlk hnm X
  have X : ix_X p s m args c K cX12_why RX12 3 := X
  show ix_G p l e (ix_rm 6 136 0 0) s m args below meth c (MQ below (ix_Post K (some (.int r)) (ix_w z d1)) args s 0 0 (ix_A K)) K 3 0 0 0 [(0, .ref (K.2.2.1 + a0)), (1, .int x1)] [] (ix_w z d)
  unfold f_X12_why at h
  refine ix_aload_n (i := 0) (j := 0) X (ix_tb_at tb_X12_why 0 rfl) rfl rfl (pc1 := 1) rfl ?_
  refine ix_iload_n (i := 1) (j := 1) X (ix_tb_at tb_X12_why 1 rfl) rfl rfl (pc1 := 2) rfl ?_
  obtain ⟨k_3, h⟩ := ix_ck_some h
  obtain ⟨r_4, d_1, h_2, h⟩ := ix_bd2_ex h
  refine ix_callV (As := [.int x1]) (rest := []) (ci := 11) (T := TX12) (nf := 116) X mf_X12_isName mi_X12_isName ms_X12_isName rfl (Nat.le_of_ble_eq_true rfl) ml_RX12_433 ⟨Nat.le_of_ble_eq_true rfl, Nat.le_of_ble_eq_true rfl⟩ ⟨Nat.le_of_ble_eq_true rfl, Nat.le_of_ble_eq_true rfl⟩ rfl (Nat.le_of_ble_eq_true rfl) (ix_tb_at tb_X12_why 2 rfl) ⟨k_3.1, List.mem_singleton.mp k_3.2⟩ (c_X12_isName hKp h_2) rfl (pc1 := 5) rfl ?_
  refine ix_if_ne (tgt := 16) X (ix_tb_at tb_X12_why 3 rfl) (by decide) (pc1 := 8) rfl (fun q_5 => ?_) (fun q_5 => ?_)
  · have h := ix_iff q_5 h
    refine ix_aload_n (i := 0) (j := 0) X (ix_tb_at tb_X12_why 8 rfl) rfl rfl (pc1 := 17) rfl ?_
    obtain ⟨r_8, d_6, h_7, h⟩ := ix_bd2_ex h
    refine ix_callV (As := []) (rest := []) (ci := 11) (T := TX12) (nf := 116) X mf_X12_force mi_X12_force ms_X12_force rfl (Nat.le_of_ble_eq_true rfl) ml_RX12_636 ⟨Nat.le_of_ble_eq_true rfl, Nat.le_of_ble_eq_true rfl⟩ ⟨Nat.le_of_ble_eq_true rfl, Nat.le_of_ble_eq_true rfl⟩ rfl (Nat.le_of_ble_eq_true rfl) (ix_tb_at tb_X12_why 9 rfl) ⟨k_3.1, List.mem_singleton.mp k_3.2⟩ (c_X12_force hKp h_7) rfl (pc1 := 20) rfl ?_
    refine ix_istore_n (i := 2) (L1 := [(2, .int r_8), (0, .ref (K.2.2.1 + a0)), (1, .int x1)]) X (ix_tb_at tb_X12_why 10 rfl) rfl (Nat.le_of_ble_eq_true rfl) rfl (pc1 := 21) rfl ?_
    refine ix_aload_n (i := 0) (j := 1) X (ix_tb_at tb_X12_why 11 rfl) rfl rfl (pc1 := 22) rfl ?_
    obtain ⟨b_9, q_10, h⟩ := ix_bd1_ex h
    refine iz_getR X fl_RX12_134 k_3 q_10 (ix_tb_at tb_X12_why 12 rfl) (pc1 := 25) rfl ?_
    refine ix_sipush (v := 301) X (ix_tb_at tb_X12_why 13 rfl) (by decide) (pc1 := 28) rfl ?_
    refine ix_iload_n (i := 1) (j := 2) X (ix_tb_at tb_X12_why 14 rfl) rfl rfl (pc1 := 29) rfl ?_
    refine ix_iadd X (ix_tb_at tb_X12_why 15 rfl) (pc1 := 30) rfl ?_
    obtain ⟨k_11, h⟩ := ix_ck_some h
    refine iz_iald X k_11 (ix_tb_at tb_X12_why 16 rfl) (pc1 := 31) rfl ?_
    refine ix_iconst (v := 2) X (ix_tb_at tb_X12_why 17 rfl) (by decide) (pc1 := 32) rfl ?_
    refine ix_icmp_ne (tgt := 41) X (ix_tb_at tb_X12_why 18 rfl) (by decide) (pc1 := 35) rfl (fun q_12 => ?_) (fun q_12 => ?_)
    · have h := ix_iff q_12 h
      refine ix_aload_n (i := 0) (j := 1) X (ix_tb_at tb_X12_why 21 rfl) rfl rfl (pc1 := 42) rfl ?_
      obtain ⟨b_13, q_14, h⟩ := ix_bd1_ex h
      refine iz_getR X fl_RX12_140 k_3 q_14 (ix_tb_at tb_X12_why 22 rfl) (pc1 := 45) rfl ?_
      refine ix_sipush (v := 301) X (ix_tb_at tb_X12_why 23 rfl) (by decide) (pc1 := 48) rfl ?_
      refine ix_iload_n (i := 1) (j := 2) X (ix_tb_at tb_X12_why 24 rfl) rfl rfl (pc1 := 49) rfl ?_
      refine ix_iadd X (ix_tb_at tb_X12_why 25 rfl) (pc1 := 50) rfl ?_
      obtain ⟨k_15, h⟩ := ix_ck_some h
      refine iz_iald X k_15 (ix_tb_at tb_X12_why 26 rfl) (pc1 := 51) rfl ?_
      exact ix_iret X hr hlk (ix_r2 (f := fun r => some (.int r)) (g := ix_w z) h) (ix_tb_at tb_X12_why 27 rfl)
    · have h := ix_ift q_12 h
      refine ix_sipush (v := (-1005)) X (ix_tb_at tb_X12_why 19 rfl) (by decide) (pc1 := 38) rfl ?_
      refine ix_goto (tgt := 51) X (ix_tb_at tb_X12_why 20 rfl) (by decide) ?_
      exact ix_iret X hr hlk (ix_r2 (f := fun r => some (.int r)) (g := ix_w z) h) (ix_tb_at tb_X12_why 27 rfl)
  · have h := ix_ift q_5 h
    refine ix_aload_n (i := 0) (j := 0) X (ix_tb_at tb_X12_why 4 rfl) rfl rfl (pc1 := 9) rfl ?_
    refine ix_sipush (v := (-1001)) X (ix_tb_at tb_X12_why 5 rfl) (by decide) (pc1 := 12) rfl ?_
    obtain ⟨r_18, d_16, h_17, h⟩ := ix_bd2_ex h
    refine ix_callV (As := [.int ((-1001))]) (rest := []) (ci := 11) (T := TX12) (nf := 116) X mf_X12_fail mi_X12_fail ms_X12_fail rfl (Nat.le_of_ble_eq_true rfl) ml_RX12_242 ⟨Nat.le_of_ble_eq_true rfl, Nat.le_of_ble_eq_true rfl⟩ ⟨Nat.le_of_ble_eq_true rfl, Nat.le_of_ble_eq_true rfl⟩ rfl (Nat.le_of_ble_eq_true rfl) (ix_tb_at tb_X12_why 6 rfl) ⟨k_3.1, List.mem_singleton.mp k_3.2⟩ (c_X12_fail hKp h_17) rfl (pc1 := 15) rfl ?_
    exact ix_iret X hr hlk (ix_r2 (f := fun r => some (.int r)) (g := ix_w z) h) (ix_tb_at tb_X12_why 7 rfl)
def tab_X12_add : List (Nat × Instr × Nat) := [(0, .aload_n 0, 1), (1, .ldc2_w 639, 3), (4, .aload_n 0, 1), (5, .getfield 641, 3), (8, .lmul, 1), (9, .iload_n 1, 1), (10, .i2l, 1), (11, .ladd, 1), (12, .putfield 641, 3), (15, .return_, 1)]
theorem tb_X12_add : ix_tab cX12_add tab_X12_add := by
  unfold ix_tab
  decide +kernel
noncomputable def f_X12_add (n : Nat) (z : ix_Z) (a0 : Nat) (x1 : Int32) (d : ix_D2) : Option (ix_D2) :=
  ix_ck (ix_ok z [11] a0) (ix_lt (ix_dj d a0 115 ((31 * (d.2 a0 115)) + x1.toInt64)) (fun d_2 => some d_2))
set_option maxRecDepth 20000 in
theorem c_X12_add {l : Launch} {K : ix_Cx} (hKp : ix_Kp K) {n : Nat} {z : ix_Z} {a0 : Nat} {x1 : Int32} {d : ix_D2} {d1 : ix_D2} (h : f_X12_add n z a0 x1 d = some d1) : ix_M l K yX12_add cX12_add 2 (none : Option Jvm.ClassFile.FieldType) 0 0 0 0 [.ref (K.2.2.1 + a0), .int x1] (ix_w z d) none (ix_w z d1) := by
  refine ix_met mf_X12_add hKp (Nat.le_of_ble_eq_true rfl) ?_
  intro p e s m args below meth c hr hlk hnm X
  have X : ix_X p s m args c K cX12_add RX12 2 := X
  show ix_G p l e (ix_rm 0 0 0 0) s m args below meth c (MQ below (ix_Post K none (ix_w z d1)) args s 0 0 (ix_A K)) K 2 0 0 0 [(0, .ref (K.2.2.1 + a0)), (1, .int x1)] [] (ix_w z d)
  unfold f_X12_add at h
  refine ix_aload_n (i := 0) (j := 0) X (ix_tb_at tb_X12_add 0 rfl) rfl rfl (pc1 := 1) rfl ?_
  refine ix_ldc2 (pl := 2462) (v := 31) X (ix_tb_at tb_X12_add 1 rfl) (by decide +kernel) (pc1 := 4) rfl ?_
  refine ix_aload_n (i := 0) (j := 0) X (ix_tb_at tb_X12_add 2 rfl) rfl rfl (pc1 := 5) rfl ?_
  obtain ⟨k_1, h⟩ := ix_ck_some h
  refine iz_getJ X fl_RX12_641 k_1 (ix_tb_at tb_X12_add 3 rfl) (pc1 := 8) rfl ?_
  refine ix_lmul X (ix_tb_at tb_X12_add 4 rfl) (pc1 := 9) rfl ?_
  refine ix_iload_n (i := 1) (j := 1) X (ix_tb_at tb_X12_add 5 rfl) rfl rfl (pc1 := 10) rfl ?_
  refine ix_i2l X (ix_tb_at tb_X12_add 6 rfl) (pc1 := 11) rfl ?_
  refine ix_ladd X (ix_tb_at tb_X12_add 7 rfl) (pc1 := 12) rfl ?_
  obtain ⟨d_2, e_3, h⟩ := ix_lt_ex h
  refine iz_putJ X fp_RX12_641 k_1 (ix_tb_at tb_X12_add 8 rfl) e_3 (pc1 := 15) rfl ?_
  exact ix_vret X hr hlk (ix_r1 (g := ix_w z) h) (ix_tb_at tb_X12_add 9 rfl)
def tab_X12_digest : List (Nat × Instr × Nat) := [(0, .aload_n 0, 1), (1, .ldc2_w 645, 3), (4, .putfield 641, 3), (7, .aload_n 0, 1), (8, .aload_n 0, 1), (9, .getfield 246, 3), (12, .invokevirtual 647, 3), (15, .iconst 1, 1), (16, .istore_n 1, 1), (17, .iload_n 1, 1), (18, .aload_n 0, 1), (19, .getfield 246, 3), (22, .if_icmp .gt 19, 3), (25, .aload_n 0, 1), (26, .aload_n 0, 1), (27, .getfield 7, 3), (30, .iload_n 1, 1), (31, .iaload, 1), (32, .invokevirtual 647, 3), (35, .iinc 1 1, 3), (38, .goto (-21), 3), (41, .iconst 0, 1), (42, .istore_n 1, 1), (43, .iload_n 1, 1), (44, .aload_n 0, 1), (45, .getfield 273, 3), (48, .if_icmp .ge 49, 3), (51, .aload_n 0, 1), (52, .getfield 62, 3), (55, .iload_n 1, 1), (56, .iaload, 1), (57, .istore_n 2, 1), (58, .iload_n 2, 1), (59, .aload_n 0, 1), (60, .getfield 62, 3), (63, .iload_n 1, 1), (64, .iconst 1, 1), (65, .iadd, 1), (66, .iaload, 1), (67, .if_icmp .ge 19, 3), (70, .aload_n 0, 1), (71, .aload_n 0, 1), (72, .getfield 65, 3), (75, .iload_n 2, 1), (76, .iaload, 1), (77, .invokevirtual 647, 3), (80, .iinc 2 1, 3), (83, .goto (-25), 3), (86, .aload_n 0, 1), (87, .iconst 0, 1), (88, .invokevirtual 647, 3), (91, .iinc 1 1, 3), (94, .goto (-51), 3), (97, .iconst 0, 1), (98, .istore_n 1, 1), (99, .iload_n 1, 1), (100, .aload_n 0, 1), (101, .getfield 427, 3), (104, .if_icmp .ge 19, 3), (107, .aload_n 0, 1), (108, .aload_n 0, 1), (109, .getfield 71, 3), (112, .iload_n 1, 1), (113, .iaload, 1), (114, .invokevirtual 647, 3), (117, .iinc 1 1, 3), (120, .goto (-21), 3), (123, .aload_n 0, 1), (124, .iconst 0, 1), (125, .invokevirtual 647, 3), (128, .iconst 0, 1), (129, .istore_n 1, 1), (130, .iload_n 1, 1), (131, .bipush 40, 2), (133, .if_icmp .ge 65, 3), (136, .aload_n 0, 1), (137, .aload_n 0, 1), (138, .getfield 17, 3), (141, .iload_n 1, 1), (142, .iaload, 1), (143, .ifCond .ge 7, 3), (146, .iconst (-1), 1), (147, .goto 9, 3), (150, .aload_n 0, 1), (151, .getfield 17, 3), (154, .iload_n 1, 1), (155, .iaload, 1), (156, .invokevirtual 647, 3), (159, .iconst 0, 1), (160, .istore_n 2, 1), (161, .iload_n 2, 1), (162, .aload_n 0, 1), (163, .getfield 17, 3), (166, .iload_n 1, 1), (167, .iaload, 1), (168, .if_icmp .ge 24, 3), (171, .aload_n 0, 1), (172, .aload_n 0, 1), (173, .getfield 20, 3), (176, .bipush 12, 2), (178, .iload_n 1, 1), (179, .imul, 1), (180, .iload_n 2, 1), (181, .iadd, 1), (182, .iaload, 1), (183, .invokevirtual 647, 3), (186, .iinc 2 1, 3), (189, .goto (-28), 3), (192, .iinc 1 1, 3), (195, .goto (-65), 3), (198, .aload_n 0, 1), (199, .aload_n 0, 1), (200, .getfield 436, 3), (203, .invokevirtual 647, 3), (206, .aload_n 0, 1), (207, .aload_n 0, 1), (208, .getfield 439, 3), (211, .invokevirtual 647, 3), (214, .iconst 1, 1), (215, .istore_n 1, 1), (216, .iload_n 1, 1), (217, .aload_n 0, 1), (218, .getfield 246, 3), (221, .if_icmp .gt 27, 3), (224, .aload_n 0, 1), (225, .aload_n 0, 1), (226, .getfield 13, 3), (229, .iload_n 1, 1), (230, .baload, 1), (231, .ifCond .eq 7, 3), (234, .iconst 1, 1), (235, .goto 4, 3), (238, .iconst 0, 1), (239, .invokevirtual 647, 3), (242, .iinc 1 1, 3), (245, .goto (-29), 3), (248, .aload_n 0, 1), (249, .aload_n 0, 1), (250, .getfield 374, 3), (253, .invokevirtual 647, 3), (256, .aload_n 0, 1), (257, .getfield 641, 3), (260, .lreturn, 1)]
theorem tb_X12_digest : ix_tab cX12_digest tab_X12_digest := by
  unfold ix_tab
  decide +kernel
noncomputable def f_X12_digest_239 (n : Nat) (z : ix_Z) (rec216 : Int32 → ix_D2 → Option (Int64 × ix_D2)) (a0 : Nat) (x1 : Int32) (s0 : Int32) (s1 : Nat) (d : ix_D2) : Option (Int64 × ix_D2) :=
  ix_ck (ix_ok z [11] s1) (ix_bd1 (f_X12_add n z s1 s0 d) (fun d_28 => ix_lt (x1 + 1) (fun x1_31 => rec216 x1_31 d_28)))
noncomputable def b_X12_digest_216 (n : Nat) (z : ix_Z)  (a0 : Nat) (rec216 : Int32 → ix_D2 → Option (Int64 × ix_D2)) (x1 : Int32) (d : ix_D2) : Option (Int64 × ix_D2) :=
  ix_ck (ix_ok z [11] a0) (ix_if (d.1 a0 1 < x1) (ix_bd1 (f_X12_add n z a0 (d.1 a0 32) d) (fun d_22 => some (d_22.2 a0 115, d_22))) (ix_bd1 (z.1 a0 3) (fun b_24 => ix_ck (ix_ix z 22 b_24 x1) (ix_if (d.1 b_24 (ix_n x1) = 0) (f_X12_digest_239 n z rec216 a0 x1 0 a0 d) (f_X12_digest_239 n z rec216 a0 x1 1 a0 d)))))
noncomputable def f_X12_digest_216 (n : Nat) (z : ix_Z)  (a0 : Nat) (x1 : Int32) (d : ix_D2) : Option (Int64 × ix_D2) := ix_fix (b_X12_digest_216 n z  a0) (fun _ _ => none) n x1 d
noncomputable def b_X12_digest_161 (n : Nat) (z : ix_Z) (rec130 : Int32 → ix_D2 → Option (Int64 × ix_D2)) (a0 : Nat) (x1 : Int32) (rec161 : Int32 → ix_D2 → Option (Int64 × ix_D2)) (x2 : Int32) (d : ix_D2) : Option (Int64 × ix_D2) :=
  ix_ck (ix_ok z [11] a0) (ix_bd1 (z.1 a0 5) (fun b_42 => ix_ck (ix_ix z 20 b_42 x1) (ix_if (d.1 b_42 (ix_n x1) ≤ x2) (ix_lt (x1 + 1) (fun x1_46 => rec130 x1_46 d)) (ix_bd1 (z.1 a0 6) (fun b_48 => ix_ck (ix_ix z 20 b_48 ((12 * x1) + x2)) (ix_bd1 (f_X12_add n z a0 (d.1 b_48 (ix_n ((12 * x1) + x2))) d) (fun d_51 => ix_lt (x2 + 1) (fun x2_53 => rec161 x2_53 d_51))))))))
noncomputable def f_X12_digest_161 (n : Nat) (z : ix_Z) (rec130 : Int32 → ix_D2 → Option (Int64 × ix_D2)) (a0 : Nat) (x1 : Int32) (x2 : Int32) (d : ix_D2) : Option (Int64 × ix_D2) := ix_fix (b_X12_digest_161 n z rec130 a0 x1) (fun _ _ => none) n x2 d
noncomputable def f_X12_digest_156 (n : Nat) (z : ix_Z) (rec130 : Int32 → ix_D2 → Option (Int64 × ix_D2)) (a0 : Nat) (x1 : Int32) (s0 : Int32) (s1 : Nat) (d : ix_D2) : Option (Int64 × ix_D2) :=
  ix_ck (ix_ok z [11] s1) (ix_bd1 (f_X12_add n z s1 s0 d) (fun d_38 => f_X12_digest_161 n z rec130 a0 x1 0 d_38))
noncomputable def b_X12_digest_130 (n : Nat) (z : ix_Z)  (a0 : Nat) (rec130 : Int32 → ix_D2 → Option (Int64 × ix_D2)) (x1 : Int32) (d : ix_D2) : Option (Int64 × ix_D2) :=
  ix_if (40 ≤ x1) (ix_ck (ix_ok z [11] a0) (ix_bd1 (f_X12_add n z a0 (d.1 a0 30) d) (fun d_16 => ix_bd1 (f_X12_add n z a0 (d_16.1 a0 31) d_16) (fun d_18 => f_X12_digest_216 n z  a0 1 d_18)))) (ix_ck (ix_ok z [11] a0) (ix_bd1 (z.1 a0 5) (fun b_34 => ix_ck (ix_ix z 20 b_34 x1) (ix_if (0 ≤ d.1 b_34 (ix_n x1)) (f_X12_digest_156 n z rec130 a0 x1 (d.1 b_34 (ix_n x1)) a0 d) (f_X12_digest_156 n z rec130 a0 x1 ((-1)) a0 d)))))
noncomputable def f_X12_digest_130 (n : Nat) (z : ix_Z)  (a0 : Nat) (x1 : Int32) (d : ix_D2) : Option (Int64 × ix_D2) := ix_fix (b_X12_digest_130 n z  a0) (fun _ _ => none) n x1 d
noncomputable def b_X12_digest_99 (n : Nat) (z : ix_Z)  (a0 : Nat) (rec99 : Int32 → ix_D2 → Option (Int64 × ix_D2)) (x1 : Int32) (d : ix_D2) : Option (Int64 × ix_D2) :=
  ix_ck (ix_ok z [11] a0) (ix_if (d.1 a0 29 ≤ x1) (ix_bd1 (f_X12_add n z a0 0 d) (fun d_12 => f_X12_digest_130 n z  a0 0 d_12)) (ix_bd1 (z.1 a0 28) (fun b_55 => ix_ck (ix_ix z 20 b_55 x1) (ix_bd1 (f_X12_add n z a0 (d.1 b_55 (ix_n x1)) d) (fun d_58 => ix_lt (x1 + 1) (fun x1_60 => rec99 x1_60 d_58))))))
noncomputable def f_X12_digest_99 (n : Nat) (z : ix_Z)  (a0 : Nat) (x1 : Int32) (d : ix_D2) : Option (Int64 × ix_D2) := ix_fix (b_X12_digest_99 n z  a0) (fun _ _ => none) n x1 d
noncomputable def b_X12_digest_58 (n : Nat) (z : ix_Z) (rec43 : Int32 → ix_D2 → Option (Int64 × ix_D2)) (a0 : Nat) (x1 : Int32) (rec58 : Int32 → ix_D2 → Option (Int64 × ix_D2)) (x2 : Int32) (d : ix_D2) : Option (Int64 × ix_D2) :=
  ix_ck (ix_ok z [11] a0) (ix_bd1 (z.1 a0 24) (fun b_68 => ix_ck (ix_ix z 20 b_68 (x1 + 1)) (ix_if (d.1 b_68 (ix_n (x1 + 1)) ≤ x2) (ix_bd1 (f_X12_add n z a0 0 d) (fun d_72 => ix_lt (x1 + 1) (fun x1_74 => rec43 x1_74 d_72))) (ix_bd1 (z.1 a0 25) (fun b_76 => ix_ck (ix_ix z 20 b_76 x2) (ix_bd1 (f_X12_add n z a0 (d.1 b_76 (ix_n x2)) d) (fun d_79 => ix_lt (x2 + 1) (fun x2_81 => rec58 x2_81 d_79))))))))
noncomputable def f_X12_digest_58 (n : Nat) (z : ix_Z) (rec43 : Int32 → ix_D2 → Option (Int64 × ix_D2)) (a0 : Nat) (x1 : Int32) (x2 : Int32) (d : ix_D2) : Option (Int64 × ix_D2) := ix_fix (b_X12_digest_58 n z rec43 a0 x1) (fun _ _ => none) n x2 d
noncomputable def b_X12_digest_43 (n : Nat) (z : ix_Z)  (a0 : Nat) (rec43 : Int32 → ix_D2 → Option (Int64 × ix_D2)) (x1 : Int32) (d : ix_D2) : Option (Int64 × ix_D2) :=
  ix_ck (ix_ok z [11] a0) (ix_if (d.1 a0 23 ≤ x1) (f_X12_digest_99 n z  a0 0 d) (ix_bd1 (z.1 a0 24) (fun b_62 => ix_ck (ix_ix z 20 b_62 x1) (ix_lt (d.1 b_62 (ix_n x1)) (fun x2_65 => f_X12_digest_58 n z rec43 a0 x1 x2_65 d)))))
noncomputable def f_X12_digest_43 (n : Nat) (z : ix_Z)  (a0 : Nat) (x1 : Int32) (d : ix_D2) : Option (Int64 × ix_D2) := ix_fix (b_X12_digest_43 n z  a0) (fun _ _ => none) n x1 d
noncomputable def b_X12_digest_17 (n : Nat) (z : ix_Z)  (a0 : Nat) (rec17 : Int32 → ix_D2 → Option (Int64 × ix_D2)) (x1 : Int32) (d : ix_D2) : Option (Int64 × ix_D2) :=
  ix_ck (ix_ok z [11] a0) (ix_if (d.1 a0 1 < x1) (f_X12_digest_43 n z  a0 0 d) (ix_bd1 (z.1 a0 2) (fun b_83 => ix_ck (ix_ix z 20 b_83 x1) (ix_bd1 (f_X12_add n z a0 (d.1 b_83 (ix_n x1)) d) (fun d_86 => ix_lt (x1 + 1) (fun x1_88 => rec17 x1_88 d_86))))))
noncomputable def f_X12_digest_17 (n : Nat) (z : ix_Z)  (a0 : Nat) (x1 : Int32) (d : ix_D2) : Option (Int64 × ix_D2) := ix_fix (b_X12_digest_17 n z  a0) (fun _ _ => none) n x1 d
noncomputable def f_X12_digest (n : Nat) (z : ix_Z) (a0 : Nat) (d : ix_D2) : Option (Int64 × ix_D2) :=
  ix_ck (ix_ok z [11] a0) (ix_lt (ix_dj d a0 115 7) (fun d_2 => ix_bd1 (f_X12_add n z a0 (d_2.1 a0 1) d_2) (fun d_4 => f_X12_digest_17 n z  a0 1 d_4)))
set_option maxRecDepth 20000 in
theorem t_X12_digest_239 {l : Launch} {p : Program} {e : Env} {s : State} {m : MethodId} {args : Array Value} {below : List Frame} {meth : Method} {c : Code} {K : ix_Cx} (hKp : ix_Kp K) {n : Nat} {z : ix_Z} (X : ix_X p s m args c K cX12_digest RX12 3) (hr : meth.sig.returnType = (some .long)) (hlk : meth.locks = false) {rec216 : Int32 → ix_D2 → Option (Int64 × ix_D2)} {a0 : Nat} {x1 : Int32} {s0 : Int32} {s1 : Nat} {r : Int64} {d1 : ix_D2} (hrec216 : ∀ (x1 : Int32) (d : ix_D2), rec216 x1 d = some (r, d1) → ix_G p l e (ix_rm 1 21 0 0) s m args below meth c (MQ below (ix_Post K (some (.long r)) (ix_w z d1)) args s 0 0 (ix_A K)) K 3 0 0 216 [(0, .ref (K.2.2.1 + a0)), (1, .int x1)] [] (ix_w z d)) {d : ix_D2} (h : f_X12_digest_239 n z rec216 a0 x1 s0 s1 d = some (r, d1)) : ix_G p l e (ix_rm 1 21 0 0) s m args below meth c (MQ below (ix_Post K (some (.long r)) (ix_w z d1)) args s 0 0 (ix_A K)) K 3 0 0 239 [(0, .ref (K.2.2.1 + a0)), (1, .int x1)] [.int s0, .ref (K.2.2.1 + s1)] (ix_w z d) := by
  unfold f_X12_digest_239 at h
  obtain ⟨k_30, h⟩ := ix_ck_some h
  obtain ⟨d_28, h_29, h⟩ := ix_bd1_ex h
  refine ix_callV (As := [.int s0]) (rest := []) (ci := 11) (T := TX12) (nf := 116) X mf_X12_add mi_X12_add ms_X12_add rfl (Nat.le_of_ble_eq_true rfl) ml_RX12_647 ⟨Nat.le_of_ble_eq_true rfl, Nat.le_of_ble_eq_true rfl⟩ ⟨Nat.le_of_ble_eq_true rfl, Nat.le_of_ble_eq_true rfl⟩ rfl (Nat.le_of_ble_eq_true rfl) (ix_tb_at tb_X12_digest 133 rfl) ⟨k_30.1, List.mem_singleton.mp k_30.2⟩ (c_X12_add hKp h_29) rfl (pc1 := 242) rfl ?_
  obtain ⟨x1_31, e_32, h⟩ := ix_lt_ex h
  refine ix_iinc (i := 1) (j := 1) (v := x1_31) (L1 := [(1, .int x1_31), (0, .ref (K.2.2.1 + a0))]) X (ix_tb_at tb_X12_digest 134 rfl) rfl (by rw [oi_1]; exact e_32.symm) (Nat.le_of_ble_eq_true rfl) rfl (pc1 := 245) rfl ?_
  refine ix_goto (tgt := 216) X (ix_tb_at tb_X12_digest 135 rfl) (by decide) ?_
  refine ix_sub (L1 := [(0, .ref (K.2.2.1 + a0)), (1, .int x1_31)]) [1, 0] rfl ?_
  exact hrec216 x1_31 d_28 h
set_option maxRecDepth 20000 in
theorem tb_X12_digest_216 {l : Launch} {p : Program} {e : Env} {s : State} {m : MethodId} {args : Array Value} {below : List Frame} {meth : Method} {c : Code} {K : ix_Cx} (hKp : ix_Kp K) {n : Nat} {z : ix_Z} (X : ix_X p s m args c K cX12_digest RX12 3) (hr : meth.sig.returnType = (some .long)) (hlk : meth.locks = false)  {a0 : Nat} {rec216 : Int32 → ix_D2 → Option (Int64 × ix_D2)} {r : Int64} {d1 : ix_D2} (hrec216 : ∀ (x1 : Int32) (d : ix_D2), rec216 x1 d = some (r, d1) → ix_G p l e (ix_rm 1 21 0 0) s m args below meth c (MQ below (ix_Post K (some (.long r)) (ix_w z d1)) args s 0 0 (ix_A K)) K 3 0 0 216 [(0, .ref (K.2.2.1 + a0)), (1, .int x1)] [] (ix_w z d)) {x1 : Int32} {d : ix_D2} (h : b_X12_digest_216 n z  a0 rec216 x1 d = some (r, d1)) : ix_G p l e (ix_rm 1 21 0 0) s m args below meth c (MQ below (ix_Post K (some (.long r)) (ix_w z d1)) args s 0 0 (ix_A K)) K 3 0 0 216 [(0, .ref (K.2.2.1 + a0)), (1, .int x1)] [] (ix_w z d) := by
  unfold b_X12_digest_216 at h
  refine ix_iload_n (i := 1) (j := 1) X (ix_tb_at tb_X12_digest 120 rfl) rfl rfl (pc1 := 217) rfl ?_
  refine ix_aload_n (i := 0) (j := 0) X (ix_tb_at tb_X12_digest 121 rfl) rfl rfl (pc1 := 218) rfl ?_
  obtain ⟨k_20, h⟩ := ix_ck_some h
  refine iz_getI X fl_RX12_246 k_20 (ix_tb_at tb_X12_digest 122 rfl) (pc1 := 221) rfl ?_
  refine ix_icmp_gt (tgt := 248) X (ix_tb_at tb_X12_digest 123 rfl) (by decide) (pc1 := 224) rfl (fun q_21 => ?_) (fun q_21 => ?_)
  · have h := ix_ift q_21 h
    refine ix_aload_n (i := 0) (j := 0) X (ix_tb_at tb_X12_digest 136 rfl) rfl rfl (pc1 := 249) rfl ?_
    refine ix_aload_n (i := 0) (j := 0) X (ix_tb_at tb_X12_digest 137 rfl) rfl rfl (pc1 := 250) rfl ?_
    refine iz_getI X fl_RX12_374 k_20 (ix_tb_at tb_X12_digest 138 rfl) (pc1 := 253) rfl ?_
    obtain ⟨d_22, h_23, h⟩ := ix_bd1_ex h
    refine ix_callV (As := [.int (d.1 a0 32)]) (rest := []) (ci := 11) (T := TX12) (nf := 116) X mf_X12_add mi_X12_add ms_X12_add rfl (Nat.le_of_ble_eq_true rfl) ml_RX12_647 ⟨Nat.le_of_ble_eq_true rfl, Nat.le_of_ble_eq_true rfl⟩ ⟨Nat.le_of_ble_eq_true rfl, Nat.le_of_ble_eq_true rfl⟩ rfl (Nat.le_of_ble_eq_true rfl) (ix_tb_at tb_X12_digest 139 rfl) ⟨k_20.1, List.mem_singleton.mp k_20.2⟩ (c_X12_add hKp h_23) rfl (pc1 := 256) rfl ?_
    refine ix_aload_n (i := 0) (j := 0) X (ix_tb_at tb_X12_digest 140 rfl) rfl rfl (pc1 := 257) rfl ?_
    refine iz_getJ X fl_RX12_641 k_20 (ix_tb_at tb_X12_digest 141 rfl) (pc1 := 260) rfl ?_
    exact ix_lret X hr hlk (ix_r2 (f := fun r => some (.long r)) (g := ix_w z) h) (ix_tb_at tb_X12_digest 142 rfl)
  · have h := ix_iff q_21 h
    refine ix_aload_n (i := 0) (j := 0) X (ix_tb_at tb_X12_digest 124 rfl) rfl rfl (pc1 := 225) rfl ?_
    refine ix_aload_n (i := 0) (j := 0) X (ix_tb_at tb_X12_digest 125 rfl) rfl rfl (pc1 := 226) rfl ?_
    obtain ⟨b_24, q_25, h⟩ := ix_bd1_ex h
    refine iz_getR X fl_RX12_13 k_20 q_25 (ix_tb_at tb_X12_digest 126 rfl) (pc1 := 229) rfl ?_
    refine ix_iload_n (i := 1) (j := 1) X (ix_tb_at tb_X12_digest 127 rfl) rfl rfl (pc1 := 230) rfl ?_
    obtain ⟨k_26, h⟩ := ix_ck_some h
    refine iz_zald X k_26 (ix_tb_at tb_X12_digest 128 rfl) (pc1 := 231) rfl ?_
    refine ix_if_eq (tgt := 238) X (ix_tb_at tb_X12_digest 129 rfl) (by decide) (pc1 := 234) rfl (fun q_27 => ?_) (fun q_27 => ?_)
    · have h := ix_ift q_27 h
      refine ix_iconst (v := 0) X (ix_tb_at tb_X12_digest 132 rfl) (by decide) (pc1 := 239) rfl ?_
      refine ix_sub (L1 := [(0, .ref (K.2.2.1 + a0)), (1, .int x1)]) [0, 1] rfl ?_
      exact t_X12_digest_239 hKp X hr hlk hrec216 h
    · have h := ix_iff q_27 h
      refine ix_iconst (v := 1) X (ix_tb_at tb_X12_digest 130 rfl) (by decide) (pc1 := 235) rfl ?_
      refine ix_goto (tgt := 239) X (ix_tb_at tb_X12_digest 131 rfl) (by decide) ?_
      refine ix_sub (L1 := [(0, .ref (K.2.2.1 + a0)), (1, .int x1)]) [0, 1] rfl ?_
      exact t_X12_digest_239 hKp X hr hlk hrec216 h
theorem t_X12_digest_216 {l : Launch} {p : Program} {e : Env} {s : State} {m : MethodId} {args : Array Value} {below : List Frame} {meth : Method} {c : Code} {K : ix_Cx} (hKp : ix_Kp K) {n : Nat} {z : ix_Z} (X : ix_X p s m args c K cX12_digest RX12 3) (hr : meth.sig.returnType = (some .long)) (hlk : meth.locks = false)  {a0 : Nat} {r : Int64} {d1 : ix_D2}  {x1 : Int32} {d : ix_D2} (h : f_X12_digest_216 n z  a0 x1 d = some (r, d1)) : ix_G p l e (ix_rm 1 21 0 0) s m args below meth c (MQ below (ix_Post K (some (.long r)) (ix_w z d1)) args s 0 0 (ix_A K)) K 3 0 0 216 [(0, .ref (K.2.2.1 + a0)), (1, .int x1)] [] (ix_w z d) := by
  have key : ∀ (f : Nat) (x1 : Int32) (d : ix_D2), ix_fix (b_X12_digest_216 n z  a0) (fun _ _ => none) f x1 d = some (r, d1) → ix_G p l e (ix_rm 1 21 0 0) s m args below meth c (MQ below (ix_Post K (some (.long r)) (ix_w z d1)) args s 0 0 (ix_A K)) K 3 0 0 216 [(0, .ref (K.2.2.1 + a0)), (1, .int x1)] [] (ix_w z d) := by
    intro f
    induction f with
    | zero =>
      intro x1 d h
      have h : (none : Option (Int64 × ix_D2)) = some (r, d1) := h
      cases h
    | succ f ih =>
      intro x1 d h
      exact tb_X12_digest_216 hKp X hr hlk (rec216 := ix_fix (b_X12_digest_216 n z  a0) (fun _ _ => none) f)  ih h
  exact key n x1 d h
set_option maxRecDepth 20000 in
theorem tb_X12_digest_161 {l : Launch} {p : Program} {e : Env} {s : State} {m : MethodId} {args : Array Value} {below : List Frame} {meth : Method} {c : Code} {K : ix_Cx} (hKp : ix_Kp K) {n : Nat} {z : ix_Z} (X : ix_X p s m args c K cX12_digest RX12 3) (hr : meth.sig.returnType = (some .long)) (hlk : meth.locks = false) {rec130 : Int32 → ix_D2 → Option (Int64 × ix_D2)} {a0 : Nat} {x1 : Int32} {rec161 : Int32 → ix_D2 → Option (Int64 × ix_D2)} {r : Int64} {d1 : ix_D2} (hrec130 : ∀ (x1 : Int32) (d : ix_D2), rec130 x1 d = some (r, d1) → ix_G p l e (ix_rm 1 21 0 0) s m args below meth c (MQ below (ix_Post K (some (.long r)) (ix_w z d1)) args s 0 0 (ix_A K)) K 3 0 0 130 [(0, .ref (K.2.2.1 + a0)), (1, .int x1)] [] (ix_w z d)) (hrec161 : ∀ (x2 : Int32) (d : ix_D2), rec161 x2 d = some (r, d1) → ix_G p l e (ix_rm 1 21 0 0) s m args below meth c (MQ below (ix_Post K (some (.long r)) (ix_w z d1)) args s 0 0 (ix_A K)) K 3 0 0 161 [(0, .ref (K.2.2.1 + a0)), (1, .int x1), (2, .int x2)] [] (ix_w z d)) {x2 : Int32} {d : ix_D2} (h : b_X12_digest_161 n z rec130 a0 x1 rec161 x2 d = some (r, d1)) : ix_G p l e (ix_rm 1 21 0 0) s m args below meth c (MQ below (ix_Post K (some (.long r)) (ix_w z d1)) args s 0 0 (ix_A K)) K 3 0 0 161 [(0, .ref (K.2.2.1 + a0)), (1, .int x1), (2, .int x2)] [] (ix_w z d) := by
  unfold b_X12_digest_161 at h
  refine ix_iload_n (i := 2) (j := 2) X (ix_tb_at tb_X12_digest 90 rfl) rfl rfl (pc1 := 162) rfl ?_
  refine ix_aload_n (i := 0) (j := 0) X (ix_tb_at tb_X12_digest 91 rfl) rfl rfl (pc1 := 163) rfl ?_
  obtain ⟨k_41, h⟩ := ix_ck_some h
  obtain ⟨b_42, q_43, h⟩ := ix_bd1_ex h
  refine iz_getR X fl_RX12_17 k_41 q_43 (ix_tb_at tb_X12_digest 92 rfl) (pc1 := 166) rfl ?_
  refine ix_iload_n (i := 1) (j := 1) X (ix_tb_at tb_X12_digest 93 rfl) rfl rfl (pc1 := 167) rfl ?_
  obtain ⟨k_44, h⟩ := ix_ck_some h
  refine iz_iald X k_44 (ix_tb_at tb_X12_digest 94 rfl) (pc1 := 168) rfl ?_
  refine ix_icmp_ge (tgt := 192) X (ix_tb_at tb_X12_digest 95 rfl) (by decide) (pc1 := 171) rfl (fun q_45 => ?_) (fun q_45 => ?_)
  · have h := ix_ift q_45 h
    obtain ⟨x1_46, e_47, h⟩ := ix_lt_ex h
    refine ix_iinc (i := 1) (j := 1) (v := x1_46) (L1 := [(1, .int x1_46), (0, .ref (K.2.2.1 + a0)), (2, .int x2)]) X (ix_tb_at tb_X12_digest 108 rfl) rfl (by rw [oi_1]; exact e_47.symm) (Nat.le_of_ble_eq_true rfl) rfl (pc1 := 195) rfl ?_
    refine ix_goto (tgt := 130) X (ix_tb_at tb_X12_digest 109 rfl) (by decide) ?_
    refine ix_sub (L1 := [(0, .ref (K.2.2.1 + a0)), (1, .int x1_46)]) [1, 0] rfl ?_
    exact hrec130 x1_46 d h
  · have h := ix_iff q_45 h
    refine ix_aload_n (i := 0) (j := 0) X (ix_tb_at tb_X12_digest 96 rfl) rfl rfl (pc1 := 172) rfl ?_
    refine ix_aload_n (i := 0) (j := 0) X (ix_tb_at tb_X12_digest 97 rfl) rfl rfl (pc1 := 173) rfl ?_
    obtain ⟨b_48, q_49, h⟩ := ix_bd1_ex h
    refine iz_getR X fl_RX12_20 k_41 q_49 (ix_tb_at tb_X12_digest 98 rfl) (pc1 := 176) rfl ?_
    refine ix_bipush (v := 12) X (ix_tb_at tb_X12_digest 99 rfl) (by decide) (pc1 := 178) rfl ?_
    refine ix_iload_n (i := 1) (j := 1) X (ix_tb_at tb_X12_digest 100 rfl) rfl rfl (pc1 := 179) rfl ?_
    refine ix_imul X (ix_tb_at tb_X12_digest 101 rfl) (pc1 := 180) rfl ?_
    refine ix_iload_n (i := 2) (j := 2) X (ix_tb_at tb_X12_digest 102 rfl) rfl rfl (pc1 := 181) rfl ?_
    refine ix_iadd X (ix_tb_at tb_X12_digest 103 rfl) (pc1 := 182) rfl ?_
    obtain ⟨k_50, h⟩ := ix_ck_some h
    refine iz_iald X k_50 (ix_tb_at tb_X12_digest 104 rfl) (pc1 := 183) rfl ?_
    obtain ⟨d_51, h_52, h⟩ := ix_bd1_ex h
    refine ix_callV (As := [.int (d.1 b_48 (ix_n ((12 * x1) + x2)))]) (rest := []) (ci := 11) (T := TX12) (nf := 116) X mf_X12_add mi_X12_add ms_X12_add rfl (Nat.le_of_ble_eq_true rfl) ml_RX12_647 ⟨Nat.le_of_ble_eq_true rfl, Nat.le_of_ble_eq_true rfl⟩ ⟨Nat.le_of_ble_eq_true rfl, Nat.le_of_ble_eq_true rfl⟩ rfl (Nat.le_of_ble_eq_true rfl) (ix_tb_at tb_X12_digest 105 rfl) ⟨k_41.1, List.mem_singleton.mp k_41.2⟩ (c_X12_add hKp h_52) rfl (pc1 := 186) rfl ?_
    obtain ⟨x2_53, e_54, h⟩ := ix_lt_ex h
    refine ix_iinc (i := 2) (j := 2) (v := x2_53) (L1 := [(2, .int x2_53), (0, .ref (K.2.2.1 + a0)), (1, .int x1)]) X (ix_tb_at tb_X12_digest 106 rfl) rfl (by rw [oi_1]; exact e_54.symm) (Nat.le_of_ble_eq_true rfl) rfl (pc1 := 189) rfl ?_
    refine ix_goto (tgt := 161) X (ix_tb_at tb_X12_digest 107 rfl) (by decide) ?_
    refine ix_sub (L1 := [(0, .ref (K.2.2.1 + a0)), (1, .int x1), (2, .int x2_53)]) [1, 2, 0] rfl ?_
    exact hrec161 x2_53 d_51 h
theorem t_X12_digest_161 {l : Launch} {p : Program} {e : Env} {s : State} {m : MethodId} {args : Array Value} {below : List Frame} {meth : Method} {c : Code} {K : ix_Cx} (hKp : ix_Kp K) {n : Nat} {z : ix_Z} (X : ix_X p s m args c K cX12_digest RX12 3) (hr : meth.sig.returnType = (some .long)) (hlk : meth.locks = false) {rec130 : Int32 → ix_D2 → Option (Int64 × ix_D2)} {a0 : Nat} {x1 : Int32} {r : Int64} {d1 : ix_D2} (hrec130 : ∀ (x1 : Int32) (d : ix_D2), rec130 x1 d = some (r, d1) → ix_G p l e (ix_rm 1 21 0 0) s m args below meth c (MQ below (ix_Post K (some (.long r)) (ix_w z d1)) args s 0 0 (ix_A K)) K 3 0 0 130 [(0, .ref (K.2.2.1 + a0)), (1, .int x1)] [] (ix_w z d)) {x2 : Int32} {d : ix_D2} (h : f_X12_digest_161 n z rec130 a0 x1 x2 d = some (r, d1)) : ix_G p l e (ix_rm 1 21 0 0) s m args below meth c (MQ below (ix_Post K (some (.long r)) (ix_w z d1)) args s 0 0 (ix_A K)) K 3 0 0 161 [(0, .ref (K.2.2.1 + a0)), (1, .int x1), (2, .int x2)] [] (ix_w z d) := by
  have key : ∀ (f : Nat) (x2 : Int32) (d : ix_D2), ix_fix (b_X12_digest_161 n z rec130 a0 x1) (fun _ _ => none) f x2 d = some (r, d1) → ix_G p l e (ix_rm 1 21 0 0) s m args below meth c (MQ below (ix_Post K (some (.long r)) (ix_w z d1)) args s 0 0 (ix_A K)) K 3 0 0 161 [(0, .ref (K.2.2.1 + a0)), (1, .int x1), (2, .int x2)] [] (ix_w z d) := by
    intro f
    induction f with
    | zero =>
      intro x2 d h
      have h : (none : Option (Int64 × ix_D2)) = some (r, d1) := h
      cases h
    | succ f ih =>
      intro x2 d h
      exact tb_X12_digest_161 hKp X hr hlk (rec161 := ix_fix (b_X12_digest_161 n z rec130 a0 x1) (fun _ _ => none) f) hrec130 ih h
  exact key n x2 d h
set_option maxRecDepth 20000 in
theorem t_X12_digest_156 {l : Launch} {p : Program} {e : Env} {s : State} {m : MethodId} {args : Array Value} {below : List Frame} {meth : Method} {c : Code} {K : ix_Cx} (hKp : ix_Kp K) {n : Nat} {z : ix_Z} (X : ix_X p s m args c K cX12_digest RX12 3) (hr : meth.sig.returnType = (some .long)) (hlk : meth.locks = false) {rec130 : Int32 → ix_D2 → Option (Int64 × ix_D2)} {a0 : Nat} {x1 : Int32} {s0 : Int32} {s1 : Nat} {r : Int64} {d1 : ix_D2} (hrec130 : ∀ (x1 : Int32) (d : ix_D2), rec130 x1 d = some (r, d1) → ix_G p l e (ix_rm 1 21 0 0) s m args below meth c (MQ below (ix_Post K (some (.long r)) (ix_w z d1)) args s 0 0 (ix_A K)) K 3 0 0 130 [(0, .ref (K.2.2.1 + a0)), (1, .int x1)] [] (ix_w z d)) {d : ix_D2} (h : f_X12_digest_156 n z rec130 a0 x1 s0 s1 d = some (r, d1)) : ix_G p l e (ix_rm 1 21 0 0) s m args below meth c (MQ below (ix_Post K (some (.long r)) (ix_w z d1)) args s 0 0 (ix_A K)) K 3 0 0 156 [(0, .ref (K.2.2.1 + a0)), (1, .int x1)] [.int s0, .ref (K.2.2.1 + s1)] (ix_w z d) := by
  unfold f_X12_digest_156 at h
  obtain ⟨k_40, h⟩ := ix_ck_some h
  obtain ⟨d_38, h_39, h⟩ := ix_bd1_ex h
  refine ix_callV (As := [.int s0]) (rest := []) (ci := 11) (T := TX12) (nf := 116) X mf_X12_add mi_X12_add ms_X12_add rfl (Nat.le_of_ble_eq_true rfl) ml_RX12_647 ⟨Nat.le_of_ble_eq_true rfl, Nat.le_of_ble_eq_true rfl⟩ ⟨Nat.le_of_ble_eq_true rfl, Nat.le_of_ble_eq_true rfl⟩ rfl (Nat.le_of_ble_eq_true rfl) (ix_tb_at tb_X12_digest 87 rfl) ⟨k_40.1, List.mem_singleton.mp k_40.2⟩ (c_X12_add hKp h_39) rfl (pc1 := 159) rfl ?_
  refine ix_iconst (v := 0) X (ix_tb_at tb_X12_digest 88 rfl) (by decide) (pc1 := 160) rfl ?_
  refine ix_istore_n (i := 2) (L1 := [(2, .int 0), (0, .ref (K.2.2.1 + a0)), (1, .int x1)]) X (ix_tb_at tb_X12_digest 89 rfl) rfl (Nat.le_of_ble_eq_true rfl) rfl (pc1 := 161) rfl ?_
  refine ix_sub (L1 := [(0, .ref (K.2.2.1 + a0)), (1, .int x1), (2, .int 0)]) [1, 2, 0] rfl ?_
  exact t_X12_digest_161 hKp X hr hlk hrec130 h
set_option maxRecDepth 20000 in
theorem tb_X12_digest_130 {l : Launch} {p : Program} {e : Env} {s : State} {m : MethodId} {args : Array Value} {below : List Frame} {meth : Method} {c : Code} {K : ix_Cx} (hKp : ix_Kp K) {n : Nat} {z : ix_Z} (X : ix_X p s m args c K cX12_digest RX12 3) (hr : meth.sig.returnType = (some .long)) (hlk : meth.locks = false)  {a0 : Nat} {rec130 : Int32 → ix_D2 → Option (Int64 × ix_D2)} {r : Int64} {d1 : ix_D2} (hrec130 : ∀ (x1 : Int32) (d : ix_D2), rec130 x1 d = some (r, d1) → ix_G p l e (ix_rm 1 21 0 0) s m args below meth c (MQ below (ix_Post K (some (.long r)) (ix_w z d1)) args s 0 0 (ix_A K)) K 3 0 0 130 [(0, .ref (K.2.2.1 + a0)), (1, .int x1)] [] (ix_w z d)) {x1 : Int32} {d : ix_D2} (h : b_X12_digest_130 n z  a0 rec130 x1 d = some (r, d1)) : ix_G p l e (ix_rm 1 21 0 0) s m args below meth c (MQ below (ix_Post K (some (.long r)) (ix_w z d1)) args s 0 0 (ix_A K)) K 3 0 0 130 [(0, .ref (K.2.2.1 + a0)), (1, .int x1)] [] (ix_w z d) := by
  unfold b_X12_digest_130 at h
  refine ix_iload_n (i := 1) (j := 1) X (ix_tb_at tb_X12_digest 72 rfl) rfl rfl (pc1 := 131) rfl ?_
  refine ix_bipush (v := 40) X (ix_tb_at tb_X12_digest 73 rfl) (by decide) (pc1 := 133) rfl ?_
  refine ix_icmp_ge (tgt := 198) X (ix_tb_at tb_X12_digest 74 rfl) (by decide) (pc1 := 136) rfl (fun q_14 => ?_) (fun q_14 => ?_)
  · have h := ix_ift q_14 h
    refine ix_aload_n (i := 0) (j := 0) X (ix_tb_at tb_X12_digest 110 rfl) rfl rfl (pc1 := 199) rfl ?_
    refine ix_aload_n (i := 0) (j := 0) X (ix_tb_at tb_X12_digest 111 rfl) rfl rfl (pc1 := 200) rfl ?_
    obtain ⟨k_15, h⟩ := ix_ck_some h
    refine iz_getI X fl_RX12_436 k_15 (ix_tb_at tb_X12_digest 112 rfl) (pc1 := 203) rfl ?_
    obtain ⟨d_16, h_17, h⟩ := ix_bd1_ex h
    refine ix_callV (As := [.int (d.1 a0 30)]) (rest := []) (ci := 11) (T := TX12) (nf := 116) X mf_X12_add mi_X12_add ms_X12_add rfl (Nat.le_of_ble_eq_true rfl) ml_RX12_647 ⟨Nat.le_of_ble_eq_true rfl, Nat.le_of_ble_eq_true rfl⟩ ⟨Nat.le_of_ble_eq_true rfl, Nat.le_of_ble_eq_true rfl⟩ rfl (Nat.le_of_ble_eq_true rfl) (ix_tb_at tb_X12_digest 113 rfl) ⟨k_15.1, List.mem_singleton.mp k_15.2⟩ (c_X12_add hKp h_17) rfl (pc1 := 206) rfl ?_
    refine ix_aload_n (i := 0) (j := 0) X (ix_tb_at tb_X12_digest 114 rfl) rfl rfl (pc1 := 207) rfl ?_
    refine ix_aload_n (i := 0) (j := 0) X (ix_tb_at tb_X12_digest 115 rfl) rfl rfl (pc1 := 208) rfl ?_
    refine iz_getI X fl_RX12_439 k_15 (ix_tb_at tb_X12_digest 116 rfl) (pc1 := 211) rfl ?_
    obtain ⟨d_18, h_19, h⟩ := ix_bd1_ex h
    refine ix_callV (As := [.int (d_16.1 a0 31)]) (rest := []) (ci := 11) (T := TX12) (nf := 116) X mf_X12_add mi_X12_add ms_X12_add rfl (Nat.le_of_ble_eq_true rfl) ml_RX12_647 ⟨Nat.le_of_ble_eq_true rfl, Nat.le_of_ble_eq_true rfl⟩ ⟨Nat.le_of_ble_eq_true rfl, Nat.le_of_ble_eq_true rfl⟩ rfl (Nat.le_of_ble_eq_true rfl) (ix_tb_at tb_X12_digest 117 rfl) ⟨k_15.1, List.mem_singleton.mp k_15.2⟩ (c_X12_add hKp h_19) rfl (pc1 := 214) rfl ?_
    refine ix_iconst (v := 1) X (ix_tb_at tb_X12_digest 118 rfl) (by decide) (pc1 := 215) rfl ?_
    refine ix_istore_n (i := 1) (L1 := [(1, .int 1), (0, .ref (K.2.2.1 + a0))]) X (ix_tb_at tb_X12_digest 119 rfl) rfl (Nat.le_of_ble_eq_true rfl) rfl (pc1 := 216) rfl ?_
    refine ix_sub (L1 := [(0, .ref (K.2.2.1 + a0)), (1, .int 1)]) [1, 0] rfl ?_
    exact t_X12_digest_216 hKp X hr hlk  h
  · have h := ix_iff q_14 h
    refine ix_aload_n (i := 0) (j := 0) X (ix_tb_at tb_X12_digest 75 rfl) rfl rfl (pc1 := 137) rfl ?_
    refine ix_aload_n (i := 0) (j := 0) X (ix_tb_at tb_X12_digest 76 rfl) rfl rfl (pc1 := 138) rfl ?_
    obtain ⟨k_33, h⟩ := ix_ck_some h
    obtain ⟨b_34, q_35, h⟩ := ix_bd1_ex h
    refine iz_getR X fl_RX12_17 k_33 q_35 (ix_tb_at tb_X12_digest 77 rfl) (pc1 := 141) rfl ?_
    refine ix_iload_n (i := 1) (j := 1) X (ix_tb_at tb_X12_digest 78 rfl) rfl rfl (pc1 := 142) rfl ?_
    obtain ⟨k_36, h⟩ := ix_ck_some h
    refine iz_iald X k_36 (ix_tb_at tb_X12_digest 79 rfl) (pc1 := 143) rfl ?_
    refine ix_if_ge (tgt := 150) X (ix_tb_at tb_X12_digest 80 rfl) (by decide) (pc1 := 146) rfl (fun q_37 => ?_) (fun q_37 => ?_)
    · have h := ix_ift q_37 h
      refine ix_aload_n (i := 0) (j := 0) X (ix_tb_at tb_X12_digest 83 rfl) rfl rfl (pc1 := 151) rfl ?_
      refine iz_getR X fl_RX12_17 k_33 q_35 (ix_tb_at tb_X12_digest 84 rfl) (pc1 := 154) rfl ?_
      refine ix_iload_n (i := 1) (j := 1) X (ix_tb_at tb_X12_digest 85 rfl) rfl rfl (pc1 := 155) rfl ?_
      refine iz_iald X k_36 (ix_tb_at tb_X12_digest 86 rfl) (pc1 := 156) rfl ?_
      refine ix_sub (L1 := [(0, .ref (K.2.2.1 + a0)), (1, .int x1)]) [0, 1] rfl ?_
      exact t_X12_digest_156 hKp X hr hlk hrec130 h
    · have h := ix_iff q_37 h
      refine ix_iconst (v := (-1)) X (ix_tb_at tb_X12_digest 81 rfl) (by decide) (pc1 := 147) rfl ?_
      refine ix_goto (tgt := 156) X (ix_tb_at tb_X12_digest 82 rfl) (by decide) ?_
      refine ix_sub (L1 := [(0, .ref (K.2.2.1 + a0)), (1, .int x1)]) [0, 1] rfl ?_
      exact t_X12_digest_156 hKp X hr hlk hrec130 h
theorem t_X12_digest_130 {l : Launch} {p : Program} {e : Env} {s : State} {m : MethodId} {args : Array Value} {below : List Frame} {meth : Method} {c : Code} {K : ix_Cx} (hKp : ix_Kp K) {n : Nat} {z : ix_Z} (X : ix_X p s m args c K cX12_digest RX12 3) (hr : meth.sig.returnType = (some .long)) (hlk : meth.locks = false)  {a0 : Nat} {r : Int64} {d1 : ix_D2}  {x1 : Int32} {d : ix_D2} (h : f_X12_digest_130 n z  a0 x1 d = some (r, d1)) : ix_G p l e (ix_rm 1 21 0 0) s m args below meth c (MQ below (ix_Post K (some (.long r)) (ix_w z d1)) args s 0 0 (ix_A K)) K 3 0 0 130 [(0, .ref (K.2.2.1 + a0)), (1, .int x1)] [] (ix_w z d) := by
  have key : ∀ (f : Nat) (x1 : Int32) (d : ix_D2), ix_fix (b_X12_digest_130 n z  a0) (fun _ _ => none) f x1 d = some (r, d1) → ix_G p l e (ix_rm 1 21 0 0) s m args below meth c (MQ below (ix_Post K (some (.long r)) (ix_w z d1)) args s 0 0 (ix_A K)) K 3 0 0 130 [(0, .ref (K.2.2.1 + a0)), (1, .int x1)] [] (ix_w z d) := by
    intro f
    induction f with
    | zero =>
      intro x1 d h
      have h : (none : Option (Int64 × ix_D2)) = some (r, d1) := h
      cases h
    | succ f ih =>
      intro x1 d h
      exact tb_X12_digest_130 hKp X hr hlk (rec130 := ix_fix (b_X12_digest_130 n z  a0) (fun _ _ => none) f)  ih h
  exact key n x1 d h
set_option maxRecDepth 20000 in
theorem tb_X12_digest_99 {l : Launch} {p : Program} {e : Env} {s : State} {m : MethodId} {args : Array Value} {below : List Frame} {meth : Method} {c : Code} {K : ix_Cx} (hKp : ix_Kp K) {n : Nat} {z : ix_Z} (X : ix_X p s m args c K cX12_digest RX12 3) (hr : meth.sig.returnType = (some .long)) (hlk : meth.locks = false)  {a0 : Nat} {rec99 : Int32 → ix_D2 → Option (Int64 × ix_D2)} {r : Int64} {d1 : ix_D2} (hrec99 : ∀ (x1 : Int32) (d : ix_D2), rec99 x1 d = some (r, d1) → ix_G p l e (ix_rm 1 21 0 0) s m args below meth c (MQ below (ix_Post K (some (.long r)) (ix_w z d1)) args s 0 0 (ix_A K)) K 3 0 0 99 [(0, .ref (K.2.2.1 + a0)), (1, .int x1)] [] (ix_w z d)) {x1 : Int32} {d : ix_D2} (h : b_X12_digest_99 n z  a0 rec99 x1 d = some (r, d1)) : ix_G p l e (ix_rm 1 21 0 0) s m args below meth c (MQ below (ix_Post K (some (.long r)) (ix_w z d1)) args s 0 0 (ix_A K)) K 3 0 0 99 [(0, .ref (K.2.2.1 + a0)), (1, .int x1)] [] (ix_w z d) := by
  unfold b_X12_digest_99 at h
  refine ix_iload_n (i := 1) (j := 1) X (ix_tb_at tb_X12_digest 55 rfl) rfl rfl (pc1 := 100) rfl ?_
  refine ix_aload_n (i := 0) (j := 0) X (ix_tb_at tb_X12_digest 56 rfl) rfl rfl (pc1 := 101) rfl ?_
  obtain ⟨k_10, h⟩ := ix_ck_some h
  refine iz_getI X fl_RX12_427 k_10 (ix_tb_at tb_X12_digest 57 rfl) (pc1 := 104) rfl ?_
  refine ix_icmp_ge (tgt := 123) X (ix_tb_at tb_X12_digest 58 rfl) (by decide) (pc1 := 107) rfl (fun q_11 => ?_) (fun q_11 => ?_)
  · have h := ix_ift q_11 h
    refine ix_aload_n (i := 0) (j := 0) X (ix_tb_at tb_X12_digest 67 rfl) rfl rfl (pc1 := 124) rfl ?_
    refine ix_iconst (v := 0) X (ix_tb_at tb_X12_digest 68 rfl) (by decide) (pc1 := 125) rfl ?_
    obtain ⟨d_12, h_13, h⟩ := ix_bd1_ex h
    refine ix_callV (As := [.int 0]) (rest := []) (ci := 11) (T := TX12) (nf := 116) X mf_X12_add mi_X12_add ms_X12_add rfl (Nat.le_of_ble_eq_true rfl) ml_RX12_647 ⟨Nat.le_of_ble_eq_true rfl, Nat.le_of_ble_eq_true rfl⟩ ⟨Nat.le_of_ble_eq_true rfl, Nat.le_of_ble_eq_true rfl⟩ rfl (Nat.le_of_ble_eq_true rfl) (ix_tb_at tb_X12_digest 69 rfl) ⟨k_10.1, List.mem_singleton.mp k_10.2⟩ (c_X12_add hKp h_13) rfl (pc1 := 128) rfl ?_
    refine ix_iconst (v := 0) X (ix_tb_at tb_X12_digest 70 rfl) (by decide) (pc1 := 129) rfl ?_
    refine ix_istore_n (i := 1) (L1 := [(1, .int 0), (0, .ref (K.2.2.1 + a0))]) X (ix_tb_at tb_X12_digest 71 rfl) rfl (Nat.le_of_ble_eq_true rfl) rfl (pc1 := 130) rfl ?_
    refine ix_sub (L1 := [(0, .ref (K.2.2.1 + a0)), (1, .int 0)]) [1, 0] rfl ?_
    exact t_X12_digest_130 hKp X hr hlk  h
  · have h := ix_iff q_11 h
    refine ix_aload_n (i := 0) (j := 0) X (ix_tb_at tb_X12_digest 59 rfl) rfl rfl (pc1 := 108) rfl ?_
    refine ix_aload_n (i := 0) (j := 0) X (ix_tb_at tb_X12_digest 60 rfl) rfl rfl (pc1 := 109) rfl ?_
    obtain ⟨b_55, q_56, h⟩ := ix_bd1_ex h
    refine iz_getR X fl_RX12_71 k_10 q_56 (ix_tb_at tb_X12_digest 61 rfl) (pc1 := 112) rfl ?_
    refine ix_iload_n (i := 1) (j := 1) X (ix_tb_at tb_X12_digest 62 rfl) rfl rfl (pc1 := 113) rfl ?_
    obtain ⟨k_57, h⟩ := ix_ck_some h
    refine iz_iald X k_57 (ix_tb_at tb_X12_digest 63 rfl) (pc1 := 114) rfl ?_
    obtain ⟨d_58, h_59, h⟩ := ix_bd1_ex h
    refine ix_callV (As := [.int (d.1 b_55 (ix_n x1))]) (rest := []) (ci := 11) (T := TX12) (nf := 116) X mf_X12_add mi_X12_add ms_X12_add rfl (Nat.le_of_ble_eq_true rfl) ml_RX12_647 ⟨Nat.le_of_ble_eq_true rfl, Nat.le_of_ble_eq_true rfl⟩ ⟨Nat.le_of_ble_eq_true rfl, Nat.le_of_ble_eq_true rfl⟩ rfl (Nat.le_of_ble_eq_true rfl) (ix_tb_at tb_X12_digest 64 rfl) ⟨k_10.1, List.mem_singleton.mp k_10.2⟩ (c_X12_add hKp h_59) rfl (pc1 := 117) rfl ?_
    obtain ⟨x1_60, e_61, h⟩ := ix_lt_ex h
    refine ix_iinc (i := 1) (j := 1) (v := x1_60) (L1 := [(1, .int x1_60), (0, .ref (K.2.2.1 + a0))]) X (ix_tb_at tb_X12_digest 65 rfl) rfl (by rw [oi_1]; exact e_61.symm) (Nat.le_of_ble_eq_true rfl) rfl (pc1 := 120) rfl ?_
    refine ix_goto (tgt := 99) X (ix_tb_at tb_X12_digest 66 rfl) (by decide) ?_
    refine ix_sub (L1 := [(0, .ref (K.2.2.1 + a0)), (1, .int x1_60)]) [1, 0] rfl ?_
    exact hrec99 x1_60 d_58 h
theorem t_X12_digest_99 {l : Launch} {p : Program} {e : Env} {s : State} {m : MethodId} {args : Array Value} {below : List Frame} {meth : Method} {c : Code} {K : ix_Cx} (hKp : ix_Kp K) {n : Nat} {z : ix_Z} (X : ix_X p s m args c K cX12_digest RX12 3) (hr : meth.sig.returnType = (some .long)) (hlk : meth.locks = false)  {a0 : Nat} {r : Int64} {d1 : ix_D2}  {x1 : Int32} {d : ix_D2} (h : f_X12_digest_99 n z  a0 x1 d = some (r, d1)) : ix_G p l e (ix_rm 1 21 0 0) s m args below meth c (MQ below (ix_Post K (some (.long r)) (ix_w z d1)) args s 0 0 (ix_A K)) K 3 0 0 99 [(0, .ref (K.2.2.1 + a0)), (1, .int x1)] [] (ix_w z d) := by
  have key : ∀ (f : Nat) (x1 : Int32) (d : ix_D2), ix_fix (b_X12_digest_99 n z  a0) (fun _ _ => none) f x1 d = some (r, d1) → ix_G p l e (ix_rm 1 21 0 0) s m args below meth c (MQ below (ix_Post K (some (.long r)) (ix_w z d1)) args s 0 0 (ix_A K)) K 3 0 0 99 [(0, .ref (K.2.2.1 + a0)), (1, .int x1)] [] (ix_w z d) := by
    intro f
    induction f with
    | zero =>
      intro x1 d h
      have h : (none : Option (Int64 × ix_D2)) = some (r, d1) := h
      cases h
    | succ f ih =>
      intro x1 d h
      exact tb_X12_digest_99 hKp X hr hlk (rec99 := ix_fix (b_X12_digest_99 n z  a0) (fun _ _ => none) f)  ih h
  exact key n x1 d h
set_option maxRecDepth 20000 in
theorem tb_X12_digest_58 {l : Launch} {p : Program} {e : Env} {s : State} {m : MethodId} {args : Array Value} {below : List Frame} {meth : Method} {c : Code} {K : ix_Cx} (hKp : ix_Kp K) {n : Nat} {z : ix_Z} (X : ix_X p s m args c K cX12_digest RX12 3) (hr : meth.sig.returnType = (some .long)) (hlk : meth.locks = false) {rec43 : Int32 → ix_D2 → Option (Int64 × ix_D2)} {a0 : Nat} {x1 : Int32} {rec58 : Int32 → ix_D2 → Option (Int64 × ix_D2)} {r : Int64} {d1 : ix_D2} (hrec43 : ∀ (x1 : Int32) (d : ix_D2), rec43 x1 d = some (r, d1) → ix_G p l e (ix_rm 1 21 0 0) s m args below meth c (MQ below (ix_Post K (some (.long r)) (ix_w z d1)) args s 0 0 (ix_A K)) K 3 0 0 43 [(0, .ref (K.2.2.1 + a0)), (1, .int x1)] [] (ix_w z d)) (hrec58 : ∀ (x2 : Int32) (d : ix_D2), rec58 x2 d = some (r, d1) → ix_G p l e (ix_rm 1 21 0 0) s m args below meth c (MQ below (ix_Post K (some (.long r)) (ix_w z d1)) args s 0 0 (ix_A K)) K 3 0 0 58 [(0, .ref (K.2.2.1 + a0)), (1, .int x1), (2, .int x2)] [] (ix_w z d)) {x2 : Int32} {d : ix_D2} (h : b_X12_digest_58 n z rec43 a0 x1 rec58 x2 d = some (r, d1)) : ix_G p l e (ix_rm 1 21 0 0) s m args below meth c (MQ below (ix_Post K (some (.long r)) (ix_w z d1)) args s 0 0 (ix_A K)) K 3 0 0 58 [(0, .ref (K.2.2.1 + a0)), (1, .int x1), (2, .int x2)] [] (ix_w z d) := by
  unfold b_X12_digest_58 at h
  refine ix_iload_n (i := 2) (j := 2) X (ix_tb_at tb_X12_digest 32 rfl) rfl rfl (pc1 := 59) rfl ?_
  refine ix_aload_n (i := 0) (j := 0) X (ix_tb_at tb_X12_digest 33 rfl) rfl rfl (pc1 := 60) rfl ?_
  obtain ⟨k_67, h⟩ := ix_ck_some h
  obtain ⟨b_68, q_69, h⟩ := ix_bd1_ex h
  refine iz_getR X fl_RX12_62 k_67 q_69 (ix_tb_at tb_X12_digest 34 rfl) (pc1 := 63) rfl ?_
  refine ix_iload_n (i := 1) (j := 1) X (ix_tb_at tb_X12_digest 35 rfl) rfl rfl (pc1 := 64) rfl ?_
  refine ix_iconst (v := 1) X (ix_tb_at tb_X12_digest 36 rfl) (by decide) (pc1 := 65) rfl ?_
  refine ix_iadd X (ix_tb_at tb_X12_digest 37 rfl) (pc1 := 66) rfl ?_
  obtain ⟨k_70, h⟩ := ix_ck_some h
  refine iz_iald X k_70 (ix_tb_at tb_X12_digest 38 rfl) (pc1 := 67) rfl ?_
  refine ix_icmp_ge (tgt := 86) X (ix_tb_at tb_X12_digest 39 rfl) (by decide) (pc1 := 70) rfl (fun q_71 => ?_) (fun q_71 => ?_)
  · have h := ix_ift q_71 h
    refine ix_aload_n (i := 0) (j := 0) X (ix_tb_at tb_X12_digest 48 rfl) rfl rfl (pc1 := 87) rfl ?_
    refine ix_iconst (v := 0) X (ix_tb_at tb_X12_digest 49 rfl) (by decide) (pc1 := 88) rfl ?_
    obtain ⟨d_72, h_73, h⟩ := ix_bd1_ex h
    refine ix_callV (As := [.int 0]) (rest := []) (ci := 11) (T := TX12) (nf := 116) X mf_X12_add mi_X12_add ms_X12_add rfl (Nat.le_of_ble_eq_true rfl) ml_RX12_647 ⟨Nat.le_of_ble_eq_true rfl, Nat.le_of_ble_eq_true rfl⟩ ⟨Nat.le_of_ble_eq_true rfl, Nat.le_of_ble_eq_true rfl⟩ rfl (Nat.le_of_ble_eq_true rfl) (ix_tb_at tb_X12_digest 50 rfl) ⟨k_67.1, List.mem_singleton.mp k_67.2⟩ (c_X12_add hKp h_73) rfl (pc1 := 91) rfl ?_
    obtain ⟨x1_74, e_75, h⟩ := ix_lt_ex h
    refine ix_iinc (i := 1) (j := 1) (v := x1_74) (L1 := [(1, .int x1_74), (0, .ref (K.2.2.1 + a0)), (2, .int x2)]) X (ix_tb_at tb_X12_digest 51 rfl) rfl (by rw [oi_1]; exact e_75.symm) (Nat.le_of_ble_eq_true rfl) rfl (pc1 := 94) rfl ?_
    refine ix_goto (tgt := 43) X (ix_tb_at tb_X12_digest 52 rfl) (by decide) ?_
    refine ix_sub (L1 := [(0, .ref (K.2.2.1 + a0)), (1, .int x1_74)]) [1, 0] rfl ?_
    exact hrec43 x1_74 d_72 h
  · have h := ix_iff q_71 h
    refine ix_aload_n (i := 0) (j := 0) X (ix_tb_at tb_X12_digest 40 rfl) rfl rfl (pc1 := 71) rfl ?_
    refine ix_aload_n (i := 0) (j := 0) X (ix_tb_at tb_X12_digest 41 rfl) rfl rfl (pc1 := 72) rfl ?_
    obtain ⟨b_76, q_77, h⟩ := ix_bd1_ex h
    refine iz_getR X fl_RX12_65 k_67 q_77 (ix_tb_at tb_X12_digest 42 rfl) (pc1 := 75) rfl ?_
    refine ix_iload_n (i := 2) (j := 2) X (ix_tb_at tb_X12_digest 43 rfl) rfl rfl (pc1 := 76) rfl ?_
    obtain ⟨k_78, h⟩ := ix_ck_some h
    refine iz_iald X k_78 (ix_tb_at tb_X12_digest 44 rfl) (pc1 := 77) rfl ?_
    obtain ⟨d_79, h_80, h⟩ := ix_bd1_ex h
    refine ix_callV (As := [.int (d.1 b_76 (ix_n x2))]) (rest := []) (ci := 11) (T := TX12) (nf := 116) X mf_X12_add mi_X12_add ms_X12_add rfl (Nat.le_of_ble_eq_true rfl) ml_RX12_647 ⟨Nat.le_of_ble_eq_true rfl, Nat.le_of_ble_eq_true rfl⟩ ⟨Nat.le_of_ble_eq_true rfl, Nat.le_of_ble_eq_true rfl⟩ rfl (Nat.le_of_ble_eq_true rfl) (ix_tb_at tb_X12_digest 45 rfl) ⟨k_67.1, List.mem_singleton.mp k_67.2⟩ (c_X12_add hKp h_80) rfl (pc1 := 80) rfl ?_
    obtain ⟨x2_81, e_82, h⟩ := ix_lt_ex h
    refine ix_iinc (i := 2) (j := 2) (v := x2_81) (L1 := [(2, .int x2_81), (0, .ref (K.2.2.1 + a0)), (1, .int x1)]) X (ix_tb_at tb_X12_digest 46 rfl) rfl (by rw [oi_1]; exact e_82.symm) (Nat.le_of_ble_eq_true rfl) rfl (pc1 := 83) rfl ?_
    refine ix_goto (tgt := 58) X (ix_tb_at tb_X12_digest 47 rfl) (by decide) ?_
    refine ix_sub (L1 := [(0, .ref (K.2.2.1 + a0)), (1, .int x1), (2, .int x2_81)]) [1, 2, 0] rfl ?_
    exact hrec58 x2_81 d_79 h
theorem t_X12_digest_58 {l : Launch} {p : Program} {e : Env} {s : State} {m : MethodId} {args : Array Value} {below : List Frame} {meth : Method} {c : Code} {K : ix_Cx} (hKp : ix_Kp K) {n : Nat} {z : ix_Z} (X : ix_X p s m args c K cX12_digest RX12 3) (hr : meth.sig.returnType = (some .long)) (hlk : meth.locks = false) {rec43 : Int32 → ix_D2 → Option (Int64 × ix_D2)} {a0 : Nat} {x1 : Int32} {r : Int64} {d1 : ix_D2} (hrec43 : ∀ (x1 : Int32) (d : ix_D2), rec43 x1 d = some (r, d1) → ix_G p l e (ix_rm 1 21 0 0) s m args below meth c (MQ below (ix_Post K (some (.long r)) (ix_w z d1)) args s 0 0 (ix_A K)) K 3 0 0 43 [(0, .ref (K.2.2.1 + a0)), (1, .int x1)] [] (ix_w z d)) {x2 : Int32} {d : ix_D2} (h : f_X12_digest_58 n z rec43 a0 x1 x2 d = some (r, d1)) : ix_G p l e (ix_rm 1 21 0 0) s m args below meth c (MQ below (ix_Post K (some (.long r)) (ix_w z d1)) args s 0 0 (ix_A K)) K 3 0 0 58 [(0, .ref (K.2.2.1 + a0)), (1, .int x1), (2, .int x2)] [] (ix_w z d) := by
  have key : ∀ (f : Nat) (x2 : Int32) (d : ix_D2), ix_fix (b_X12_digest_58 n z rec43 a0 x1) (fun _ _ => none) f x2 d = some (r, d1) → ix_G p l e (ix_rm 1 21 0 0) s m args below meth c (MQ below (ix_Post K (some (.long r)) (ix_w z d1)) args s 0 0 (ix_A K)) K 3 0 0 58 [(0, .ref (K.2.2.1 + a0)), (1, .int x1), (2, .int x2)] [] (ix_w z d) := by
    intro f
    induction f with
    | zero =>
      intro x2 d h
      have h : (none : Option (Int64 × ix_D2)) = some (r, d1) := h
      cases h
    | succ f ih =>
      intro x2 d h
      exact tb_X12_digest_58 hKp X hr hlk (rec58 := ix_fix (b_X12_digest_58 n z rec43 a0 x1) (fun _ _ => none) f) hrec43 ih h
  exact key n x2 d h
set_option maxRecDepth 20000 in
theorem tb_X12_digest_43 {l : Launch} {p : Program} {e : Env} {s : State} {m : MethodId} {args : Array Value} {below : List Frame} {meth : Method} {c : Code} {K : ix_Cx} (hKp : ix_Kp K) {n : Nat} {z : ix_Z} (X : ix_X p s m args c K cX12_digest RX12 3) (hr : meth.sig.returnType = (some .long)) (hlk : meth.locks = false)  {a0 : Nat} {rec43 : Int32 → ix_D2 → Option (Int64 × ix_D2)} {r : Int64} {d1 : ix_D2} (hrec43 : ∀ (x1 : Int32) (d : ix_D2), rec43 x1 d = some (r, d1) → ix_G p l e (ix_rm 1 21 0 0) s m args below meth c (MQ below (ix_Post K (some (.long r)) (ix_w z d1)) args s 0 0 (ix_A K)) K 3 0 0 43 [(0, .ref (K.2.2.1 + a0)), (1, .int x1)] [] (ix_w z d)) {x1 : Int32} {d : ix_D2} (h : b_X12_digest_43 n z  a0 rec43 x1 d = some (r, d1)) : ix_G p l e (ix_rm 1 21 0 0) s m args below meth c (MQ below (ix_Post K (some (.long r)) (ix_w z d1)) args s 0 0 (ix_A K)) K 3 0 0 43 [(0, .ref (K.2.2.1 + a0)), (1, .int x1)] [] (ix_w z d) := by
  unfold b_X12_digest_43 at h
  refine ix_iload_n (i := 1) (j := 1) X (ix_tb_at tb_X12_digest 23 rfl) rfl rfl (pc1 := 44) rfl ?_
  refine ix_aload_n (i := 0) (j := 0) X (ix_tb_at tb_X12_digest 24 rfl) rfl rfl (pc1 := 45) rfl ?_
  obtain ⟨k_8, h⟩ := ix_ck_some h
  refine iz_getI X fl_RX12_273 k_8 (ix_tb_at tb_X12_digest 25 rfl) (pc1 := 48) rfl ?_
  refine ix_icmp_ge (tgt := 97) X (ix_tb_at tb_X12_digest 26 rfl) (by decide) (pc1 := 51) rfl (fun q_9 => ?_) (fun q_9 => ?_)
  · have h := ix_ift q_9 h
    refine ix_iconst (v := 0) X (ix_tb_at tb_X12_digest 53 rfl) (by decide) (pc1 := 98) rfl ?_
    refine ix_istore_n (i := 1) (L1 := [(1, .int 0), (0, .ref (K.2.2.1 + a0))]) X (ix_tb_at tb_X12_digest 54 rfl) rfl (Nat.le_of_ble_eq_true rfl) rfl (pc1 := 99) rfl ?_
    refine ix_sub (L1 := [(0, .ref (K.2.2.1 + a0)), (1, .int 0)]) [1, 0] rfl ?_
    exact t_X12_digest_99 hKp X hr hlk  h
  · have h := ix_iff q_9 h
    refine ix_aload_n (i := 0) (j := 0) X (ix_tb_at tb_X12_digest 27 rfl) rfl rfl (pc1 := 52) rfl ?_
    obtain ⟨b_62, q_63, h⟩ := ix_bd1_ex h
    refine iz_getR X fl_RX12_62 k_8 q_63 (ix_tb_at tb_X12_digest 28 rfl) (pc1 := 55) rfl ?_
    refine ix_iload_n (i := 1) (j := 1) X (ix_tb_at tb_X12_digest 29 rfl) rfl rfl (pc1 := 56) rfl ?_
    obtain ⟨k_64, h⟩ := ix_ck_some h
    refine iz_iald X k_64 (ix_tb_at tb_X12_digest 30 rfl) (pc1 := 57) rfl ?_
    obtain ⟨x2_65, e_66, h⟩ := ix_lt_ex h
    refine ix_nmi e_66 ?_
    refine ix_istore_n (i := 2) (L1 := [(2, .int x2_65), (0, .ref (K.2.2.1 + a0)), (1, .int x1)]) X (ix_tb_at tb_X12_digest 31 rfl) rfl (Nat.le_of_ble_eq_true rfl) rfl (pc1 := 58) rfl ?_
    refine ix_sub (L1 := [(0, .ref (K.2.2.1 + a0)), (1, .int x1), (2, .int x2_65)]) [1, 2, 0] rfl ?_
    exact t_X12_digest_58 hKp X hr hlk hrec43 h
theorem t_X12_digest_43 {l : Launch} {p : Program} {e : Env} {s : State} {m : MethodId} {args : Array Value} {below : List Frame} {meth : Method} {c : Code} {K : ix_Cx} (hKp : ix_Kp K) {n : Nat} {z : ix_Z} (X : ix_X p s m args c K cX12_digest RX12 3) (hr : meth.sig.returnType = (some .long)) (hlk : meth.locks = false)  {a0 : Nat} {r : Int64} {d1 : ix_D2}  {x1 : Int32} {d : ix_D2} (h : f_X12_digest_43 n z  a0 x1 d = some (r, d1)) : ix_G p l e (ix_rm 1 21 0 0) s m args below meth c (MQ below (ix_Post K (some (.long r)) (ix_w z d1)) args s 0 0 (ix_A K)) K 3 0 0 43 [(0, .ref (K.2.2.1 + a0)), (1, .int x1)] [] (ix_w z d) := by
  have key : ∀ (f : Nat) (x1 : Int32) (d : ix_D2), ix_fix (b_X12_digest_43 n z  a0) (fun _ _ => none) f x1 d = some (r, d1) → ix_G p l e (ix_rm 1 21 0 0) s m args below meth c (MQ below (ix_Post K (some (.long r)) (ix_w z d1)) args s 0 0 (ix_A K)) K 3 0 0 43 [(0, .ref (K.2.2.1 + a0)), (1, .int x1)] [] (ix_w z d) := by
    intro f
    induction f with
    | zero =>
      intro x1 d h
      have h : (none : Option (Int64 × ix_D2)) = some (r, d1) := h
      cases h
    | succ f ih =>
      intro x1 d h
      exact tb_X12_digest_43 hKp X hr hlk (rec43 := ix_fix (b_X12_digest_43 n z  a0) (fun _ _ => none) f)  ih h
  exact key n x1 d h
set_option maxRecDepth 20000 in
theorem tb_X12_digest_17 {l : Launch} {p : Program} {e : Env} {s : State} {m : MethodId} {args : Array Value} {below : List Frame} {meth : Method} {c : Code} {K : ix_Cx} (hKp : ix_Kp K) {n : Nat} {z : ix_Z} (X : ix_X p s m args c K cX12_digest RX12 3) (hr : meth.sig.returnType = (some .long)) (hlk : meth.locks = false)  {a0 : Nat} {rec17 : Int32 → ix_D2 → Option (Int64 × ix_D2)} {r : Int64} {d1 : ix_D2} (hrec17 : ∀ (x1 : Int32) (d : ix_D2), rec17 x1 d = some (r, d1) → ix_G p l e (ix_rm 1 21 0 0) s m args below meth c (MQ below (ix_Post K (some (.long r)) (ix_w z d1)) args s 0 0 (ix_A K)) K 3 0 0 17 [(0, .ref (K.2.2.1 + a0)), (1, .int x1)] [] (ix_w z d)) {x1 : Int32} {d : ix_D2} (h : b_X12_digest_17 n z  a0 rec17 x1 d = some (r, d1)) : ix_G p l e (ix_rm 1 21 0 0) s m args below meth c (MQ below (ix_Post K (some (.long r)) (ix_w z d1)) args s 0 0 (ix_A K)) K 3 0 0 17 [(0, .ref (K.2.2.1 + a0)), (1, .int x1)] [] (ix_w z d) := by
  unfold b_X12_digest_17 at h
  refine ix_iload_n (i := 1) (j := 1) X (ix_tb_at tb_X12_digest 9 rfl) rfl rfl (pc1 := 18) rfl ?_
  refine ix_aload_n (i := 0) (j := 0) X (ix_tb_at tb_X12_digest 10 rfl) rfl rfl (pc1 := 19) rfl ?_
  obtain ⟨k_6, h⟩ := ix_ck_some h
  refine iz_getI X fl_RX12_246 k_6 (ix_tb_at tb_X12_digest 11 rfl) (pc1 := 22) rfl ?_
  refine ix_icmp_gt (tgt := 41) X (ix_tb_at tb_X12_digest 12 rfl) (by decide) (pc1 := 25) rfl (fun q_7 => ?_) (fun q_7 => ?_)
  · have h := ix_ift q_7 h
    refine ix_iconst (v := 0) X (ix_tb_at tb_X12_digest 21 rfl) (by decide) (pc1 := 42) rfl ?_
    refine ix_istore_n (i := 1) (L1 := [(1, .int 0), (0, .ref (K.2.2.1 + a0))]) X (ix_tb_at tb_X12_digest 22 rfl) rfl (Nat.le_of_ble_eq_true rfl) rfl (pc1 := 43) rfl ?_
    refine ix_sub (L1 := [(0, .ref (K.2.2.1 + a0)), (1, .int 0)]) [1, 0] rfl ?_
    exact t_X12_digest_43 hKp X hr hlk  h
  · have h := ix_iff q_7 h
    refine ix_aload_n (i := 0) (j := 0) X (ix_tb_at tb_X12_digest 13 rfl) rfl rfl (pc1 := 26) rfl ?_
    refine ix_aload_n (i := 0) (j := 0) X (ix_tb_at tb_X12_digest 14 rfl) rfl rfl (pc1 := 27) rfl ?_
    obtain ⟨b_83, q_84, h⟩ := ix_bd1_ex h
    refine iz_getR X fl_RX12_7 k_6 q_84 (ix_tb_at tb_X12_digest 15 rfl) (pc1 := 30) rfl ?_
    refine ix_iload_n (i := 1) (j := 1) X (ix_tb_at tb_X12_digest 16 rfl) rfl rfl (pc1 := 31) rfl ?_
    obtain ⟨k_85, h⟩ := ix_ck_some h
    refine iz_iald X k_85 (ix_tb_at tb_X12_digest 17 rfl) (pc1 := 32) rfl ?_
    obtain ⟨d_86, h_87, h⟩ := ix_bd1_ex h
    refine ix_callV (As := [.int (d.1 b_83 (ix_n x1))]) (rest := []) (ci := 11) (T := TX12) (nf := 116) X mf_X12_add mi_X12_add ms_X12_add rfl (Nat.le_of_ble_eq_true rfl) ml_RX12_647 ⟨Nat.le_of_ble_eq_true rfl, Nat.le_of_ble_eq_true rfl⟩ ⟨Nat.le_of_ble_eq_true rfl, Nat.le_of_ble_eq_true rfl⟩ rfl (Nat.le_of_ble_eq_true rfl) (ix_tb_at tb_X12_digest 18 rfl) ⟨k_6.1, List.mem_singleton.mp k_6.2⟩ (c_X12_add hKp h_87) rfl (pc1 := 35) rfl ?_
    obtain ⟨x1_88, e_89, h⟩ := ix_lt_ex h
    refine ix_iinc (i := 1) (j := 1) (v := x1_88) (L1 := [(1, .int x1_88), (0, .ref (K.2.2.1 + a0))]) X (ix_tb_at tb_X12_digest 19 rfl) rfl (by rw [oi_1]; exact e_89.symm) (Nat.le_of_ble_eq_true rfl) rfl (pc1 := 38) rfl ?_
    refine ix_goto (tgt := 17) X (ix_tb_at tb_X12_digest 20 rfl) (by decide) ?_
    refine ix_sub (L1 := [(0, .ref (K.2.2.1 + a0)), (1, .int x1_88)]) [1, 0] rfl ?_
    exact hrec17 x1_88 d_86 h
theorem t_X12_digest_17 {l : Launch} {p : Program} {e : Env} {s : State} {m : MethodId} {args : Array Value} {below : List Frame} {meth : Method} {c : Code} {K : ix_Cx} (hKp : ix_Kp K) {n : Nat} {z : ix_Z} (X : ix_X p s m args c K cX12_digest RX12 3) (hr : meth.sig.returnType = (some .long)) (hlk : meth.locks = false)  {a0 : Nat} {r : Int64} {d1 : ix_D2}  {x1 : Int32} {d : ix_D2} (h : f_X12_digest_17 n z  a0 x1 d = some (r, d1)) : ix_G p l e (ix_rm 1 21 0 0) s m args below meth c (MQ below (ix_Post K (some (.long r)) (ix_w z d1)) args s 0 0 (ix_A K)) K 3 0 0 17 [(0, .ref (K.2.2.1 + a0)), (1, .int x1)] [] (ix_w z d) := by
  have key : ∀ (f : Nat) (x1 : Int32) (d : ix_D2), ix_fix (b_X12_digest_17 n z  a0) (fun _ _ => none) f x1 d = some (r, d1) → ix_G p l e (ix_rm 1 21 0 0) s m args below meth c (MQ below (ix_Post K (some (.long r)) (ix_w z d1)) args s 0 0 (ix_A K)) K 3 0 0 17 [(0, .ref (K.2.2.1 + a0)), (1, .int x1)] [] (ix_w z d) := by
    intro f
    induction f with
    | zero =>
      intro x1 d h
      have h : (none : Option (Int64 × ix_D2)) = some (r, d1) := h
      cases h
    | succ f ih =>
      intro x1 d h
      exact tb_X12_digest_17 hKp X hr hlk (rec17 := ix_fix (b_X12_digest_17 n z  a0) (fun _ _ => none) f)  ih h
  exact key n x1 d h
set_option maxRecDepth 20000 in
theorem c_X12_digest {l : Launch} {K : ix_Cx} (hKp : ix_Kp K) {n : Nat} {z : ix_Z} {a0 : Nat} {d : ix_D2} {r : Int64} {d1 : ix_D2} (h : f_X12_digest n z a0 d = some (r, d1)) : ix_M l K yX12_digest cX12_digest 3 (some .long) 1 21 0 0 [.ref (K.2.2.1 + a0)] (ix_w z d) (some (.long r)) (ix_w z d1) := by
  refine ix_met mf_X12_digest hKp (Nat.le_of_ble_eq_true rfl) ?_
  intro p e s m args below meth c hr hlk hnm X
  have X : ix_X p s m args c K cX12_digest RX12 3 := X
  show ix_G p l e (ix_rm 1 21 0 0) s m args below meth c (MQ below (ix_Post K (some (.long r)) (ix_w z d1)) args s 0 0 (ix_A K)) K 3 0 0 0 [(0, .ref (K.2.2.1 + a0))] [] (ix_w z d)
  unfold f_X12_digest at h
  refine ix_aload_n (i := 0) (j := 0) X (ix_tb_at tb_X12_digest 0 rfl) rfl rfl (pc1 := 1) rfl ?_
  refine ix_ldc2 (pl := 2457) (v := 7) X (ix_tb_at tb_X12_digest 1 rfl) (by decide +kernel) (pc1 := 4) rfl ?_
  obtain ⟨k_1, h⟩ := ix_ck_some h
  obtain ⟨d_2, e_3, h⟩ := ix_lt_ex h
  refine iz_putJ X fp_RX12_641 k_1 (ix_tb_at tb_X12_digest 2 rfl) e_3 (pc1 := 7) rfl ?_
  refine ix_aload_n (i := 0) (j := 0) X (ix_tb_at tb_X12_digest 3 rfl) rfl rfl (pc1 := 8) rfl ?_
  refine ix_aload_n (i := 0) (j := 0) X (ix_tb_at tb_X12_digest 4 rfl) rfl rfl (pc1 := 9) rfl ?_
  refine iz_getI X fl_RX12_246 k_1 (ix_tb_at tb_X12_digest 5 rfl) (pc1 := 12) rfl ?_
  obtain ⟨d_4, h_5, h⟩ := ix_bd1_ex h
  refine ix_callV (As := [.int (d_2.1 a0 1)]) (rest := []) (ci := 11) (T := TX12) (nf := 116) X mf_X12_add mi_X12_add ms_X12_add rfl (Nat.le_of_ble_eq_true rfl) ml_RX12_647 ⟨Nat.le_of_ble_eq_true rfl, Nat.le_of_ble_eq_true rfl⟩ ⟨Nat.le_of_ble_eq_true rfl, Nat.le_of_ble_eq_true rfl⟩ rfl (Nat.le_of_ble_eq_true rfl) (ix_tb_at tb_X12_digest 6 rfl) ⟨k_1.1, List.mem_singleton.mp k_1.2⟩ (c_X12_add hKp h_5) rfl (pc1 := 15) rfl ?_
  refine ix_iconst (v := 1) X (ix_tb_at tb_X12_digest 7 rfl) (by decide) (pc1 := 16) rfl ?_
  refine ix_istore_n (i := 1) (L1 := [(1, .int 1), (0, .ref (K.2.2.1 + a0))]) X (ix_tb_at tb_X12_digest 8 rfl) rfl (Nat.le_of_ble_eq_true rfl) rfl (pc1 := 17) rfl ?_
  refine ix_sub (L1 := [(0, .ref (K.2.2.1 + a0)), (1, .int 1)]) [1, 0] rfl ?_
  exact t_X12_digest_17 hKp X hr hlk  h
def tab_X12_status : List (Nat × Instr × Nat) := [(0, .aload_n 0, 1), (1, .getfield 235, 3), (4, .ireturn, 1)]
theorem tb_X12_status : ix_tab cX12_status tab_X12_status := by
  unfold ix_tab
  decide +kernel
noncomputable def f_X12_status (n : Nat) (z : ix_Z) (a0 : Nat) (d : ix_D2) : Option (Int32 × ix_D2) :=
  ix_ck (ix_ok z [11] a0) (some (d.1 a0 0, d))
set_option maxRecDepth 20000 in
theorem c_X12_status {l : Launch} {K : ix_Cx} (hKp : ix_Kp K) {n : Nat} {z : ix_Z} {a0 : Nat} {d : ix_D2} {r : Int32} {d1 : ix_D2} (h : f_X12_status n z a0 d = some (r, d1)) : ix_M l K yX12_status cX12_status 1 (some .int) 0 0 0 0 [.ref (K.2.2.1 + a0)] (ix_w z d) (some (.int r)) (ix_w z d1) := by
  refine ix_met mf_X12_status hKp (Nat.le_of_ble_eq_true rfl) ?_
  intro p e s m args below meth c hr hlk hnm X
  have X : ix_X p s m args c K cX12_status RX12 1 := X
  show ix_G p l e (ix_rm 0 0 0 0) s m args below meth c (MQ below (ix_Post K (some (.int r)) (ix_w z d1)) args s 0 0 (ix_A K)) K 1 0 0 0 [(0, .ref (K.2.2.1 + a0))] [] (ix_w z d)
  unfold f_X12_status at h
  refine ix_aload_n (i := 0) (j := 0) X (ix_tb_at tb_X12_status 0 rfl) rfl rfl (pc1 := 1) rfl ?_
  obtain ⟨k_1, h⟩ := ix_ck_some h
  refine iz_getI X fl_RX12_235 k_1 (ix_tb_at tb_X12_status 1 rfl) (pc1 := 4) rfl ?_
  exact ix_iret X hr hlk (ix_r2 (f := fun r => some (.int r)) (g := ix_w z) h) (ix_tb_at tb_X12_status 2 rfl)
def tab_X12_about : List (Nat × Instr × Nat) := [(0, .iload_n 1, 1), (1, .tableswitch 110 0 9 #[55, 60, 65, 70, 80, 85, 90, 95, 100, 105], 55), (56, .aload_n 0, 1), (57, .getfield 246, 3), (60, .ireturn, 1), (61, .aload_n 0, 1), (62, .getfield 264, 3), (65, .ireturn, 1), (66, .aload_n 0, 1), (67, .getfield 273, 3), (70, .ireturn, 1), (71, .aload_n 0, 1), (72, .getfield 62, 3), (75, .aload_n 0, 1), (76, .getfield 273, 3), (79, .iaload, 1), (80, .ireturn, 1), (81, .aload_n 0, 1), (82, .getfield 427, 3), (85, .ireturn, 1), (86, .aload_n 0, 1), (87, .getfield 374, 3), (90, .ireturn, 1), (91, .aload_n 0, 1), (92, .getfield 605, 3), (95, .ireturn, 1), (96, .aload_n 0, 1), (97, .getfield 630, 3), (100, .ireturn, 1), (101, .aload_n 0, 1), (102, .getfield 259, 3), (105, .ireturn, 1), (106, .aload_n 0, 1), (107, .getfield 412, 3), (110, .ireturn, 1), (111, .aload_n 0, 1), (112, .sipush (-1001), 3), (115, .invokevirtual 242, 3), (118, .ireturn, 1)]
theorem tb_X12_about : ix_tab cX12_about tab_X12_about := by
  unfold ix_tab
  decide +kernel
noncomputable def f_X12_about (n : Nat) (z : ix_Z) (a0 : Nat) (x1 : Int32) (d : ix_D2) : Option (Int32 × ix_D2) :=
  ix_if (x1 = 0) (ix_ck (ix_ok z [11] a0) (some (d.1 a0 1, d))) (ix_if (x1 = 1) (ix_ck (ix_ok z [11] a0) (some (d.1 a0 11, d))) (ix_if (x1 = 2) (ix_ck (ix_ok z [11] a0) (some (d.1 a0 23, d))) (ix_if (x1 = 3) (ix_ck (ix_ok z [11] a0) (ix_bd1 (z.1 a0 24) (fun b_9 => ix_ck (ix_ix z 20 b_9 (d.1 a0 23)) (some (d.1 b_9 (ix_n (d.1 a0 23)), d))))) (ix_if (x1 = 4) (ix_ck (ix_ok z [11] a0) (some (d.1 a0 29, d))) (ix_if (x1 = 5) (ix_ck (ix_ok z [11] a0) (some (d.1 a0 32, d))) (ix_if (x1 = 6) (ix_ck (ix_ok z [11] a0) (some (d.1 a0 108, d))) (ix_if (x1 = 7) (ix_ck (ix_ok z [11] a0) (some (d.1 a0 4, d))) (ix_if (x1 = 8) (ix_ck (ix_ok z [11] a0) (some (d.1 a0 8, d))) (ix_if (x1 = 9) (ix_ck (ix_ok z [11] a0) (some (d.1 a0 10, d))) (ix_ck (ix_ok z [11] a0) (ix_bd2 (f_X12_fail n z a0 ((-1001)) d) (fun r_27 d_24 => some (r_27, d_24)))))))))))))
set_option maxRecDepth 20000 in
theorem c_X12_about {l : Launch} {K : ix_Cx} (hKp : ix_Kp K) {n : Nat} {z : ix_Z} {a0 : Nat} {x1 : Int32} {d : ix_D2} {r : Int32} {d1 : ix_D2} (h : f_X12_about n z a0 x1 d = some (r, d1)) : ix_M l K yX12_about cX12_about 2 (some .int) 1 21 0 0 [.ref (K.2.2.1 + a0), .int x1] (ix_w z d) (some (.int r)) (ix_w z d1) := by
  refine ix_met mf_X12_about hKp (Nat.le_of_ble_eq_true rfl) ?_
  intro p e s m args below meth c hr hlk hnm X
  have X : ix_X p s m args c K cX12_about RX12 2 := X
  show ix_G p l e (ix_rm 1 21 0 0) s m args below meth c (MQ below (ix_Post K (some (.int r)) (ix_w z d1)) args s 0 0 (ix_A K)) K 2 0 0 0 [(0, .ref (K.2.2.1 + a0)), (1, .int x1)] [] (ix_w z d)
  unfold f_X12_about at h
  refine ix_iload_n (i := 1) (j := 1) X (ix_tb_at tb_X12_about 0 rfl) rfl rfl (pc1 := 1) rfl ?_
  rcases Classical.em (x1 = 0) with q_1 | q_1
  · have h := ix_ift q_1 h
    refine ix_swin (tgt := 56) X (ix_tb_at tb_X12_about 1 rfl) (by rw [q_1]; decide) (by rw [q_1]; decide) (by rw [q_1]; rfl) (by decide) ?_
    refine ix_aload_n (i := 0) (j := 0) X (ix_tb_at tb_X12_about 2 rfl) rfl rfl (pc1 := 57) rfl ?_
    obtain ⟨k_2, h⟩ := ix_ck_some h
    refine iz_getI X fl_RX12_246 k_2 (ix_tb_at tb_X12_about 3 rfl) (pc1 := 60) rfl ?_
    exact ix_iret X hr hlk (ix_r2 (f := fun r => some (.int r)) (g := ix_w z) h) (ix_tb_at tb_X12_about 4 rfl)
  · have h := ix_iff q_1 h
    rcases Classical.em (x1 = 1) with q_3 | q_3
    · have h := ix_ift q_3 h
      refine ix_swin (tgt := 61) X (ix_tb_at tb_X12_about 1 rfl) (by rw [q_3]; decide) (by rw [q_3]; decide) (by rw [q_3]; rfl) (by decide) ?_
      refine ix_aload_n (i := 0) (j := 0) X (ix_tb_at tb_X12_about 5 rfl) rfl rfl (pc1 := 62) rfl ?_
      obtain ⟨k_4, h⟩ := ix_ck_some h
      refine iz_getI X fl_RX12_264 k_4 (ix_tb_at tb_X12_about 6 rfl) (pc1 := 65) rfl ?_
      exact ix_iret X hr hlk (ix_r2 (f := fun r => some (.int r)) (g := ix_w z) h) (ix_tb_at tb_X12_about 7 rfl)
    · have h := ix_iff q_3 h
      rcases Classical.em (x1 = 2) with q_5 | q_5
      · have h := ix_ift q_5 h
        refine ix_swin (tgt := 66) X (ix_tb_at tb_X12_about 1 rfl) (by rw [q_5]; decide) (by rw [q_5]; decide) (by rw [q_5]; rfl) (by decide) ?_
        refine ix_aload_n (i := 0) (j := 0) X (ix_tb_at tb_X12_about 8 rfl) rfl rfl (pc1 := 67) rfl ?_
        obtain ⟨k_6, h⟩ := ix_ck_some h
        refine iz_getI X fl_RX12_273 k_6 (ix_tb_at tb_X12_about 9 rfl) (pc1 := 70) rfl ?_
        exact ix_iret X hr hlk (ix_r2 (f := fun r => some (.int r)) (g := ix_w z) h) (ix_tb_at tb_X12_about 10 rfl)
      · have h := ix_iff q_5 h
        rcases Classical.em (x1 = 3) with q_7 | q_7
        · have h := ix_ift q_7 h
          refine ix_swin (tgt := 71) X (ix_tb_at tb_X12_about 1 rfl) (by rw [q_7]; decide) (by rw [q_7]; decide) (by rw [q_7]; rfl) (by decide) ?_
          refine ix_aload_n (i := 0) (j := 0) X (ix_tb_at tb_X12_about 11 rfl) rfl rfl (pc1 := 72) rfl ?_
          obtain ⟨k_8, h⟩ := ix_ck_some h
          obtain ⟨b_9, q_10, h⟩ := ix_bd1_ex h
          refine iz_getR X fl_RX12_62 k_8 q_10 (ix_tb_at tb_X12_about 12 rfl) (pc1 := 75) rfl ?_
          refine ix_aload_n (i := 0) (j := 0) X (ix_tb_at tb_X12_about 13 rfl) rfl rfl (pc1 := 76) rfl ?_
          refine iz_getI X fl_RX12_273 k_8 (ix_tb_at tb_X12_about 14 rfl) (pc1 := 79) rfl ?_
          obtain ⟨k_11, h⟩ := ix_ck_some h
          refine iz_iald X k_11 (ix_tb_at tb_X12_about 15 rfl) (pc1 := 80) rfl ?_
          exact ix_iret X hr hlk (ix_r2 (f := fun r => some (.int r)) (g := ix_w z) h) (ix_tb_at tb_X12_about 16 rfl)
        · have h := ix_iff q_7 h
          rcases Classical.em (x1 = 4) with q_12 | q_12
          · have h := ix_ift q_12 h
            refine ix_swin (tgt := 81) X (ix_tb_at tb_X12_about 1 rfl) (by rw [q_12]; decide) (by rw [q_12]; decide) (by rw [q_12]; rfl) (by decide) ?_
            refine ix_aload_n (i := 0) (j := 0) X (ix_tb_at tb_X12_about 17 rfl) rfl rfl (pc1 := 82) rfl ?_
            obtain ⟨k_13, h⟩ := ix_ck_some h
            refine iz_getI X fl_RX12_427 k_13 (ix_tb_at tb_X12_about 18 rfl) (pc1 := 85) rfl ?_
            exact ix_iret X hr hlk (ix_r2 (f := fun r => some (.int r)) (g := ix_w z) h) (ix_tb_at tb_X12_about 19 rfl)
          · have h := ix_iff q_12 h
            rcases Classical.em (x1 = 5) with q_14 | q_14
            · have h := ix_ift q_14 h
              refine ix_swin (tgt := 86) X (ix_tb_at tb_X12_about 1 rfl) (by rw [q_14]; decide) (by rw [q_14]; decide) (by rw [q_14]; rfl) (by decide) ?_
              refine ix_aload_n (i := 0) (j := 0) X (ix_tb_at tb_X12_about 20 rfl) rfl rfl (pc1 := 87) rfl ?_
              obtain ⟨k_15, h⟩ := ix_ck_some h
              refine iz_getI X fl_RX12_374 k_15 (ix_tb_at tb_X12_about 21 rfl) (pc1 := 90) rfl ?_
              exact ix_iret X hr hlk (ix_r2 (f := fun r => some (.int r)) (g := ix_w z) h) (ix_tb_at tb_X12_about 22 rfl)
            · have h := ix_iff q_14 h
              rcases Classical.em (x1 = 6) with q_16 | q_16
              · have h := ix_ift q_16 h
                refine ix_swin (tgt := 91) X (ix_tb_at tb_X12_about 1 rfl) (by rw [q_16]; decide) (by rw [q_16]; decide) (by rw [q_16]; rfl) (by decide) ?_
                refine ix_aload_n (i := 0) (j := 0) X (ix_tb_at tb_X12_about 23 rfl) rfl rfl (pc1 := 92) rfl ?_
                obtain ⟨k_17, h⟩ := ix_ck_some h
                refine iz_getI X fl_RX12_605 k_17 (ix_tb_at tb_X12_about 24 rfl) (pc1 := 95) rfl ?_
                exact ix_iret X hr hlk (ix_r2 (f := fun r => some (.int r)) (g := ix_w z) h) (ix_tb_at tb_X12_about 25 rfl)
              · have h := ix_iff q_16 h
                rcases Classical.em (x1 = 7) with q_18 | q_18
                · have h := ix_ift q_18 h
                  refine ix_swin (tgt := 96) X (ix_tb_at tb_X12_about 1 rfl) (by rw [q_18]; decide) (by rw [q_18]; decide) (by rw [q_18]; rfl) (by decide) ?_
                  refine ix_aload_n (i := 0) (j := 0) X (ix_tb_at tb_X12_about 26 rfl) rfl rfl (pc1 := 97) rfl ?_
                  obtain ⟨k_19, h⟩ := ix_ck_some h
                  refine iz_getI X fl_RX12_630 k_19 (ix_tb_at tb_X12_about 27 rfl) (pc1 := 100) rfl ?_
                  exact ix_iret X hr hlk (ix_r2 (f := fun r => some (.int r)) (g := ix_w z) h) (ix_tb_at tb_X12_about 28 rfl)
                · have h := ix_iff q_18 h
                  rcases Classical.em (x1 = 8) with q_20 | q_20
                  · have h := ix_ift q_20 h
                    refine ix_swin (tgt := 101) X (ix_tb_at tb_X12_about 1 rfl) (by rw [q_20]; decide) (by rw [q_20]; decide) (by rw [q_20]; rfl) (by decide) ?_
                    refine ix_aload_n (i := 0) (j := 0) X (ix_tb_at tb_X12_about 29 rfl) rfl rfl (pc1 := 102) rfl ?_
                    obtain ⟨k_21, h⟩ := ix_ck_some h
                    refine iz_getI X fl_RX12_259 k_21 (ix_tb_at tb_X12_about 30 rfl) (pc1 := 105) rfl ?_
                    exact ix_iret X hr hlk (ix_r2 (f := fun r => some (.int r)) (g := ix_w z) h) (ix_tb_at tb_X12_about 31 rfl)
                  · have h := ix_iff q_20 h
                    rcases Classical.em (x1 = 9) with q_22 | q_22
                    · have h := ix_ift q_22 h
                      refine ix_swin (tgt := 106) X (ix_tb_at tb_X12_about 1 rfl) (by rw [q_22]; decide) (by rw [q_22]; decide) (by rw [q_22]; rfl) (by decide) ?_
                      refine ix_aload_n (i := 0) (j := 0) X (ix_tb_at tb_X12_about 32 rfl) rfl rfl (pc1 := 107) rfl ?_
                      obtain ⟨k_23, h⟩ := ix_ck_some h
                      refine iz_getI X fl_RX12_412 k_23 (ix_tb_at tb_X12_about 33 rfl) (pc1 := 110) rfl ?_
                      exact ix_iret X hr hlk (ix_r2 (f := fun r => some (.int r)) (g := ix_w z) h) (ix_tb_at tb_X12_about 34 rfl)
                    · have h := ix_iff q_22 h
                      refine ix_swout (tgt := 111) X (ix_tb_at tb_X12_about 1 rfl) (by have wq_1 := ix_ne (a := 0) (by decide) q_1; have wq_3 := ix_ne (a := 1) (by decide) q_3; have wq_5 := ix_ne (a := 2) (by decide) q_5; have wq_7 := ix_ne (a := 3) (by decide) q_7; have wq_12 := ix_ne (a := 4) (by decide) q_12; have wq_14 := ix_ne (a := 5) (by decide) q_14; have wq_16 := ix_ne (a := 6) (by decide) q_16; have wq_18 := ix_ne (a := 7) (by decide) q_18; have wq_20 := ix_ne (a := 8) (by decide) q_20; have wq_22 := ix_ne (a := 9) (by decide) q_22; omega) (by decide) ?_
                      refine ix_aload_n (i := 0) (j := 0) X (ix_tb_at tb_X12_about 35 rfl) rfl rfl (pc1 := 112) rfl ?_
                      refine ix_sipush (v := (-1001)) X (ix_tb_at tb_X12_about 36 rfl) (by decide) (pc1 := 115) rfl ?_
                      obtain ⟨k_26, h⟩ := ix_ck_some h
                      obtain ⟨r_27, d_24, h_25, h⟩ := ix_bd2_ex h
                      refine ix_callV (As := [.int ((-1001))]) (rest := []) (ci := 11) (T := TX12) (nf := 116) X mf_X12_fail mi_X12_fail ms_X12_fail rfl (Nat.le_of_ble_eq_true rfl) ml_RX12_242 ⟨Nat.le_of_ble_eq_true rfl, Nat.le_of_ble_eq_true rfl⟩ ⟨Nat.le_of_ble_eq_true rfl, Nat.le_of_ble_eq_true rfl⟩ rfl (Nat.le_of_ble_eq_true rfl) (ix_tb_at tb_X12_about 37 rfl) ⟨k_26.1, List.mem_singleton.mp k_26.2⟩ (c_X12_fail hKp h_25) rfl (pc1 := 118) rfl ?_
                      exact ix_iret X hr hlk (ix_r2 (f := fun r => some (.int r)) (g := ix_w z) h) (ix_tb_at tb_X12_about 38 rfl)

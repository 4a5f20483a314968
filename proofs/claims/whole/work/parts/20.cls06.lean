theorem mf_X11_unbar : ix_mf yX11_unbar cX11_unbar 2 (some .int) 0 := ⟨ix_wm (i := 1509) (by decide +kernel), ix_wm (i := 1) (by decide +kernel), ⟨by decide +kernel, by decide +kernel⟩, by decide +kernel, by decide +kernel⟩
theorem mi_X11_unbar : Cond.instanceMethod yX11_unbar ∈ lw_tbl := ix_wm (i := 1507) (by decide +kernel)
theorem mf_X11_count : ix_mf yX11_count cX11_count 6 (some .int) 2 := ⟨ix_wm (i := 1513) (by decide +kernel), ix_wm (i := 1) (by decide +kernel), ⟨by decide +kernel, by decide +kernel⟩, by decide +kernel, by decide +kernel⟩
theorem mi_X11_count : Cond.instanceMethod yX11_count ∈ lw_tbl := ix_wm (i := 1511) (by decide +kernel)
theorem ml_RX11_446 : tables_1[1522]? = some (Cond.methodLink RX11 446 yX1_settle) := by decide +kernel
theorem mf_X11_forceCase : ix_mf yX11_forceCase cX11_forceCase 2 (some .int) 0 := ⟨ix_wm (i := 1521) (by decide +kernel), ix_wm (i := 1) (by decide +kernel), ⟨by decide +kernel, by decide +kernel⟩, by decide +kernel, by decide +kernel⟩
theorem mi_X11_forceCase : Cond.instanceMethod yX11_forceCase ∈ lw_tbl := ix_wm (i := 1520) (by decide +kernel)
theorem ms_X11_forceCase : Cond.selects yX11_forceCase.cls yX11_forceCase yX11_forceCase ∈ lw_tbl := List.mem_append_left _ (List.mem_of_getElem? (i := 57) (by decide +kernel))
theorem ml_RX11_376 : tables_1[1518]? = some (Cond.methodLink RX11 376 yX11_forceCase) := by decide +kernel
theorem fl_RX11_379 : ix_flb 224 0 true RX11 379 "ClauseCourt$Board" [1] 12 0 = true := by decide +kernel
theorem mf_X11_forced : ix_mf yX11_forced cX11_forced 1 (some .int) 0 := ⟨ix_wm (i := 1517) (by decide +kernel), ix_wm (i := 1) (by decide +kernel), ⟨by decide +kernel, by decide +kernel⟩, by decide +kernel, by decide +kernel⟩
theorem mi_X11_forced : Cond.instanceMethod yX11_forced ∈ lw_tbl := ix_wm (i := 1515) (by decide +kernel)
theorem fl_RX11_382 : ix_flb 221 0 true RX11 382 "ClauseCourt$Board" [1] 11 2 = true := by decide +kernel
theorem mf_X11_forcedAt : ix_mf yX11_forcedAt cX11_forcedAt 2 (some .int) 1 := ⟨ix_wm (i := 1526) (by decide +kernel), ix_wm (i := 1) (by decide +kernel), ⟨by decide +kernel, by decide +kernel⟩, by decide +kernel, by decide +kernel⟩
theorem mi_X11_forcedAt : Cond.instanceMethod yX11_forcedAt ∈ lw_tbl := ix_wm (i := 1524) (by decide +kernel)
theorem ml_RX11_385 : tables_1[1531]? = some (Cond.methodLink RX11 385 yX1_valueOf) := by decide +kernel
theorem fl_RX11_388 : ix_flb 218 0 true RX11 388 "ClauseCourt$Board" [1] 10 2 = true := by decide +kernel
theorem mf_X11_why : ix_mf yX11_why cX11_why 2 (some .int) 1 := ⟨ix_wm (i := 1530) (by decide +kernel), ix_wm (i := 1) (by decide +kernel), ⟨by decide +kernel, by decide +kernel⟩, by decide +kernel, by decide +kernel⟩
theorem mi_X11_why : Cond.instanceMethod yX11_why ∈ lw_tbl := ix_wm (i := 1528) (by decide +kernel)
theorem ms_X4_noted : Cond.selects yX4_noted.cls yX4_noted yX4_noted ∈ lw_tbl := ix_wm (i := 1538) (by decide +kernel)
theorem ml_RX11_391 : tables_1[1536]? = some (Cond.methodLink RX11 391 yX4_noted) := by decide +kernel
theorem mf_X11_trace : ix_mf yX11_trace cX11_trace 2 (some .int) 1 := ⟨ix_wm (i := 1535) (by decide +kernel), ix_wm (i := 1) (by decide +kernel), ⟨by decide +kernel, by decide +kernel⟩, by decide +kernel, by decide +kernel⟩
theorem mi_X11_trace : Cond.instanceMethod yX11_trace ∈ lw_tbl := ix_wm (i := 1533) (by decide +kernel)
theorem mf_X11_addUp : ix_mf yX11_addUp cX11_addUp 8 (some .long) 4 := ⟨ix_wm (i := 1548) (by decide +kernel), ix_wm (i := 1) (by decide +kernel), ⟨by decide +kernel, by decide +kernel⟩, by decide +kernel, by decide +kernel⟩
theorem st_X11_addUp : Cond.static yX11_addUp ∈ lw_tbl := ix_wm (i := 1547) (by decide +kernel)
theorem ml_RX11_398 : tables_1[1546]? = some (Cond.methodLink RX11 398 yX11_addUp) := by decide +kernel
theorem mf_X11_digest : ix_mf yX11_digest cX11_digest 4 (some .long) 0 := ⟨ix_wm (i := 1543) (by decide +kernel), ix_wm (i := 1) (by decide +kernel), ⟨by decide +kernel, by decide +kernel⟩, by decide +kernel, by decide +kernel⟩
theorem mi_X11_digest : Cond.instanceMethod yX11_digest ∈ lw_tbl := ix_wm (i := 1541) (by decide +kernel)
theorem fl_RX11_402 : ix_flb 362 0 false RX11 402 "ClauseCourt" [10] 17 0 = true := by decide +kernel
theorem mf_X11_status : ix_mf yX11_status cX11_status 1 (some .int) 0 := ⟨ix_wm (i := 1552) (by decide +kernel), ix_wm (i := 1) (by decide +kernel), ⟨by decide +kernel, by decide +kernel⟩, by decide +kernel, by decide +kernel⟩
theorem mi_X11_status : Cond.instanceMethod yX11_status ∈ lw_tbl := ix_wm (i := 1550) (by decide +kernel)
theorem ml_RX11_405 : tables_1[1557]? = some (Cond.methodLink RX11 405 yX7_itemTotal) := by decide +kernel
theorem fl_RX11_408 : ix_flb 43 0 true RX11 408 "ClauseCourt$Desk" [4] 1 0 = true := by decide +kernel
theorem mf_X11_about : ix_mf yX11_about cX11_about 2 (some .int) 1 := ⟨ix_wm (i := 1556) (by decide +kernel), ix_wm (i := 1) (by decide +kernel), ⟨by decide +kernel, by decide +kernel⟩, by decide +kernel, by decide +kernel⟩
theorem mi_X11_about : Cond.instanceMethod yX11_about ∈ lw_tbl := ix_wm (i := 1554) (by decide +kernel)
def tab_X11_unbar : List (Nat × Instr × Nat) := [(0, .aload_n 0, 1), (1, .getfield 41, 3), (4, .getfield 192, 3), (7, .getfield 224, 3), (10, .istore_n 1, 1), (11, .aload_n 0, 1), (12, .getfield 41, 3), (15, .getfield 192, 3), (18, .iconst 0, 1), (19, .invokevirtual 328, 3), (22, .iload_n 1, 1), (23, .ireturn, 1)]
theorem tb_X11_unbar : ix_tab cX11_unbar tab_X11_unbar := by
  unfold ix_tab
  decide +kernel
noncomputable def f_X11_unbar (n : Nat) (z : ix_Z) (a0 : Nat) (d : ix_D2) : Option (Int32 × ix_D2) :=
  ix_ck (ix_ok z [10] a0) (ix_bd1 (z.1 a0 6) (fun b_2 => ix_ck (ix_ok z [8] b_2) (ix_bd1 (z.1 b_2 1) (fun b_5 => ix_ck (ix_ok z [7] b_5) (ix_lt (d.1 b_5 2) (fun x1_8 => ix_bd1 (f_X7_shortenTo n z b_5 0 d) (fun d_10 => some (x1_8, d_10))))))))
set_option maxRecDepth 20000 in
theorem c_X11_unbar {l : Launch} {K : ix_Cx} (hKp : ix_Kp K) {n : Nat} {z : ix_Z} {a0 : Nat} {d : ix_D2} {r : Int32} {d1 : ix_D2} (h : f_X11_unbar n z a0 d = some (r, d1)) : ix_M l K yX11_unbar cX11_unbar 2 (some .int) 1 21 0 0 [.ref (K.2.2.1 + a0)] (ix_w z d) (some (.int r)) (ix_w z d1) := by
  refine ix_met mf_X11_unbar hKp (Nat.le_of_ble_eq_true rfl) ?_
  intro p e s m args below meth c hr hlk hnm X
  have X : ix_X p s m args c K cX11_unbar RX11 2 := X
  show ix_G p l e (ix_rm 1 21 0 0) s m args below meth c (MQ below (ix_Post K (some (.int r)) (ix_w z d1)) args s 0 0 (ix_A K)) K 2 0 0 0 [(0, .ref (K.2.2.1 + a0))] [] (ix_w z d)
  unfold f_X11_unbar at h
  refine ix_aload_n (i := 0) (j := 0) X (ix_tb_at tb_X11_unbar 0 rfl) rfl rfl (pc1 := 1) rfl ?_
  obtain ⟨k_1, h⟩ := ix_ck_some h
  obtain ⟨b_2, q_3, h⟩ := ix_bd1_ex h
  refine iz_getR X fl_RX11_41 k_1 q_3 (ix_tb_at tb_X11_unbar 1 rfl) (pc1 := 4) rfl ?_
  obtain ⟨k_4, h⟩ := ix_ck_some h
  obtain ⟨b_5, q_6, h⟩ := ix_bd1_ex h
  refine iz_getR X fl_RX11_192 k_4 q_6 (ix_tb_at tb_X11_unbar 2 rfl) (pc1 := 7) rfl ?_
  obtain ⟨k_7, h⟩ := ix_ck_some h
  refine iz_getI X fl_RX11_224 k_7 (ix_tb_at tb_X11_unbar 3 rfl) (pc1 := 10) rfl ?_
  obtain ⟨x1_8, e_9, h⟩ := ix_lt_ex h
  refine ix_nmi e_9 ?_
  refine ix_istore_n (i := 1) (L1 := [(1, .int x1_8), (0, .ref (K.2.2.1 + a0))]) X (ix_tb_at tb_X11_unbar 4 rfl) rfl (Nat.le_of_ble_eq_true rfl) rfl (pc1 := 11) rfl ?_
  refine ix_aload_n (i := 0) (j := 1) X (ix_tb_at tb_X11_unbar 5 rfl) rfl rfl (pc1 := 12) rfl ?_
  refine iz_getR X fl_RX11_41 k_1 q_3 (ix_tb_at tb_X11_unbar 6 rfl) (pc1 := 15) rfl ?_
  refine iz_getR X fl_RX11_192 k_4 q_6 (ix_tb_at tb_X11_unbar 7 rfl) (pc1 := 18) rfl ?_
  refine ix_iconst (v := 0) X (ix_tb_at tb_X11_unbar 8 rfl) (by decide) (pc1 := 19) rfl ?_
  obtain ⟨d_10, h_11, h⟩ := ix_bd1_ex h
  refine ix_callV (As := [.int 0]) (rest := []) (ci := 7) (T := TX7) (nf := 3) X mf_X7_shortenTo mi_X7_shortenTo ms_X7_shortenTo rfl (Nat.le_of_ble_eq_true rfl) ml_RX11_328 ⟨Nat.le_of_ble_eq_true rfl, Nat.le_of_ble_eq_true rfl⟩ ⟨Nat.le_of_ble_eq_true rfl, Nat.le_of_ble_eq_true rfl⟩ rfl (Nat.le_of_ble_eq_true rfl) (ix_tb_at tb_X11_unbar 9 rfl) ⟨k_7.1, List.mem_singleton.mp k_7.2⟩ (c_X7_shortenTo hKp h_11) rfl (pc1 := 22) rfl ?_
  refine ix_iload_n (i := 1) (j := 0) X (ix_tb_at tb_X11_unbar 10 rfl) rfl rfl (pc1 := 23) rfl ?_
  exact ix_iret X hr hlk (ix_r2 (f := fun r => some (.int r)) (g := ix_w z) h) (ix_tb_at tb_X11_unbar 11 rfl)
def tab_X11_count : List (Nat × Instr × Nat) := [(0, .iload_n 1, 1), (1, .iconst 1, 1), (2, .if_icmp .lt 16, 3), (5, .iload_n 1, 1), (6, .bipush 64, 2), (8, .if_icmp .gt 10, 3), (11, .iload_n 2, 1), (12, .invokestatic 263, 3), (15, .ifCond .ne 11, 3), (18, .aload_n 0, 1), (19, .sipush (-1001), 3), (22, .invokevirtual 73, 3), (25, .ireturn, 1), (26, .aload_n 0, 1), (27, .getfield 45, 3), (30, .getfield 192, 3), (33, .iconst 0, 1), (34, .invokevirtual 328, 3), (37, .iload_n 2, 1), (38, .istore_n 3, 1), (39, .iconst 0, 1), (40, .istore 4, 2), (42, .iload 4, 2), (44, .iload_n 1, 1), (45, .if_icmp .ge 72, 3), (48, .aload_n 0, 1), (49, .getfield 45, 3), (52, .aload_n 0, 1), (53, .getfield 28, 3), (56, .invokevirtual 370, 3), (59, .aload_n 0, 1), (60, .getfield 45, 3), (63, .iload_n 3, 1), (64, .invokevirtual 287, 3), (67, .istore 5, 2), (69, .iload_n 3, 1), (70, .aload_n 0, 1), (71, .getfield 45, 3), (74, .getfield 174, 3), (77, .iconst 1, 1), (78, .iaload, 1), (79, .isub, 1), (80, .istore_n 3, 1), (81, .iload 5, 2), (83, .iconst 1, 1), (84, .if_icmp .eq 16, 3), (87, .iload 5, 2), (89, .ifCond .ne 8, 3), (92, .iload 4, 2), (94, .goto 5, 3), (97, .iload 5, 2), (99, .ireturn, 1), (100, .aload_n 0, 1), (101, .getfield 45, 3), (104, .aload_n 0, 1), (105, .getfield 28, 3), (108, .invokevirtual 373, 3), (111, .iinc 4 1, 3), (114, .goto (-72), 3), (117, .iload_n 1, 1), (118, .ireturn, 1)]
theorem tb_X11_count : ix_tab cX11_count tab_X11_count := by
  unfold ix_tab
  decide +kernel
noncomputable def f_X11_count_18 (n : Nat) (z : ix_Z)  (a0 : Nat) (d : ix_D2) : Option (Int32 × ix_D2) :=
  ix_ck (ix_ok z [10] a0) (ix_bd2 (f_X11_refuse n z a0 ((-1001)) d) (fun r_5 d_2 => some (r_5, d_2)))
noncomputable def b_X11_count_42 (n : Nat) (z : ix_Z)  (a0 : Nat) (x1 : Int32) (rec42 : Int32 → Int32 → ix_D2 → Option (Int32 × ix_D2)) (x3 : Int32) (x4 : Int32) (d : ix_D2) : Option (Int32 × ix_D2) :=
  ix_if (x1 ≤ x4) (some (x1, d)) (ix_ck (ix_ok z [10] a0) (ix_bd1 (z.1 a0 7) (fun b_22 => ix_bd1 (z.1 a0 3) (fun b_24 => ix_ck (ix_ok z [8] b_22) (ix_bd1 (f_X9_openNext n z b_22 b_24 d) (fun d_26 => ix_bd2 (f_X9_go n z b_22 x3 d_26) (fun r_31 d_29 => ix_bd1 (z.1 b_22 10) (fun b_32 => ix_ck (ix_ix z 20 b_32 1) (ix_lt (x3 - (d_29.1 b_32 (ix_n 1))) (fun x3_35 => ix_if (r_31 = 1) (ix_bd1 (f_X9_barTruth n z b_22 b_24 d_29) (fun d_38 => ix_lt (x4 + 1) (fun x4_40 => rec42 x3_35 x4_40 d_38))) (ix_if (r_31 = 0) (some (x4, d_29)) (some (r_31, d_29)))))))))))))
noncomputable def f_X11_count_42 (n : Nat) (z : ix_Z)  (a0 : Nat) (x1 : Int32) (x3 : Int32) (x4 : Int32) (d : ix_D2) : Option (Int32 × ix_D2) := ix_fix (b_X11_count_42 n z  a0 x1) (fun _ _ _ => none) n x3 x4 d
noncomputable def f_X11_count (n : Nat) (z : ix_Z) (a0 : Nat) (x1 : Int32) (x2 : Int32) (d : ix_D2) : Option (Int32 × ix_D2) :=
  ix_if (x1 < 1) (f_X11_count_18 n z  a0 d) (ix_if (64 < x1) (f_X11_count_18 n z  a0 d) (ix_bd2 (f_X11_areSteps n z x2 d) (fun r_9 d_7 => ix_if (r_9 = 0) (f_X11_count_18 n z  a0 d_7) (ix_ck (ix_ok z [10] a0) (ix_bd1 (z.1 a0 7) (fun b_12 => ix_ck (ix_ok z [8] b_12) (ix_bd1 (z.1 b_12 1) (fun b_15 => ix_ck (ix_ok z [7] b_15) (ix_bd1 (f_X7_shortenTo n z b_15 0 d_7) (fun d_17 => f_X11_count_42 n z  a0 x1 x2 0 d_17))))))))))
set_option maxRecDepth 20000 in
theorem t_X11_count_18 {l : Launch} {p : Program} {e : Env} {s : State} {m : MethodId} {args : Array Value} {below : List Frame} {meth : Method} {c : Code} {K : ix_Cx} (hKp : ix_Kp K) {n : Nat} {z : ix_Z} (X : ix_X p s m args c K cX11_count RX11 6) (hr : meth.sig.returnType = (some .int)) (hlk : meth.locks = false)  {a0 : Nat} {r : Int32} {d1 : ix_D2}  {d : ix_D2} (h : f_X11_count_18 n z  a0 d = some (r, d1)) : ix_G p l e (ix_rm 6 145 0 0) s m args below meth c (MQ below (ix_Post K (some (.int r)) (ix_w z d1)) args s 0 0 (ix_A K)) K 6 0 0 18 [(0, .ref (K.2.2.1 + a0))] [] (ix_w z d) := by
  unfold f_X11_count_18 at h
  refine ix_aload_n (i := 0) (j := 0) X (ix_tb_at tb_X11_count 9 rfl) rfl rfl (pc1 := 19) rfl ?_
  refine ix_sipush (v := (-1001)) X (ix_tb_at tb_X11_count 10 rfl) (by decide) (pc1 := 22) rfl ?_
  obtain ⟨k_4, h⟩ := ix_ck_some h
  obtain ⟨r_5, d_2, h_3, h⟩ := ix_bd2_ex h
  refine ix_callV (As := [.int ((-1001))]) (rest := []) (ci := 10) (T := TX11) (nf := 18) X mf_X11_refuse mi_X11_refuse ms_X11_refuse rfl (Nat.le_of_ble_eq_true rfl) ml_RX11_73 ⟨Nat.le_of_ble_eq_true rfl, Nat.le_of_ble_eq_true rfl⟩ ⟨Nat.le_of_ble_eq_true rfl, Nat.le_of_ble_eq_true rfl⟩ rfl (Nat.le_of_ble_eq_true rfl) (ix_tb_at tb_X11_count 11 rfl) ⟨k_4.1, List.mem_singleton.mp k_4.2⟩ (c_X11_refuse hKp h_3) rfl (pc1 := 25) rfl ?_
  exact ix_iret X hr hlk (ix_r2 (f := fun r => some (.int r)) (g := ix_w z) h) (ix_tb_at tb_X11_count 12 rfl)
set_option maxRecDepth 20000 in
theorem tb_X11_count_42 {l : Launch} {p : Program} {e : Env} {s : State} {m : MethodId} {args : Array Value} {below : List Frame} {meth : Method} {c : Code} {K : ix_Cx} (hKp : ix_Kp K) {n : Nat} {z : ix_Z} (X : ix_X p s m args c K cX11_count RX11 6) (hr : meth.sig.returnType = (some .int)) (hlk : meth.locks = false)  {a0 : Nat} {x1 : Int32} {rec42 : Int32 → Int32 → ix_D2 → Option (Int32 × ix_D2)} {r : Int32} {d1 : ix_D2} (hrec42 : ∀ (x3 : Int32) (x4 : Int32) (d : ix_D2), rec42 x3 x4 d = some (r, d1) → ix_G p l e (ix_rm 6 145 0 0) s m args below meth c (MQ below (ix_Post K (some (.int r)) (ix_w z d1)) args s 0 0 (ix_A K)) K 6 0 0 42 [(0, .ref (K.2.2.1 + a0)), (1, .int x1), (3, .int x3), (4, .int x4)] [] (ix_w z d)) {x3 : Int32} {x4 : Int32} {d : ix_D2} (h : b_X11_count_42 n z  a0 x1 rec42 x3 x4 d = some (r, d1)) : ix_G p l e (ix_rm 6 145 0 0) s m args below meth c (MQ below (ix_Post K (some (.int r)) (ix_w z d1)) args s 0 0 (ix_A K)) K 6 0 0 42 [(0, .ref (K.2.2.1 + a0)), (1, .int x1), (3, .int x3), (4, .int x4)] [] (ix_w z d) := by
  unfold b_X11_count_42 at h
  refine ix_iload (i := 4) (j := 3) X (ix_tb_at tb_X11_count 22 rfl) rfl (pc1 := 44) rfl ?_
  refine ix_iload_n (i := 1) (j := 1) X (ix_tb_at tb_X11_count 23 rfl) rfl rfl (pc1 := 45) rfl ?_
  refine ix_icmp_ge (tgt := 117) X (ix_tb_at tb_X11_count 24 rfl) (by decide) (pc1 := 48) rfl (fun q_20 => ?_) (fun q_20 => ?_)
  · have h := ix_ift q_20 h
    refine ix_iload_n (i := 1) (j := 1) X (ix_tb_at tb_X11_count 59 rfl) rfl rfl (pc1 := 118) rfl ?_
    exact ix_iret X hr hlk (ix_r2 (f := fun r => some (.int r)) (g := ix_w z) h) (ix_tb_at tb_X11_count 60 rfl)
  · have h := ix_iff q_20 h
    refine ix_aload_n (i := 0) (j := 0) X (ix_tb_at tb_X11_count 25 rfl) rfl rfl (pc1 := 49) rfl ?_
    obtain ⟨k_21, h⟩ := ix_ck_some h
    obtain ⟨b_22, q_23, h⟩ := ix_bd1_ex h
    refine iz_getR X fl_RX11_45 k_21 q_23 (ix_tb_at tb_X11_count 26 rfl) (pc1 := 52) rfl ?_
    refine ix_aload_n (i := 0) (j := 0) X (ix_tb_at tb_X11_count 27 rfl) rfl rfl (pc1 := 53) rfl ?_
    obtain ⟨b_24, q_25, h⟩ := ix_bd1_ex h
    refine iz_getR X fl_RX11_28 k_21 q_25 (ix_tb_at tb_X11_count 28 rfl) (pc1 := 56) rfl ?_
    obtain ⟨k_28, h⟩ := ix_ck_some h
    obtain ⟨d_26, h_27, h⟩ := ix_bd1_ex h
    refine ix_callV (As := [.ref (K.2.2.1 + b_24)]) (rest := []) (ci := 8) (T := TX9) (nf := 20) X mf_X9_openNext mi_X9_openNext ms_X9_openNext rfl (Nat.le_of_ble_eq_true rfl) ml_RX11_370 ⟨Nat.le_of_ble_eq_true rfl, Nat.le_of_ble_eq_true rfl⟩ ⟨Nat.le_of_ble_eq_true rfl, Nat.le_of_ble_eq_true rfl⟩ rfl (Nat.le_of_ble_eq_true rfl) (ix_tb_at tb_X11_count 29 rfl) ⟨k_28.1, List.mem_singleton.mp k_28.2⟩ (c_X9_openNext hKp h_27) rfl (pc1 := 59) rfl ?_
    refine ix_aload_n (i := 0) (j := 0) X (ix_tb_at tb_X11_count 30 rfl) rfl rfl (pc1 := 60) rfl ?_
    refine iz_getR X fl_RX11_45 k_21 q_23 (ix_tb_at tb_X11_count 31 rfl) (pc1 := 63) rfl ?_
    refine ix_iload_n (i := 3) (j := 2) X (ix_tb_at tb_X11_count 32 rfl) rfl rfl (pc1 := 64) rfl ?_
    obtain ⟨r_31, d_29, h_30, h⟩ := ix_bd2_ex h
    refine ix_callV (As := [.int x3]) (rest := []) (ci := 8) (T := TX9) (nf := 20) X mf_X9_go mi_X9_go ms_X9_go rfl (Nat.le_of_ble_eq_true rfl) ml_RX11_287 ⟨Nat.le_of_ble_eq_true rfl, Nat.le_of_ble_eq_true rfl⟩ ⟨Nat.le_of_ble_eq_true rfl, Nat.le_of_ble_eq_true rfl⟩ rfl (Nat.le_of_ble_eq_true rfl) (ix_tb_at tb_X11_count 33 rfl) ⟨k_28.1, List.mem_singleton.mp k_28.2⟩ (c_X9_go hKp h_30) rfl (pc1 := 67) rfl ?_
    refine ix_istore (i := 5) (L1 := [(5, .int r_31), (0, .ref (K.2.2.1 + a0)), (1, .int x1), (3, .int x3), (4, .int x4)]) X (ix_tb_at tb_X11_count 34 rfl) (Nat.le_of_ble_eq_true rfl) rfl (pc1 := 69) rfl ?_
    refine ix_iload_n (i := 3) (j := 3) X (ix_tb_at tb_X11_count 35 rfl) rfl rfl (pc1 := 70) rfl ?_
    refine ix_aload_n (i := 0) (j := 1) X (ix_tb_at tb_X11_count 36 rfl) rfl rfl (pc1 := 71) rfl ?_
    refine iz_getR X fl_RX11_45 k_21 q_23 (ix_tb_at tb_X11_count 37 rfl) (pc1 := 74) rfl ?_
    obtain ⟨b_32, q_33, h⟩ := ix_bd1_ex h
    refine iz_getR X fl_RX11_174 k_28 q_33 (ix_tb_at tb_X11_count 38 rfl) (pc1 := 77) rfl ?_
    refine ix_iconst (v := 1) X (ix_tb_at tb_X11_count 39 rfl) (by decide) (pc1 := 78) rfl ?_
    obtain ⟨k_34, h⟩ := ix_ck_some h
    refine iz_iald X k_34 (ix_tb_at tb_X11_count 40 rfl) (pc1 := 79) rfl ?_
    refine ix_isub X (ix_tb_at tb_X11_count 41 rfl) (pc1 := 80) rfl ?_
    obtain ⟨x3_35, e_36, h⟩ := ix_lt_ex h
    refine ix_nmi e_36 ?_
    refine ix_istore_n (i := 3) (L1 := [(3, .int x3_35), (5, .int r_31), (0, .ref (K.2.2.1 + a0)), (1, .int x1), (4, .int x4)]) X (ix_tb_at tb_X11_count 42 rfl) rfl (Nat.le_of_ble_eq_true rfl) rfl (pc1 := 81) rfl ?_
    refine ix_iload (i := 5) (j := 1) X (ix_tb_at tb_X11_count 43 rfl) rfl (pc1 := 83) rfl ?_
    refine ix_iconst (v := 1) X (ix_tb_at tb_X11_count 44 rfl) (by decide) (pc1 := 84) rfl ?_
    refine ix_icmp_eq (tgt := 100) X (ix_tb_at tb_X11_count 45 rfl) (by decide) (pc1 := 87) rfl (fun q_37 => ?_) (fun q_37 => ?_)
    · have h := ix_ift q_37 h
      refine ix_aload_n (i := 0) (j := 2) X (ix_tb_at tb_X11_count 52 rfl) rfl rfl (pc1 := 101) rfl ?_
      refine iz_getR X fl_RX11_45 k_21 q_23 (ix_tb_at tb_X11_count 53 rfl) (pc1 := 104) rfl ?_
      refine ix_aload_n (i := 0) (j := 2) X (ix_tb_at tb_X11_count 54 rfl) rfl rfl (pc1 := 105) rfl ?_
      refine iz_getR X fl_RX11_28 k_21 q_25 (ix_tb_at tb_X11_count 55 rfl) (pc1 := 108) rfl ?_
      obtain ⟨d_38, h_39, h⟩ := ix_bd1_ex h
      refine ix_callV (As := [.ref (K.2.2.1 + b_24)]) (rest := []) (ci := 8) (T := TX9) (nf := 20) X mf_X9_barTruth mi_X9_barTruth ms_X9_barTruth rfl (Nat.le_of_ble_eq_true rfl) ml_RX11_373 ⟨Nat.le_of_ble_eq_true rfl, Nat.le_of_ble_eq_true rfl⟩ ⟨Nat.le_of_ble_eq_true rfl, Nat.le_of_ble_eq_true rfl⟩ rfl (Nat.le_of_ble_eq_true rfl) (ix_tb_at tb_X11_count 56 rfl) ⟨k_28.1, List.mem_singleton.mp k_28.2⟩ (c_X9_barTruth hKp h_39) rfl (pc1 := 111) rfl ?_
      obtain ⟨x4_40, e_41, h⟩ := ix_lt_ex h
      refine ix_iinc (i := 4) (j := 4) (v := x4_40) (L1 := [(4, .int x4_40), (3, .int x3_35), (5, .int r_31), (0, .ref (K.2.2.1 + a0)), (1, .int x1)]) X (ix_tb_at tb_X11_count 57 rfl) rfl (by rw [oi_1]; exact e_41.symm) (Nat.le_of_ble_eq_true rfl) rfl (pc1 := 114) rfl ?_
      refine ix_goto (tgt := 42) X (ix_tb_at tb_X11_count 58 rfl) (by decide) ?_
      refine ix_sub (L1 := [(0, .ref (K.2.2.1 + a0)), (1, .int x1), (3, .int x3_35), (4, .int x4_40)]) [3, 4, 1, 0] rfl ?_
      exact hrec42 x3_35 x4_40 d_38 h
    · have h := ix_iff q_37 h
      refine ix_iload (i := 5) (j := 1) X (ix_tb_at tb_X11_count 46 rfl) rfl (pc1 := 89) rfl ?_
      refine ix_if_ne (tgt := 97) X (ix_tb_at tb_X11_count 47 rfl) (by decide) (pc1 := 92) rfl (fun q_42 => ?_) (fun q_42 => ?_)
      · have h := ix_iff q_42 h
        refine ix_iload (i := 5) (j := 1) X (ix_tb_at tb_X11_count 50 rfl) rfl (pc1 := 99) rfl ?_
        exact ix_iret X hr hlk (ix_r2 (f := fun r => some (.int r)) (g := ix_w z) h) (ix_tb_at tb_X11_count 51 rfl)
      · have h := ix_ift q_42 h
        refine ix_iload (i := 4) (j := 4) X (ix_tb_at tb_X11_count 48 rfl) rfl (pc1 := 94) rfl ?_
        refine ix_goto (tgt := 99) X (ix_tb_at tb_X11_count 49 rfl) (by decide) ?_
        exact ix_iret X hr hlk (ix_r2 (f := fun r => some (.int r)) (g := ix_w z) h) (ix_tb_at tb_X11_count 51 rfl)
theorem t_X11_count_42 {l : Launch} {p : Program} {e : Env} {s : State} {m : MethodId} {args : Array Value} {below : List Frame} {meth : Method} {c : Code} {K : ix_Cx} (hKp : ix_Kp K) {n : Nat} {z : ix_Z} (X : ix_X p s m args c K cX11_count RX11 6) (hr : meth.sig.returnType = (some .int)) (hlk : meth.locks = false)  {a0 : Nat} {x1 : Int32} {r : Int32} {d1 : ix_D2}  {x3 : Int32} {x4 : Int32} {d : ix_D2} (h : f_X11_count_42 n z  a0 x1 x3 x4 d = some (r, d1)) : ix_G p l e (ix_rm 6 145 0 0) s m args below meth c (MQ below (ix_Post K (some (.int r)) (ix_w z d1)) args s 0 0 (ix_A K)) K 6 0 0 42 [(0, .ref (K.2.2.1 + a0)), (1, .int x1), (3, .int x3), (4, .int x4)] [] (ix_w z d) := by
  have key : ∀ (f : Nat) (x3 : Int32) (x4 : Int32) (d : ix_D2), ix_fix (b_X11_count_42 n z  a0 x1) (fun _ _ _ => none) f x3 x4 d = some (r, d1) → ix_G p l e (ix_rm 6 145 0 0) s m args below meth c (MQ below (ix_Post K (some (.int r)) (ix_w z d1)) args s 0 0 (ix_A K)) K 6 0 0 42 [(0, .ref (K.2.2.1 + a0)), (1, .int x1), (3, .int x3), (4, .int x4)] [] (ix_w z d) := by
    intro f
    induction f with
    | zero =>
      intro x3 x4 d h
      have h : (none : Option (Int32 × ix_D2)) = some (r, d1) := h
      cases h
    | succ f ih =>
      intro x3 x4 d h
      exact tb_X11_count_42 hKp X hr hlk (rec42 := ix_fix (b_X11_count_42 n z  a0 x1) (fun _ _ _ => none) f)  ih h
  exact key n x3 x4 d h
set_option maxRecDepth 20000 in
theorem c_X11_count {l : Launch} {K : ix_Cx} (hKp : ix_Kp K) {n : Nat} {z : ix_Z} {a0 : Nat} {x1 : Int32} {x2 : Int32} {d : ix_D2} {r : Int32} {d1 : ix_D2} (h : f_X11_count n z a0 x1 x2 d = some (r, d1)) : ix_M l K yX11_count cX11_count 6 (some .int) 6 145 0 0 [.ref (K.2.2.1 + a0), .int x1, .int x2] (ix_w z d) (some (.int r)) (ix_w z d1) := by
  refine ix_met mf_X11_count hKp (Nat.le_of_ble_eq_true rfl) ?_
  intro p e s m args below meth c hr hlk hnm X
  have X : ix_X p s m args c K cX11_count RX11 6 := X
  show ix_G p l e (ix_rm 6 145 0 0) s m args below meth c (MQ below (ix_Post K (some (.int r)) (ix_w z d1)) args s 0 0 (ix_A K)) K 6 0 0 0 [(0, .ref (K.2.2.1 + a0)), (1, .int x1), (2, .int x2)] [] (ix_w z d)
  unfold f_X11_count at h
  refine ix_iload_n (i := 1) (j := 1) X (ix_tb_at tb_X11_count 0 rfl) rfl rfl (pc1 := 1) rfl ?_
  refine ix_iconst (v := 1) X (ix_tb_at tb_X11_count 1 rfl) (by decide) (pc1 := 2) rfl ?_
  refine ix_icmp_lt (tgt := 18) X (ix_tb_at tb_X11_count 2 rfl) (by decide) (pc1 := 5) rfl (fun q_1 => ?_) (fun q_1 => ?_)
  · have h := ix_ift q_1 h
    refine ix_sub (L1 := [(0, .ref (K.2.2.1 + a0))]) [0] rfl ?_
    exact t_X11_count_18 hKp X hr hlk  h
  · have h := ix_iff q_1 h
    refine ix_iload_n (i := 1) (j := 1) X (ix_tb_at tb_X11_count 3 rfl) rfl rfl (pc1 := 6) rfl ?_
    refine ix_bipush (v := 64) X (ix_tb_at tb_X11_count 4 rfl) (by decide) (pc1 := 8) rfl ?_
    refine ix_icmp_gt (tgt := 18) X (ix_tb_at tb_X11_count 5 rfl) (by decide) (pc1 := 11) rfl (fun q_6 => ?_) (fun q_6 => ?_)
    · have h := ix_ift q_6 h
      refine ix_sub (L1 := [(0, .ref (K.2.2.1 + a0))]) [0] rfl ?_
      exact t_X11_count_18 hKp X hr hlk  h
    · have h := ix_iff q_6 h
      refine ix_iload_n (i := 2) (j := 2) X (ix_tb_at tb_X11_count 6 rfl) rfl rfl (pc1 := 12) rfl ?_
      obtain ⟨r_9, d_7, h_8, h⟩ := ix_bd2_ex h
      refine ix_callS (As := [.int x2]) (rest := []) X mf_X11_areSteps st_X11_areSteps ml_RX11_263 ⟨Nat.le_of_ble_eq_true rfl, Nat.le_of_ble_eq_true rfl⟩ ⟨Nat.le_of_ble_eq_true rfl, Nat.le_of_ble_eq_true rfl⟩ rfl (Nat.le_of_ble_eq_true rfl) (ix_tb_at tb_X11_count 7 rfl) (c_X11_areSteps hKp h_8) rfl (pc1 := 15) rfl ?_
      refine ix_if_ne (tgt := 26) X (ix_tb_at tb_X11_count 8 rfl) (by decide) (pc1 := 18) rfl (fun q_10 => ?_) (fun q_10 => ?_)
      · have h := ix_iff q_10 h
        refine ix_aload_n (i := 0) (j := 0) X (ix_tb_at tb_X11_count 13 rfl) rfl rfl (pc1 := 27) rfl ?_
        obtain ⟨k_11, h⟩ := ix_ck_some h
        obtain ⟨b_12, q_13, h⟩ := ix_bd1_ex h
        refine iz_getR X fl_RX11_45 k_11 q_13 (ix_tb_at tb_X11_count 14 rfl) (pc1 := 30) rfl ?_
        obtain ⟨k_14, h⟩ := ix_ck_some h
        obtain ⟨b_15, q_16, h⟩ := ix_bd1_ex h
        refine iz_getR X fl_RX11_192 k_14 q_16 (ix_tb_at tb_X11_count 15 rfl) (pc1 := 33) rfl ?_
        refine ix_iconst (v := 0) X (ix_tb_at tb_X11_count 16 rfl) (by decide) (pc1 := 34) rfl ?_
        obtain ⟨k_19, h⟩ := ix_ck_some h
        obtain ⟨d_17, h_18, h⟩ := ix_bd1_ex h
        refine ix_callV (As := [.int 0]) (rest := []) (ci := 7) (T := TX7) (nf := 3) X mf_X7_shortenTo mi_X7_shortenTo ms_X7_shortenTo rfl (Nat.le_of_ble_eq_true rfl) ml_RX11_328 ⟨Nat.le_of_ble_eq_true rfl, Nat.le_of_ble_eq_true rfl⟩ ⟨Nat.le_of_ble_eq_true rfl, Nat.le_of_ble_eq_true rfl⟩ rfl (Nat.le_of_ble_eq_true rfl) (ix_tb_at tb_X11_count 17 rfl) ⟨k_19.1, List.mem_singleton.mp k_19.2⟩ (c_X7_shortenTo hKp h_18) rfl (pc1 := 37) rfl ?_
        refine ix_iload_n (i := 2) (j := 2) X (ix_tb_at tb_X11_count 18 rfl) rfl rfl (pc1 := 38) rfl ?_
        refine ix_istore_n (i := 3) (L1 := [(3, .int x2), (0, .ref (K.2.2.1 + a0)), (1, .int x1), (2, .int x2)]) X (ix_tb_at tb_X11_count 19 rfl) rfl (Nat.le_of_ble_eq_true rfl) rfl (pc1 := 39) rfl ?_
        refine ix_iconst (v := 0) X (ix_tb_at tb_X11_count 20 rfl) (by decide) (pc1 := 40) rfl ?_
        refine ix_istore (i := 4) (L1 := [(4, .int 0), (3, .int x2), (0, .ref (K.2.2.1 + a0)), (1, .int x1), (2, .int x2)]) X (ix_tb_at tb_X11_count 21 rfl) (Nat.le_of_ble_eq_true rfl) rfl (pc1 := 42) rfl ?_
        refine ix_sub (L1 := [(0, .ref (K.2.2.1 + a0)), (1, .int x1), (3, .int x2), (4, .int 0)]) [2, 3, 1, 0] rfl ?_
        exact t_X11_count_42 hKp X hr hlk  h
      · have h := ix_ift q_10 h
        refine ix_sub (L1 := [(0, .ref (K.2.2.1 + a0))]) [0] rfl ?_
        exact t_X11_count_18 hKp X hr hlk  h
def tab_X11_forceCase : List (Nat × Instr × Nat) := [(0, .aload_n 0, 1), (1, .getfield 45, 3), (4, .getfield 177, 3), (7, .aload_n 0, 1), (8, .getfield 28, 3), (11, .getfield 77, 3), (14, .invokevirtual 439, 3), (17, .iconst 0, 1), (18, .istore_n 1, 1), (19, .iload_n 1, 1), (20, .aload_n 0, 1), (21, .getfield 28, 3), (24, .getfield 195, 3), (27, .getfield 224, 3), (30, .if_icmp .ge 27, 3), (33, .aload_n 0, 1), (34, .getfield 45, 3), (37, .getfield 177, 3), (40, .aload_n 0, 1), (41, .getfield 28, 3), (44, .getfield 195, 3), (47, .iload_n 1, 1), (48, .invokevirtual 433, 3), (51, .iinc 1 1, 3), (54, .goto (-35), 3), (57, .aload_n 0, 1), (58, .getfield 45, 3), (61, .getfield 177, 3), (64, .invokevirtual 446, 3), (67, .ireturn, 1)]
theorem tb_X11_forceCase : ix_tab cX11_forceCase tab_X11_forceCase := by
  unfold ix_tab
  decide +kernel
noncomputable def b_X11_forceCase_19 (n : Nat) (z : ix_Z)  (a0 : Nat) (rec19 : Int32 → ix_D2 → Option (Int32 × ix_D2)) (x1 : Int32) (d : ix_D2) : Option (Int32 × ix_D2) :=
  ix_ck (ix_ok z [10] a0) (ix_bd1 (z.1 a0 3) (fun b_14 => ix_ck (ix_ok z [2] b_14) (ix_bd1 (z.1 b_14 0) (fun b_17 => ix_ck (ix_ok z [7] b_17) (ix_if (d.1 b_17 2 ≤ x1) (ix_bd1 (z.1 a0 7) (fun b_21 => ix_ck (ix_ok z [8] b_21) (ix_bd1 (z.1 b_21 0) (fun b_24 => ix_ck (ix_ok z [1] b_24) (ix_bd2 (f_X1_settle n z b_24 d) (fun r_29 d_26 => some (r_29, d_26))))))) (ix_bd1 (z.1 a0 7) (fun b_30 => ix_ck (ix_ok z [8] b_30) (ix_bd1 (z.1 b_30 0) (fun b_33 => ix_ck (ix_ok z [1] b_33) (ix_bd1 (f_X1_layRow n z b_33 b_17 x1 d) (fun d_35 => ix_lt (x1 + 1) (fun x1_38 => rec19 x1_38 d_35))))))))))))
noncomputable def f_X11_forceCase_19 (n : Nat) (z : ix_Z)  (a0 : Nat) (x1 : Int32) (d : ix_D2) : Option (Int32 × ix_D2) := ix_fix (b_X11_forceCase_19 n z  a0) (fun _ _ => none) n x1 d
noncomputable def f_X11_forceCase (n : Nat) (z : ix_Z) (a0 : Nat) (d : ix_D2) : Option (Int32 × ix_D2) :=
  ix_ck (ix_ok z [10] a0) (ix_bd1 (z.1 a0 7) (fun b_2 => ix_ck (ix_ok z [8] b_2) (ix_bd1 (z.1 b_2 0) (fun b_5 => ix_bd1 (z.1 a0 3) (fun b_7 => ix_ck (ix_ok z [2] b_7) (ix_ck (ix_ok z [1] b_5) (ix_bd1 (f_X1_clear n z b_5 (d.1 b_7 5) d) (fun d_10 => f_X11_forceCase_19 n z  a0 0 d_10))))))))
set_option maxRecDepth 20000 in
theorem tb_X11_forceCase_19 {l : Launch} {p : Program} {e : Env} {s : State} {m : MethodId} {args : Array Value} {below : List Frame} {meth : Method} {c : Code} {K : ix_Cx} (hKp : ix_Kp K) {n : Nat} {z : ix_Z} (X : ix_X p s m args c K cX11_forceCase RX11 2) (hr : meth.sig.returnType = (some .int)) (hlk : meth.locks = false)  {a0 : Nat} {rec19 : Int32 → ix_D2 → Option (Int32 × ix_D2)} {r : Int32} {d1 : ix_D2} (hrec19 : ∀ (x1 : Int32) (d : ix_D2), rec19 x1 d = some (r, d1) → ix_G p l e (ix_rm 4 99 0 0) s m args below meth c (MQ below (ix_Post K (some (.int r)) (ix_w z d1)) args s 0 0 (ix_A K)) K 2 0 0 19 [(0, .ref (K.2.2.1 + a0)), (1, .int x1)] [] (ix_w z d)) {x1 : Int32} {d : ix_D2} (h : b_X11_forceCase_19 n z  a0 rec19 x1 d = some (r, d1)) : ix_G p l e (ix_rm 4 99 0 0) s m args below meth c (MQ below (ix_Post K (some (.int r)) (ix_w z d1)) args s 0 0 (ix_A K)) K 2 0 0 19 [(0, .ref (K.2.2.1 + a0)), (1, .int x1)] [] (ix_w z d) := by
  unfold b_X11_forceCase_19 at h
  refine ix_iload_n (i := 1) (j := 1) X (ix_tb_at tb_X11_forceCase 9 rfl) rfl rfl (pc1 := 20) rfl ?_
  refine ix_aload_n (i := 0) (j := 0) X (ix_tb_at tb_X11_forceCase 10 rfl) rfl rfl (pc1 := 21) rfl ?_
  obtain ⟨k_13, h⟩ := ix_ck_some h
  obtain ⟨b_14, q_15, h⟩ := ix_bd1_ex h
  refine iz_getR X fl_RX11_28 k_13 q_15 (ix_tb_at tb_X11_forceCase 11 rfl) (pc1 := 24) rfl ?_
  obtain ⟨k_16, h⟩ := ix_ck_some h
  obtain ⟨b_17, q_18, h⟩ := ix_bd1_ex h
  refine iz_getR X fl_RX11_195 k_16 q_18 (ix_tb_at tb_X11_forceCase 12 rfl) (pc1 := 27) rfl ?_
  obtain ⟨k_19, h⟩ := ix_ck_some h
  refine iz_getI X fl_RX11_224 k_19 (ix_tb_at tb_X11_forceCase 13 rfl) (pc1 := 30) rfl ?_
  refine ix_icmp_ge (tgt := 57) X (ix_tb_at tb_X11_forceCase 14 rfl) (by decide) (pc1 := 33) rfl (fun q_20 => ?_) (fun q_20 => ?_)
  · have h := ix_ift q_20 h
    refine ix_aload_n (i := 0) (j := 0) X (ix_tb_at tb_X11_forceCase 25 rfl) rfl rfl (pc1 := 58) rfl ?_
    obtain ⟨b_21, q_22, h⟩ := ix_bd1_ex h
    refine iz_getR X fl_RX11_45 k_13 q_22 (ix_tb_at tb_X11_forceCase 26 rfl) (pc1 := 61) rfl ?_
    obtain ⟨k_23, h⟩ := ix_ck_some h
    obtain ⟨b_24, q_25, h⟩ := ix_bd1_ex h
    refine iz_getR X fl_RX11_177 k_23 q_25 (ix_tb_at tb_X11_forceCase 27 rfl) (pc1 := 64) rfl ?_
    obtain ⟨k_28, h⟩ := ix_ck_some h
    obtain ⟨r_29, d_26, h_27, h⟩ := ix_bd2_ex h
    refine ix_callV (As := []) (rest := []) (ci := 1) (T := TX1) (nf := 17) X mf_X1_settle mi_X1_settle ms_X1_settle rfl (Nat.le_of_ble_eq_true rfl) ml_RX11_446 ⟨Nat.le_of_ble_eq_true rfl, Nat.le_of_ble_eq_true rfl⟩ ⟨Nat.le_of_ble_eq_true rfl, Nat.le_of_ble_eq_true rfl⟩ rfl (Nat.le_of_ble_eq_true rfl) (ix_tb_at tb_X11_forceCase 28 rfl) ⟨k_28.1, List.mem_singleton.mp k_28.2⟩ (c_X1_settle hKp h_27) rfl (pc1 := 67) rfl ?_
    exact ix_iret X hr hlk (ix_r2 (f := fun r => some (.int r)) (g := ix_w z) h) (ix_tb_at tb_X11_forceCase 29 rfl)
  · have h := ix_iff q_20 h
    refine ix_aload_n (i := 0) (j := 0) X (ix_tb_at tb_X11_forceCase 15 rfl) rfl rfl (pc1 := 34) rfl ?_
    obtain ⟨b_30, q_31, h⟩ := ix_bd1_ex h
    refine iz_getR X fl_RX11_45 k_13 q_31 (ix_tb_at tb_X11_forceCase 16 rfl) (pc1 := 37) rfl ?_
    obtain ⟨k_32, h⟩ := ix_ck_some h
    obtain ⟨b_33, q_34, h⟩ := ix_bd1_ex h
    refine iz_getR X fl_RX11_177 k_32 q_34 (ix_tb_at tb_X11_forceCase 17 rfl) (pc1 := 40) rfl ?_
    refine ix_aload_n (i := 0) (j := 0) X (ix_tb_at tb_X11_forceCase 18 rfl) rfl rfl (pc1 := 41) rfl ?_
    refine iz_getR X fl_RX11_28 k_13 q_15 (ix_tb_at tb_X11_forceCase 19 rfl) (pc1 := 44) rfl ?_
    refine iz_getR X fl_RX11_195 k_16 q_18 (ix_tb_at tb_X11_forceCase 20 rfl) (pc1 := 47) rfl ?_
    refine ix_iload_n (i := 1) (j := 1) X (ix_tb_at tb_X11_forceCase 21 rfl) rfl rfl (pc1 := 48) rfl ?_
    obtain ⟨k_37, h⟩ := ix_ck_some h
    obtain ⟨d_35, h_36, h⟩ := ix_bd1_ex h
    refine ix_callV (As := [.ref (K.2.2.1 + b_17), .int x1]) (rest := []) (ci := 1) (T := TX1) (nf := 17) X mf_X1_layRow mi_X1_layRow ms_X1_layRow rfl (Nat.le_of_ble_eq_true rfl) ml_RX11_433 ⟨Nat.le_of_ble_eq_true rfl, Nat.le_of_ble_eq_true rfl⟩ ⟨Nat.le_of_ble_eq_true rfl, Nat.le_of_ble_eq_true rfl⟩ rfl (Nat.le_of_ble_eq_true rfl) (ix_tb_at tb_X11_forceCase 22 rfl) ⟨k_37.1, List.mem_singleton.mp k_37.2⟩ (c_X1_layRow hKp h_36) rfl (pc1 := 51) rfl ?_
    obtain ⟨x1_38, e_39, h⟩ := ix_lt_ex h
    refine ix_iinc (i := 1) (j := 1) (v := x1_38) (L1 := [(1, .int x1_38), (0, .ref (K.2.2.1 + a0))]) X (ix_tb_at tb_X11_forceCase 23 rfl) rfl (by rw [oi_1]; exact e_39.symm) (Nat.le_of_ble_eq_true rfl) rfl (pc1 := 54) rfl ?_
    refine ix_goto (tgt := 19) X (ix_tb_at tb_X11_forceCase 24 rfl) (by decide) ?_
    refine ix_sub (L1 := [(0, .ref (K.2.2.1 + a0)), (1, .int x1_38)]) [1, 0] rfl ?_
    exact hrec19 x1_38 d_35 h
theorem t_X11_forceCase_19 {l : Launch} {p : Program} {e : Env} {s : State} {m : MethodId} {args : Array Value} {below : List Frame} {meth : Method} {c : Code} {K : ix_Cx} (hKp : ix_Kp K) {n : Nat} {z : ix_Z} (X : ix_X p s m args c K cX11_forceCase RX11 2) (hr : meth.sig.returnType = (some .int)) (hlk : meth.locks = false)  {a0 : Nat} {r : Int32} {d1 : ix_D2}  {x1 : Int32} {d : ix_D2} (h : f_X11_forceCase_19 n z  a0 x1 d = some (r, d1)) : ix_G p l e (ix_rm 4 99 0 0) s m args below meth c (MQ below (ix_Post K (some (.int r)) (ix_w z d1)) args s 0 0 (ix_A K)) K 2 0 0 19 [(0, .ref (K.2.2.1 + a0)), (1, .int x1)] [] (ix_w z d) := by
  have key : ∀ (f : Nat) (x1 : Int32) (d : ix_D2), ix_fix (b_X11_forceCase_19 n z  a0) (fun _ _ => none) f x1 d = some (r, d1) → ix_G p l e (ix_rm 4 99 0 0) s m args below meth c (MQ below (ix_Post K (some (.int r)) (ix_w z d1)) args s 0 0 (ix_A K)) K 2 0 0 19 [(0, .ref (K.2.2.1 + a0)), (1, .int x1)] [] (ix_w z d) := by
    intro f
    induction f with
    | zero =>
      intro x1 d h
      have h : (none : Option (Int32 × ix_D2)) = some (r, d1) := h
      cases h
    | succ f ih =>
      intro x1 d h
      exact tb_X11_forceCase_19 hKp X hr hlk (rec19 := ix_fix (b_X11_forceCase_19 n z  a0) (fun _ _ => none) f)  ih h
  exact key n x1 d h
set_option maxRecDepth 20000 in
theorem c_X11_forceCase {l : Launch} {K : ix_Cx} (hKp : ix_Kp K) {n : Nat} {z : ix_Z} {a0 : Nat} {d : ix_D2} {r : Int32} {d1 : ix_D2} (h : f_X11_forceCase n z a0 d = some (r, d1)) : ix_M l K yX11_forceCase cX11_forceCase 2 (some .int) 4 99 0 0 [.ref (K.2.2.1 + a0)] (ix_w z d) (some (.int r)) (ix_w z d1) := by
  refine ix_met mf_X11_forceCase hKp (Nat.le_of_ble_eq_true rfl) ?_
  intro p e s m args below meth c hr hlk hnm X
  have X : ix_X p s m args c K cX11_forceCase RX11 2 := X
  show ix_G p l e (ix_rm 4 99 0 0) s m args below meth c (MQ below (ix_Post K (some (.int r)) (ix_w z d1)) args s 0 0 (ix_A K)) K 2 0 0 0 [(0, .ref (K.2.2.1 + a0))] [] (ix_w z d)
  unfold f_X11_forceCase at h
  refine ix_aload_n (i := 0) (j := 0) X (ix_tb_at tb_X11_forceCase 0 rfl) rfl rfl (pc1 := 1) rfl ?_
  obtain ⟨k_1, h⟩ := ix_ck_some h
  obtain ⟨b_2, q_3, h⟩ := ix_bd1_ex h
  refine iz_getR X fl_RX11_45 k_1 q_3 (ix_tb_at tb_X11_forceCase 1 rfl) (pc1 := 4) rfl ?_
  obtain ⟨k_4, h⟩ := ix_ck_some h
  obtain ⟨b_5, q_6, h⟩ := ix_bd1_ex h
  refine iz_getR X fl_RX11_177 k_4 q_6 (ix_tb_at tb_X11_forceCase 2 rfl) (pc1 := 7) rfl ?_
  refine ix_aload_n (i := 0) (j := 0) X (ix_tb_at tb_X11_forceCase 3 rfl) rfl rfl (pc1 := 8) rfl ?_
  obtain ⟨b_7, q_8, h⟩ := ix_bd1_ex h
  refine iz_getR X fl_RX11_28 k_1 q_8 (ix_tb_at tb_X11_forceCase 4 rfl) (pc1 := 11) rfl ?_
  obtain ⟨k_9, h⟩ := ix_ck_some h
  refine iz_getI X fl_RX11_77 k_9 (ix_tb_at tb_X11_forceCase 5 rfl) (pc1 := 14) rfl ?_
  obtain ⟨k_12, h⟩ := ix_ck_some h
  obtain ⟨d_10, h_11, h⟩ := ix_bd1_ex h
  refine ix_callV (As := [.int (d.1 b_7 5)]) (rest := []) (ci := 1) (T := TX1) (nf := 17) X mf_X1_clear mi_X1_clear ms_X1_clear rfl (Nat.le_of_ble_eq_true rfl) ml_RX11_439 ⟨Nat.le_of_ble_eq_true rfl, Nat.le_of_ble_eq_true rfl⟩ ⟨Nat.le_of_ble_eq_true rfl, Nat.le_of_ble_eq_true rfl⟩ rfl (Nat.le_of_ble_eq_true rfl) (ix_tb_at tb_X11_forceCase 6 rfl) ⟨k_12.1, List.mem_singleton.mp k_12.2⟩ (c_X1_clear hKp h_11) rfl (pc1 := 17) rfl ?_
  refine ix_iconst (v := 0) X (ix_tb_at tb_X11_forceCase 7 rfl) (by decide) (pc1 := 18) rfl ?_
  refine ix_istore_n (i := 1) (L1 := [(1, .int 0), (0, .ref (K.2.2.1 + a0))]) X (ix_tb_at tb_X11_forceCase 8 rfl) rfl (Nat.le_of_ble_eq_true rfl) rfl (pc1 := 19) rfl ?_
  refine ix_sub (L1 := [(0, .ref (K.2.2.1 + a0)), (1, .int 0)]) [1, 0] rfl ?_
  exact t_X11_forceCase_19 hKp X hr hlk  h
def tab_X11_forced : List (Nat × Instr × Nat) := [(0, .aload_n 0, 1), (1, .invokevirtual 376, 3), (4, .ifCond .lt 9, 3), (7, .sipush (-1005), 3), (10, .goto 13, 3), (13, .aload_n 0, 1), (14, .getfield 45, 3), (17, .getfield 177, 3), (20, .getfield 379, 3), (23, .ireturn, 1)]
theorem tb_X11_forced : ix_tab cX11_forced tab_X11_forced := by
  unfold ix_tab
  decide +kernel
noncomputable def f_X11_forced (n : Nat) (z : ix_Z) (a0 : Nat) (d : ix_D2) : Option (Int32 × ix_D2) :=
  ix_ck (ix_ok z [10] a0) (ix_bd2 (f_X11_forceCase n z a0 d) (fun r_4 d_1 => ix_if (r_4 < 0) (ix_bd1 (z.1 a0 7) (fun b_6 => ix_ck (ix_ok z [8] b_6) (ix_bd1 (z.1 b_6 0) (fun b_9 => ix_ck (ix_ok z [1] b_9) (some (d_1.1 b_9 12, d_1)))))) (some ((-1005), d_1))))
set_option maxRecDepth 20000 in
theorem c_X11_forced {l : Launch} {K : ix_Cx} (hKp : ix_Kp K) {n : Nat} {z : ix_Z} {a0 : Nat} {d : ix_D2} {r : Int32} {d1 : ix_D2} (h : f_X11_forced n z a0 d = some (r, d1)) : ix_M l K yX11_forced cX11_forced 1 (some .int) 5 120 0 0 [.ref (K.2.2.1 + a0)] (ix_w z d) (some (.int r)) (ix_w z d1) := by
  refine ix_met mf_X11_forced hKp (Nat.le_of_ble_eq_true rfl) ?_
  intro p e s m args below meth c hr hlk hnm X
  have X : ix_X p s m args c K cX11_forced RX11 1 := X
  show ix_G p l e (ix_rm 5 120 0 0) s m args below meth c (MQ below (ix_Post K (some (.int r)) (ix_w z d1)) args s 0 0 (ix_A K)) K 1 0 0 0 [(0, .ref (K.2.2.1 + a0))] [] (ix_w z d)
  unfold f_X11_forced at h
  refine ix_aload_n (i := 0) (j := 0) X (ix_tb_at tb_X11_forced 0 rfl) rfl rfl (pc1 := 1) rfl ?_
  obtain ⟨k_3, h⟩ := ix_ck_some h
  obtain ⟨r_4, d_1, h_2, h⟩ := ix_bd2_ex h
  refine ix_callV (As := []) (rest := []) (ci := 10) (T := TX11) (nf := 18) X mf_X11_forceCase mi_X11_forceCase ms_X11_forceCase rfl (Nat.le_of_ble_eq_true rfl) ml_RX11_376 ⟨Nat.le_of_ble_eq_true rfl, Nat.le_of_ble_eq_true rfl⟩ ⟨Nat.le_of_ble_eq_true rfl, Nat.le_of_ble_eq_true rfl⟩ rfl (Nat.le_of_ble_eq_true rfl) (ix_tb_at tb_X11_forced 1 rfl) ⟨k_3.1, List.mem_singleton.mp k_3.2⟩ (c_X11_forceCase hKp h_2) rfl (pc1 := 4) rfl ?_
  refine ix_if_lt (tgt := 13) X (ix_tb_at tb_X11_forced 2 rfl) (by decide) (pc1 := 7) rfl (fun q_5 => ?_) (fun q_5 => ?_)
  · have h := ix_ift q_5 h
    refine ix_aload_n (i := 0) (j := 0) X (ix_tb_at tb_X11_forced 5 rfl) rfl rfl (pc1 := 14) rfl ?_
    obtain ⟨b_6, q_7, h⟩ := ix_bd1_ex h
    refine iz_getR X fl_RX11_45 k_3 q_7 (ix_tb_at tb_X11_forced 6 rfl) (pc1 := 17) rfl ?_
    obtain ⟨k_8, h⟩ := ix_ck_some h
    obtain ⟨b_9, q_10, h⟩ := ix_bd1_ex h
    refine iz_getR X fl_RX11_177 k_8 q_10 (ix_tb_at tb_X11_forced 7 rfl) (pc1 := 20) rfl ?_
    obtain ⟨k_11, h⟩ := ix_ck_some h
    refine iz_getI X fl_RX11_379 k_11 (ix_tb_at tb_X11_forced 8 rfl) (pc1 := 23) rfl ?_
    exact ix_iret X hr hlk (ix_r2 (f := fun r => some (.int r)) (g := ix_w z) h) (ix_tb_at tb_X11_forced 9 rfl)
  · have h := ix_iff q_5 h
    refine ix_sipush (v := (-1005)) X (ix_tb_at tb_X11_forced 3 rfl) (by decide) (pc1 := 10) rfl ?_
    refine ix_goto (tgt := 23) X (ix_tb_at tb_X11_forced 4 rfl) (by decide) ?_
    exact ix_iret X hr hlk (ix_r2 (f := fun r => some (.int r)) (g := ix_w z) h) (ix_tb_at tb_X11_forced 9 rfl)
def tab_X11_forcedAt : List (Nat × Instr × Nat) := [(0, .aload_n 0, 1), (1, .invokevirtual 376, 3), (4, .pop, 1), (5, .iload_n 1, 1), (6, .ifCond .lt 32, 3), (9, .iload_n 1, 1), (10, .aload_n 0, 1), (11, .getfield 45, 3), (14, .getfield 177, 3), (17, .getfield 379, 3), (20, .if_icmp .ge 18, 3), (23, .aload_n 0, 1), (24, .getfield 45, 3), (27, .getfield 177, 3), (30, .getfield 382, 3), (33, .iload_n 1, 1), (34, .iaload, 1), (35, .goto 6, 3), (38, .sipush (-1005), 3), (41, .ireturn, 1)]
theorem tb_X11_forcedAt : ix_tab cX11_forcedAt tab_X11_forcedAt := by
  unfold ix_tab
  decide +kernel
noncomputable def f_X11_forcedAt_38 (n : Nat) (z : ix_Z)   (d : ix_D2) : Option (Int32 × ix_D2) :=
  some ((-1005), d)
noncomputable def f_X11_forcedAt (n : Nat) (z : ix_Z) (a0 : Nat) (x1 : Int32) (d : ix_D2) : Option (Int32 × ix_D2) :=
  ix_ck (ix_ok z [10] a0) (ix_bd2 (f_X11_forceCase n z a0 d) (fun r_4 d_1 => ix_if (x1 < 0) (f_X11_forcedAt_38 n z   d_1) (ix_bd1 (z.1 a0 7) (fun b_6 => ix_ck (ix_ok z [8] b_6) (ix_bd1 (z.1 b_6 0) (fun b_9 => ix_ck (ix_ok z [1] b_9) (ix_if (d_1.1 b_9 12 ≤ x1) (f_X11_forcedAt_38 n z   d_1) (ix_bd1 (z.1 b_9 11) (fun b_13 => ix_ck (ix_ix z 20 b_13 x1) (some (d_1.1 b_13 (ix_n x1), d_1)))))))))))
set_option maxRecDepth 20000 in
theorem t_X11_forcedAt_38 {l : Launch} {p : Program} {e : Env} {s : State} {m : MethodId} {args : Array Value} {below : List Frame} {meth : Method} {c : Code} {K : ix_Cx} (hKp : ix_Kp K) {n : Nat} {z : ix_Z} (X : ix_X p s m args c K cX11_forcedAt RX11 2) (hr : meth.sig.returnType = (some .int)) (hlk : meth.locks = false)   {r : Int32} {d1 : ix_D2}  {d : ix_D2} (h : f_X11_forcedAt_38 n z   d = some (r, d1)) : ix_G p l e (ix_rm 5 120 0 0) s m args below meth c (MQ below (ix_Post K (some (.int r)) (ix_w z d1)) args s 0 0 (ix_A K)) K 2 0 0 38 [] [] (ix_w z d) := by
  unfold f_X11_forcedAt_38 at h
  refine ix_sipush (v := (-1005)) X (ix_tb_at tb_X11_forcedAt 18 rfl) (by decide) (pc1 := 41) rfl ?_
  exact ix_iret X hr hlk (ix_r2 (f := fun r => some (.int r)) (g := ix_w z) h) (ix_tb_at tb_X11_forcedAt 19 rfl)
set_option maxRecDepth 20000 in
theorem c_X11_forcedAt {l : Launch} {K : ix_Cx} (hKp : ix_Kp K) {n : Nat} {z : ix_Z} {a0 : Nat} {x1 : Int32} {d : ix_D2} {r : Int32} {d1 : ix_D2} (h : f_X11_forcedAt n z a0 x1 d = some (r, d1)) : ix_M l K yX11_forcedAt cX11_forcedAt 2 (some .int) 5 120 0 0 [.ref (K.2.2.1 + a0), .int x1] (ix_w z d) (some (.int r)) (ix_w z d1) := by
  refine ix_met mf_X11_forcedAt hKp (Nat.le_of_ble_eq_true rfl) ?_
  intro p e s m args below meth c hr hlk hnm X
  have X : ix_X p s m args c K cX11_forcedAt RX11 2 := X
  show ix_G p l e (ix_rm 5 120 0 0) s m args below meth c (MQ below (ix_Post K (some (.int r)) (ix_w z d1)) args s 0 0 (ix_A K)) K 2 0 0 0 [(0, .ref (K.2.2.1 + a0)), (1, .int x1)] [] (ix_w z d)
  unfold f_X11_forcedAt at h
  refine ix_aload_n (i := 0) (j := 0) X (ix_tb_at tb_X11_forcedAt 0 rfl) rfl rfl (pc1 := 1) rfl ?_
  obtain ⟨k_3, h⟩ := ix_ck_some h
  obtain ⟨r_4, d_1, h_2, h⟩ := ix_bd2_ex h
  refine ix_callV (As := []) (rest := []) (ci := 10) (T := TX11) (nf := 18) X mf_X11_forceCase mi_X11_forceCase ms_X11_forceCase rfl (Nat.le_of_ble_eq_true rfl) ml_RX11_376 ⟨Nat.le_of_ble_eq_true rfl, Nat.le_of_ble_eq_true rfl⟩ ⟨Nat.le_of_ble_eq_true rfl, Nat.le_of_ble_eq_true rfl⟩ rfl (Nat.le_of_ble_eq_true rfl) (ix_tb_at tb_X11_forcedAt 1 rfl) ⟨k_3.1, List.mem_singleton.mp k_3.2⟩ (c_X11_forceCase hKp h_2) rfl (pc1 := 4) rfl ?_
  refine ix_pop X (ix_tb_at tb_X11_forcedAt 2 rfl) rfl (pc1 := 5) rfl ?_
  refine ix_iload_n (i := 1) (j := 1) X (ix_tb_at tb_X11_forcedAt 3 rfl) rfl rfl (pc1 := 6) rfl ?_
  refine ix_if_lt (tgt := 38) X (ix_tb_at tb_X11_forcedAt 4 rfl) (by decide) (pc1 := 9) rfl (fun q_5 => ?_) (fun q_5 => ?_)
  · have h := ix_ift q_5 h
    refine ix_sub (L1 := []) [] rfl ?_
    exact t_X11_forcedAt_38 hKp X hr hlk  h
  · have h := ix_iff q_5 h
    refine ix_iload_n (i := 1) (j := 1) X (ix_tb_at tb_X11_forcedAt 5 rfl) rfl rfl (pc1 := 10) rfl ?_
    refine ix_aload_n (i := 0) (j := 0) X (ix_tb_at tb_X11_forcedAt 6 rfl) rfl rfl (pc1 := 11) rfl ?_
    obtain ⟨b_6, q_7, h⟩ := ix_bd1_ex h
    refine iz_getR X fl_RX11_45 k_3 q_7 (ix_tb_at tb_X11_forcedAt 7 rfl) (pc1 := 14) rfl ?_
    obtain ⟨k_8, h⟩ := ix_ck_some h
    obtain ⟨b_9, q_10, h⟩ := ix_bd1_ex h
    refine iz_getR X fl_RX11_177 k_8 q_10 (ix_tb_at tb_X11_forcedAt 8 rfl) (pc1 := 17) rfl ?_
    obtain ⟨k_11, h⟩ := ix_ck_some h
    refine iz_getI X fl_RX11_379 k_11 (ix_tb_at tb_X11_forcedAt 9 rfl) (pc1 := 20) rfl ?_
    refine ix_icmp_ge (tgt := 38) X (ix_tb_at tb_X11_forcedAt 10 rfl) (by decide) (pc1 := 23) rfl (fun q_12 => ?_) (fun q_12 => ?_)
    · have h := ix_ift q_12 h
      refine ix_sub (L1 := []) [] rfl ?_
      exact t_X11_forcedAt_38 hKp X hr hlk  h
    · have h := ix_iff q_12 h
      refine ix_aload_n (i := 0) (j := 0) X (ix_tb_at tb_X11_forcedAt 11 rfl) rfl rfl (pc1 := 24) rfl ?_
      refine iz_getR X fl_RX11_45 k_3 q_7 (ix_tb_at tb_X11_forcedAt 12 rfl) (pc1 := 27) rfl ?_
      refine iz_getR X fl_RX11_177 k_8 q_10 (ix_tb_at tb_X11_forcedAt 13 rfl) (pc1 := 30) rfl ?_
      obtain ⟨b_13, q_14, h⟩ := ix_bd1_ex h
      refine iz_getR X fl_RX11_382 k_11 q_14 (ix_tb_at tb_X11_forcedAt 14 rfl) (pc1 := 33) rfl ?_
      refine ix_iload_n (i := 1) (j := 1) X (ix_tb_at tb_X11_forcedAt 15 rfl) rfl rfl (pc1 := 34) rfl ?_
      obtain ⟨k_15, h⟩ := ix_ck_some h
      refine iz_iald X k_15 (ix_tb_at tb_X11_forcedAt 16 rfl) (pc1 := 35) rfl ?_
      refine ix_goto (tgt := 41) X (ix_tb_at tb_X11_forcedAt 17 rfl) (by decide) ?_
      exact ix_iret X hr hlk (ix_r2 (f := fun r => some (.int r)) (g := ix_w z) h) (ix_tb_at tb_X11_forcedAt 19 rfl)
def tab_X11_why : List (Nat × Instr × Nat) := [(0, .aload_n 0, 1), (1, .iload_n 1, 1), (2, .invokevirtual 247, 3), (5, .ifCond .ne 11, 3), (8, .aload_n 0, 1), (9, .sipush (-1001), 3), (12, .invokevirtual 73, 3), (15, .ireturn, 1), (16, .aload_n 0, 1), (17, .invokevirtual 376, 3), (20, .pop, 1), (21, .aload_n 0, 1), (22, .getfield 45, 3), (25, .getfield 177, 3), (28, .iload_n 1, 1), (29, .invokevirtual 385, 3), (32, .ifCond .ne 9, 3), (35, .sipush (-1005), 3), (38, .goto 15, 3), (41, .aload_n 0, 1), (42, .getfield 45, 3), (45, .getfield 177, 3), (48, .getfield 388, 3), (51, .iload_n 1, 1), (52, .iaload, 1), (53, .ireturn, 1)]
theorem tb_X11_why : ix_tab cX11_why tab_X11_why := by
  unfold ix_tab
  decide +kernel
noncomputable def f_X11_why (n : Nat) (z : ix_Z) (a0 : Nat) (x1 : Int32) (d : ix_D2) : Option (Int32 × ix_D2) :=
  ix_ck (ix_ok z [10] a0) (ix_bd2 (f_X11_isName n z a0 x1 d) (fun r_4 d_1 => ix_if (r_4 = 0) (ix_bd2 (f_X11_refuse n z a0 ((-1001)) d_1) (fun r_24 d_22 => some (r_24, d_22))) (ix_bd2 (f_X11_forceCase n z a0 d_1) (fun r_8 d_6 => ix_bd1 (z.1 a0 7) (fun b_9 => ix_ck (ix_ok z [8] b_9) (ix_bd1 (z.1 b_9 0) (fun b_12 => ix_ck (ix_ok z [1] b_12) (ix_bd2 (f_X1_valueOf n z b_12 x1 d_6) (fun r_17 d_14 => ix_if (r_17 = 0) (some ((-1005), d_14)) (ix_bd1 (z.1 b_12 10) (fun b_19 => ix_ck (ix_ix z 20 b_19 x1) (some (d_14.1 b_19 (ix_n x1), d_14)))))))))))))
set_option maxRecDepth 20000 in
theorem c_X11_why {l : Launch} {K : ix_Cx} (hKp : ix_Kp K) {n : Nat} {z : ix_Z} {a0 : Nat} {x1 : Int32} {d : ix_D2} {r : Int32} {d1 : ix_D2} (h : f_X11_why n z a0 x1 d = some (r, d1)) : ix_M l K yX11_why cX11_why 2 (some .int) 5 120 0 0 [.ref (K.2.2.1 + a0), .int x1] (ix_w z d) (some (.int r)) (ix_w z d1) := by
  refine ix_met mf_X11_why hKp (Nat.le_of_ble_eq_true rfl) ?_
  intro p e s m args below meth c hr hlk hnm X
  have X : ix_X p s m args c K cX11_why RX11 2 := X
  show ix_G p l e (ix_rm 5 120 0 0) s m args below meth c (MQ below (ix_Post K (some (.int r)) (ix_w z d1)) args s 0 0 (ix_A K)) K 2 0 0 0 [(0, .ref (K.2.2.1 + a0)), (1, .int x1)] [] (ix_w z d)
  unfold f_X11_why at h
  refine ix_aload_n (i := 0) (j := 0) X (ix_tb_at tb_X11_why 0 rfl) rfl rfl (pc1 := 1) rfl ?_
  refine ix_iload_n (i := 1) (j := 1) X (ix_tb_at tb_X11_why 1 rfl) rfl rfl (pc1 := 2) rfl ?_
  obtain ⟨k_3, h⟩ := ix_ck_some h
  obtain ⟨r_4, d_1, h_2, h⟩ := ix_bd2_ex h
  refine ix_callV (As := [.int x1]) (rest := []) (ci := 10) (T := TX11) (nf := 18) X mf_X11_isName mi_X11_isName ms_X11_isName rfl (Nat.le_of_ble_eq_true rfl) ml_RX11_247 ⟨Nat.le_of_ble_eq_true rfl, Nat.le_of_ble_eq_true rfl⟩ ⟨Nat.le_of_ble_eq_true rfl, Nat.le_of_ble_eq_true rfl⟩ rfl (Nat.le_of_ble_eq_true rfl) (ix_tb_at tb_X11_why 2 rfl) ⟨k_3.1, List.mem_singleton.mp k_3.2⟩ (c_X11_isName hKp h_2) rfl (pc1 := 5) rfl ?_
  refine ix_if_ne (tgt := 16) X (ix_tb_at tb_X11_why 3 rfl) (by decide) (pc1 := 8) rfl (fun q_5 => ?_) (fun q_5 => ?_)
  · have h := ix_iff q_5 h
    refine ix_aload_n (i := 0) (j := 0) X (ix_tb_at tb_X11_why 8 rfl) rfl rfl (pc1 := 17) rfl ?_
    obtain ⟨r_8, d_6, h_7, h⟩ := ix_bd2_ex h
    refine ix_callV (As := []) (rest := []) (ci := 10) (T := TX11) (nf := 18) X mf_X11_forceCase mi_X11_forceCase ms_X11_forceCase rfl (Nat.le_of_ble_eq_true rfl) ml_RX11_376 ⟨Nat.le_of_ble_eq_true rfl, Nat.le_of_ble_eq_true rfl⟩ ⟨Nat.le_of_ble_eq_true rfl, Nat.le_of_ble_eq_true rfl⟩ rfl (Nat.le_of_ble_eq_true rfl) (ix_tb_at tb_X11_why 9 rfl) ⟨k_3.1, List.mem_singleton.mp k_3.2⟩ (c_X11_forceCase hKp h_7) rfl (pc1 := 20) rfl ?_
    refine ix_pop X (ix_tb_at tb_X11_why 10 rfl) rfl (pc1 := 21) rfl ?_
    refine ix_aload_n (i := 0) (j := 0) X (ix_tb_at tb_X11_why 11 rfl) rfl rfl (pc1 := 22) rfl ?_
    obtain ⟨b_9, q_10, h⟩ := ix_bd1_ex h
    refine iz_getR X fl_RX11_45 k_3 q_10 (ix_tb_at tb_X11_why 12 rfl) (pc1 := 25) rfl ?_
    obtain ⟨k_11, h⟩ := ix_ck_some h
    obtain ⟨b_12, q_13, h⟩ := ix_bd1_ex h
    refine iz_getR X fl_RX11_177 k_11 q_13 (ix_tb_at tb_X11_why 13 rfl) (pc1 := 28) rfl ?_
    refine ix_iload_n (i := 1) (j := 1) X (ix_tb_at tb_X11_why 14 rfl) rfl rfl (pc1 := 29) rfl ?_
    obtain ⟨k_16, h⟩ := ix_ck_some h
    obtain ⟨r_17, d_14, h_15, h⟩ := ix_bd2_ex h
    refine ix_callV (As := [.int x1]) (rest := []) (ci := 1) (T := TX1) (nf := 17) X mf_X1_valueOf mi_X1_valueOf ms_X1_valueOf rfl (Nat.le_of_ble_eq_true rfl) ml_RX11_385 ⟨Nat.le_of_ble_eq_true rfl, Nat.le_of_ble_eq_true rfl⟩ ⟨Nat.le_of_ble_eq_true rfl, Nat.le_of_ble_eq_true rfl⟩ rfl (Nat.le_of_ble_eq_true rfl) (ix_tb_at tb_X11_why 15 rfl) ⟨k_16.1, List.mem_singleton.mp k_16.2⟩ (c_X1_valueOf hKp h_15) rfl (pc1 := 32) rfl ?_
    refine ix_if_ne (tgt := 41) X (ix_tb_at tb_X11_why 16 rfl) (by decide) (pc1 := 35) rfl (fun q_18 => ?_) (fun q_18 => ?_)
    · have h := ix_iff q_18 h
      refine ix_aload_n (i := 0) (j := 0) X (ix_tb_at tb_X11_why 19 rfl) rfl rfl (pc1 := 42) rfl ?_
      refine iz_getR X fl_RX11_45 k_3 q_10 (ix_tb_at tb_X11_why 20 rfl) (pc1 := 45) rfl ?_
      refine iz_getR X fl_RX11_177 k_11 q_13 (ix_tb_at tb_X11_why 21 rfl) (pc1 := 48) rfl ?_
      obtain ⟨b_19, q_20, h⟩ := ix_bd1_ex h
      refine iz_getR X fl_RX11_388 k_16 q_20 (ix_tb_at tb_X11_why 22 rfl) (pc1 := 51) rfl ?_
      refine ix_iload_n (i := 1) (j := 1) X (ix_tb_at tb_X11_why 23 rfl) rfl rfl (pc1 := 52) rfl ?_
      obtain ⟨k_21, h⟩ := ix_ck_some h
      refine iz_iald X k_21 (ix_tb_at tb_X11_why 24 rfl) (pc1 := 53) rfl ?_
      exact ix_iret X hr hlk (ix_r2 (f := fun r => some (.int r)) (g := ix_w z) h) (ix_tb_at tb_X11_why 25 rfl)
    · have h := ix_ift q_18 h
      refine ix_sipush (v := (-1005)) X (ix_tb_at tb_X11_why 17 rfl) (by decide) (pc1 := 38) rfl ?_
      refine ix_goto (tgt := 53) X (ix_tb_at tb_X11_why 18 rfl) (by decide) ?_
      exact ix_iret X hr hlk (ix_r2 (f := fun r => some (.int r)) (g := ix_w z) h) (ix_tb_at tb_X11_why 25 rfl)
  · have h := ix_ift q_5 h
    refine ix_aload_n (i := 0) (j := 0) X (ix_tb_at tb_X11_why 4 rfl) rfl rfl (pc1 := 9) rfl ?_
    refine ix_sipush (v := (-1001)) X (ix_tb_at tb_X11_why 5 rfl) (by decide) (pc1 := 12) rfl ?_
    obtain ⟨r_24, d_22, h_23, h⟩ := ix_bd2_ex h
    refine ix_callV (As := [.int ((-1001))]) (rest := []) (ci := 10) (T := TX11) (nf := 18) X mf_X11_refuse mi_X11_refuse ms_X11_refuse rfl (Nat.le_of_ble_eq_true rfl) ml_RX11_73 ⟨Nat.le_of_ble_eq_true rfl, Nat.le_of_ble_eq_true rfl⟩ ⟨Nat.le_of_ble_eq_true rfl, Nat.le_of_ble_eq_true rfl⟩ rfl (Nat.le_of_ble_eq_true rfl) (ix_tb_at tb_X11_why 6 rfl) ⟨k_3.1, List.mem_singleton.mp k_3.2⟩ (c_X11_refuse hKp h_23) rfl (pc1 := 15) rfl ?_
    exact ix_iret X hr hlk (ix_r2 (f := fun r => some (.int r)) (g := ix_w z) h) (ix_tb_at tb_X11_why 7 rfl)
def tab_X11_trace : List (Nat × Instr × Nat) := [(0, .aload_n 0, 1), (1, .getfield 21, 3), (4, .iload_n 1, 1), (5, .invokevirtual 391, 3), (8, .ireturn, 1)]
theorem tb_X11_trace : ix_tab cX11_trace tab_X11_trace := by
  unfold ix_tab
  decide +kernel
noncomputable def f_X11_trace (n : Nat) (z : ix_Z) (a0 : Nat) (x1 : Int32) (d : ix_D2) : Option (Int32 × ix_D2) :=
  ix_ck (ix_ok z [10] a0) (ix_bd1 (z.1 a0 2) (fun b_2 => ix_ck (ix_ok z [4] b_2) (ix_bd2 (f_X4_noted n z b_2 x1 d) (fun r_7 d_4 => some (r_7, d_4)))))
set_option maxRecDepth 20000 in
theorem c_X11_trace {l : Launch} {K : ix_Cx} (hKp : ix_Kp K) {n : Nat} {z : ix_Z} {a0 : Nat} {x1 : Int32} {d : ix_D2} {r : Int32} {d1 : ix_D2} (h : f_X11_trace n z a0 x1 d = some (r, d1)) : ix_M l K yX11_trace cX11_trace 2 (some .int) 1 21 0 0 [.ref (K.2.2.1 + a0), .int x1] (ix_w z d) (some (.int r)) (ix_w z d1) := by
  refine ix_met mf_X11_trace hKp (Nat.le_of_ble_eq_true rfl) ?_
  intro p e s m args below meth c hr hlk hnm X
  have X : ix_X p s m args c K cX11_trace RX11 2 := X
  show ix_G p l e (ix_rm 1 21 0 0) s m args below meth c (MQ below (ix_Post K (some (.int r)) (ix_w z d1)) args s 0 0 (ix_A K)) K 2 0 0 0 [(0, .ref (K.2.2.1 + a0)), (1, .int x1)] [] (ix_w z d)
  unfold f_X11_trace at h
  refine ix_aload_n (i := 0) (j := 0) X (ix_tb_at tb_X11_trace 0 rfl) rfl rfl (pc1 := 1) rfl ?_
  obtain ⟨k_1, h⟩ := ix_ck_some h
  obtain ⟨b_2, q_3, h⟩ := ix_bd1_ex h
  refine iz_getR X fl_RX11_21 k_1 q_3 (ix_tb_at tb_X11_trace 1 rfl) (pc1 := 4) rfl ?_
  refine ix_iload_n (i := 1) (j := 1) X (ix_tb_at tb_X11_trace 2 rfl) rfl rfl (pc1 := 5) rfl ?_
  obtain ⟨k_6, h⟩ := ix_ck_some h
  obtain ⟨r_7, d_4, h_5, h⟩ := ix_bd2_ex h
  refine ix_callV (As := [.int x1]) (rest := []) (ci := 4) (T := TX4) (nf := 17) X mf_X4_noted mi_X4_noted ms_X4_noted rfl (Nat.le_of_ble_eq_true rfl) ml_RX11_391 ⟨Nat.le_of_ble_eq_true rfl, Nat.le_of_ble_eq_true rfl⟩ ⟨Nat.le_of_ble_eq_true rfl, Nat.le_of_ble_eq_true rfl⟩ rfl (Nat.le_of_ble_eq_true rfl) (ix_tb_at tb_X11_trace 3 rfl) ⟨k_6.1, List.mem_singleton.mp k_6.2⟩ (c_X4_noted hKp h_5) rfl (pc1 := 8) rfl ?_
  exact ix_iret X hr hlk (ix_r2 (f := fun r => some (.int r)) (g := ix_w z) h) (ix_tb_at tb_X11_trace 4 rfl)
def tab_X11_addUp : List (Nat × Instr × Nat) := [(0, .lload_n 0, 1), (1, .lstore 5, 2), (3, .iload_n 3, 1), (4, .istore 7, 2), (6, .iload 7, 2), (8, .iload_n 3, 1), (9, .iload 4, 2), (11, .iadd, 1), (12, .if_icmp .ge 23, 3), (15, .ldc2_w 396, 3), (18, .lload 5, 2), (20, .lmul, 1), (21, .aload_n 2, 1), (22, .iload 7, 2), (24, .iaload, 1), (25, .i2l, 1), (26, .ladd, 1), (27, .lstore 5, 2), (29, .iinc 7 1, 3), (32, .goto (-26), 3), (35, .lload 5, 2), (37, .lreturn, 1)]
theorem tb_X11_addUp : ix_tab cX11_addUp tab_X11_addUp := by
  unfold ix_tab
  decide +kernel
noncomputable def b_X11_addUp_6 (n : Nat) (z : ix_Z)  (a2 : Nat) (x3 : Int32) (x4 : Int32) (rec6 : Int64 → Int32 → ix_D2 → Option (Int64 × ix_D2)) (y5 : Int64) (x7 : Int32) (d : ix_D2) : Option (Int64 × ix_D2) :=
  ix_if (x3 + x4 ≤ x7) (some (y5, d)) (ix_ck (ix_ix z 20 a2 x7) (ix_lt ((31 * y5) + ((d.1 a2 (ix_n x7)).toInt64)) (fun x5_3 => ix_lt (x7 + 1) (fun x7_5 => rec6 x5_3 x7_5 d))))
noncomputable def f_X11_addUp_6 (n : Nat) (z : ix_Z)  (a2 : Nat) (x3 : Int32) (x4 : Int32) (y5 : Int64) (x7 : Int32) (d : ix_D2) : Option (Int64 × ix_D2) := ix_fix (b_X11_addUp_6 n z  a2 x3 x4) (fun _ _ _ => none) n y5 x7 d
noncomputable def f_X11_addUp (n : Nat) (z : ix_Z) (y0 : Int64) (a2 : Nat) (x3 : Int32) (x4 : Int32) (d : ix_D2) : Option (Int64 × ix_D2) :=
  f_X11_addUp_6 n z  a2 x3 x4 y0 x3 d
set_option maxRecDepth 20000 in
theorem tb_X11_addUp_6 {l : Launch} {p : Program} {e : Env} {s : State} {m : MethodId} {args : Array Value} {below : List Frame} {meth : Method} {c : Code} {K : ix_Cx} (hKp : ix_Kp K) {n : Nat} {z : ix_Z} (X : ix_X p s m args c K cX11_addUp RX11 8) (hr : meth.sig.returnType = (some .long)) (hlk : meth.locks = false)  {a2 : Nat} {x3 : Int32} {x4 : Int32} {rec6 : Int64 → Int32 → ix_D2 → Option (Int64 × ix_D2)} {r : Int64} {d1 : ix_D2} (hrec6 : ∀ (y5 : Int64) (x7 : Int32) (d : ix_D2), rec6 y5 x7 d = some (r, d1) → ix_G p l e (ix_rm 0 0 0 0) s m args below meth c (MQ below (ix_Post K (some (.long r)) (ix_w z d1)) args s 0 0 (ix_A K)) K 8 0 0 6 [(2, .ref (K.2.2.1 + a2)), (3, .int x3), (4, .int x4), (5, .long y5), (7, .int x7)] [] (ix_w z d)) {y5 : Int64} {x7 : Int32} {d : ix_D2} (h : b_X11_addUp_6 n z  a2 x3 x4 rec6 y5 x7 d = some (r, d1)) : ix_G p l e (ix_rm 0 0 0 0) s m args below meth c (MQ below (ix_Post K (some (.long r)) (ix_w z d1)) args s 0 0 (ix_A K)) K 8 0 0 6 [(2, .ref (K.2.2.1 + a2)), (3, .int x3), (4, .int x4), (5, .long y5), (7, .int x7)] [] (ix_w z d) := by
  unfold b_X11_addUp_6 at h
  refine ix_iload (i := 7) (j := 4) X (ix_tb_at tb_X11_addUp 4 rfl) rfl (pc1 := 8) rfl ?_
  refine ix_iload_n (i := 3) (j := 1) X (ix_tb_at tb_X11_addUp 5 rfl) rfl rfl (pc1 := 9) rfl ?_
  refine ix_iload (i := 4) (j := 2) X (ix_tb_at tb_X11_addUp 6 rfl) rfl (pc1 := 11) rfl ?_
  refine ix_iadd X (ix_tb_at tb_X11_addUp 7 rfl) (pc1 := 12) rfl ?_
  refine ix_icmp_ge (tgt := 35) X (ix_tb_at tb_X11_addUp 8 rfl) (by decide) (pc1 := 15) rfl (fun q_1 => ?_) (fun q_1 => ?_)
  · have h := ix_ift q_1 h
    refine ix_lload (i := 5) (j := 3) X (ix_tb_at tb_X11_addUp 20 rfl) rfl (pc1 := 37) rfl ?_
    exact ix_lret X hr hlk (ix_r2 (f := fun r => some (.long r)) (g := ix_w z) h) (ix_tb_at tb_X11_addUp 21 rfl)
  · have h := ix_iff q_1 h
    refine ix_ldc2 (pl := 1545) (v := 31) X (ix_tb_at tb_X11_addUp 9 rfl) (by decide +kernel) (pc1 := 18) rfl ?_
    refine ix_lload (i := 5) (j := 3) X (ix_tb_at tb_X11_addUp 10 rfl) rfl (pc1 := 20) rfl ?_
    refine ix_lmul X (ix_tb_at tb_X11_addUp 11 rfl) (pc1 := 21) rfl ?_
    refine ix_aload_n (i := 2) (j := 0) X (ix_tb_at tb_X11_addUp 12 rfl) rfl rfl (pc1 := 22) rfl ?_
    refine ix_iload (i := 7) (j := 4) X (ix_tb_at tb_X11_addUp 13 rfl) rfl (pc1 := 24) rfl ?_
    obtain ⟨k_2, h⟩ := ix_ck_some h
    refine iz_iald X k_2 (ix_tb_at tb_X11_addUp 14 rfl) (pc1 := 25) rfl ?_
    refine ix_i2l X (ix_tb_at tb_X11_addUp 15 rfl) (pc1 := 26) rfl ?_
    refine ix_ladd X (ix_tb_at tb_X11_addUp 16 rfl) (pc1 := 27) rfl ?_
    obtain ⟨x5_3, e_4, h⟩ := ix_lt_ex h
    refine ix_nml e_4 ?_
    refine ix_lstore (i := 5) (L1 := [(5, .long x5_3), (2, .ref (K.2.2.1 + a2)), (3, .int x3), (4, .int x4), (7, .int x7)]) X (ix_tb_at tb_X11_addUp 17 rfl) (Nat.le_of_ble_eq_true rfl) rfl (pc1 := 29) rfl ?_
    obtain ⟨x7_5, e_6, h⟩ := ix_lt_ex h
    refine ix_iinc (i := 7) (j := 4) (v := x7_5) (L1 := [(7, .int x7_5), (5, .long x5_3), (2, .ref (K.2.2.1 + a2)), (3, .int x3), (4, .int x4)]) X (ix_tb_at tb_X11_addUp 18 rfl) rfl (by rw [oi_1]; exact e_6.symm) (Nat.le_of_ble_eq_true rfl) rfl (pc1 := 32) rfl ?_
    refine ix_goto (tgt := 6) X (ix_tb_at tb_X11_addUp 19 rfl) (by decide) ?_
    refine ix_sub (L1 := [(2, .ref (K.2.2.1 + a2)), (3, .int x3), (4, .int x4), (5, .long x5_3), (7, .int x7_5)]) [2, 3, 4, 1, 0] rfl ?_
    exact hrec6 x5_3 x7_5 d h
theorem t_X11_addUp_6 {l : Launch} {p : Program} {e : Env} {s : State} {m : MethodId} {args : Array Value} {below : List Frame} {meth : Method} {c : Code} {K : ix_Cx} (hKp : ix_Kp K) {n : Nat} {z : ix_Z} (X : ix_X p s m args c K cX11_addUp RX11 8) (hr : meth.sig.returnType = (some .long)) (hlk : meth.locks = false)  {a2 : Nat} {x3 : Int32} {x4 : Int32} {r : Int64} {d1 : ix_D2}  {y5 : Int64} {x7 : Int32} {d : ix_D2} (h : f_X11_addUp_6 n z  a2 x3 x4 y5 x7 d = some (r, d1)) : ix_G p l e (ix_rm 0 0 0 0) s m args below meth c (MQ below (ix_Post K (some (.long r)) (ix_w z d1)) args s 0 0 (ix_A K)) K 8 0 0 6 [(2, .ref (K.2.2.1 + a2)), (3, .int x3), (4, .int x4), (5, .long y5), (7, .int x7)] [] (ix_w z d) := by
  have key : ∀ (f : Nat) (y5 : Int64) (x7 : Int32) (d : ix_D2), ix_fix (b_X11_addUp_6 n z  a2 x3 x4) (fun _ _ _ => none) f y5 x7 d = some (r, d1) → ix_G p l e (ix_rm 0 0 0 0) s m args below meth c (MQ below (ix_Post K (some (.long r)) (ix_w z d1)) args s 0 0 (ix_A K)) K 8 0 0 6 [(2, .ref (K.2.2.1 + a2)), (3, .int x3), (4, .int x4), (5, .long y5), (7, .int x7)] [] (ix_w z d) := by
    intro f
    induction f with
    | zero =>
      intro y5 x7 d h
      have h : (none : Option (Int64 × ix_D2)) = some (r, d1) := h
      cases h
    | succ f ih =>
      intro y5 x7 d h
      exact tb_X11_addUp_6 hKp X hr hlk (rec6 := ix_fix (b_X11_addUp_6 n z  a2 x3 x4) (fun _ _ _ => none) f)  ih h
  exact key n y5 x7 d h
set_option maxRecDepth 20000 in
theorem c_X11_addUp {l : Launch} {K : ix_Cx} (hKp : ix_Kp K) {n : Nat} {z : ix_Z} {y0 : Int64} {a2 : Nat} {x3 : Int32} {x4 : Int32} {d : ix_D2} {r : Int64} {d1 : ix_D2} (h : f_X11_addUp n z y0 a2 x3 x4 d = some (r, d1)) : ix_M l K yX11_addUp cX11_addUp 8 (some .long) 0 0 0 0 [.long y0, .ref (K.2.2.1 + a2), .int x3, .int x4] (ix_w z d) (some (.long r)) (ix_w z d1) := by
  refine ix_met mf_X11_addUp hKp (Nat.le_of_ble_eq_true rfl) ?_
  intro p e s m args below meth c hr hlk hnm X
  have X : ix_X p s m args c K cX11_addUp RX11 8 := X
  show ix_G p l e (ix_rm 0 0 0 0) s m args below meth c (MQ below (ix_Post K (some (.long r)) (ix_w z d1)) args s 0 0 (ix_A K)) K 8 0 0 0 [(0, .long y0), (2, .ref (K.2.2.1 + a2)), (3, .int x3), (4, .int x4)] [] (ix_w z d)
  unfold f_X11_addUp at h
  refine ix_lload_n (i := 0) (j := 0) X (ix_tb_at tb_X11_addUp 0 rfl) rfl rfl (pc1 := 1) rfl ?_
  refine ix_lstore (i := 5) (L1 := [(5, .long y0), (0, .long y0), (2, .ref (K.2.2.1 + a2)), (3, .int x3), (4, .int x4)]) X (ix_tb_at tb_X11_addUp 1 rfl) (Nat.le_of_ble_eq_true rfl) rfl (pc1 := 3) rfl ?_
  refine ix_iload_n (i := 3) (j := 3) X (ix_tb_at tb_X11_addUp 2 rfl) rfl rfl (pc1 := 4) rfl ?_
  refine ix_istore (i := 7) (L1 := [(7, .int x3), (5, .long y0), (0, .long y0), (2, .ref (K.2.2.1 + a2)), (3, .int x3), (4, .int x4)]) X (ix_tb_at tb_X11_addUp 3 rfl) (Nat.le_of_ble_eq_true rfl) rfl (pc1 := 6) rfl ?_
  refine ix_sub (L1 := [(2, .ref (K.2.2.1 + a2)), (3, .int x3), (4, .int x4), (5, .long y0), (7, .int x3)]) [3, 4, 5, 1, 0] rfl ?_
  exact t_X11_addUp_6 hKp X hr hlk  h
def tab_X11_digest : List (Nat × Instr × Nat) := [(0, .ldc2_w 394, 3), (3, .aload_n 0, 1), (4, .getfield 28, 3), (7, .getfield 77, 3), (10, .i2l, 1), (11, .ladd, 1), (12, .lstore_n 1, 1), (13, .iconst 1, 1), (14, .istore_n 3, 1), (15, .iload_n 3, 1), (16, .aload_n 0, 1), (17, .getfield 28, 3), (20, .getfield 77, 3), (23, .if_icmp .gt 26, 3), (26, .ldc2_w 396, 3), (29, .lload_n 1, 1), (30, .lmul, 1), (31, .aload_n 0, 1), (32, .getfield 28, 3), (35, .getfield 250, 3), (38, .iload_n 3, 1), (39, .iaload, 1), (40, .i2l, 1), (41, .ladd, 1), (42, .lstore_n 1, 1), (43, .iinc 3 1, 3), (46, .goto (-31), 3), (49, .iconst 0, 1), (50, .istore_n 3, 1), (51, .iload_n 3, 1), (52, .aload_n 0, 1), (53, .getfield 28, 3), (56, .getfield 195, 3), (59, .getfield 224, 3), (62, .if_icmp .ge 51, 3), (65, .ldc2_w 396, 3), (68, .lload_n 1, 1), (69, .aload_n 0, 1), (70, .getfield 28, 3), (73, .getfield 195, 3), (76, .getfield 331, 3), (79, .aload_n 0, 1), (80, .getfield 28, 3), (83, .getfield 195, 3), (86, .getfield 332, 3), (89, .iload_n 3, 1), (90, .iaload, 1), (91, .aload_n 0, 1), (92, .getfield 28, 3), (95, .getfield 195, 3), (98, .iload_n 3, 1), (99, .invokevirtual 335, 3), (102, .invokestatic 398, 3), (105, .lmul, 1), (106, .lstore_n 1, 1), (107, .iinc 3 1, 3), (110, .goto (-59), 3), (113, .ldc2_w 396, 3), (116, .lload_n 1, 1), (117, .aload_n 0, 1), (118, .getfield 28, 3), (121, .getfield 244, 3), (124, .iconst 0, 1), (125, .aload_n 0, 1), (126, .getfield 28, 3), (129, .getfield 241, 3), (132, .invokestatic 398, 3), (135, .lmul, 1), (136, .lstore_n 1, 1), (137, .iconst 0, 1), (138, .istore_n 3, 1), (139, .iload_n 3, 1), (140, .bipush 40, 2), (142, .if_icmp .ge 39, 3), (145, .ldc2_w 396, 3), (148, .lload_n 1, 1), (149, .lmul, 1), (150, .aload_n 0, 1), (151, .getfield 14, 3), (154, .iload_n 3, 1), (155, .iaload, 1), (156, .i2l, 1), (157, .ladd, 1), (158, .aload_n 0, 1), (159, .getfield 11, 3), (162, .iload_n 3, 1), (163, .aaload, 1), (164, .iconst 0, 1), (165, .aload_n 0, 1), (166, .getfield 14, 3), (169, .iload_n 3, 1), (170, .iaload, 1), (171, .invokestatic 398, 3), (174, .lstore_n 1, 1), (175, .iinc 3 1, 3), (178, .goto (-39), 3), (181, .ldc2_w 396, 3), (184, .ldc2_w 396, 3), (187, .lload_n 1, 1), (188, .lmul, 1), (189, .aload_n 0, 1), (190, .getfield 28, 3), (193, .getfield 257, 3), (196, .i2l, 1), (197, .ladd, 1), (198, .lmul, 1), (199, .aload_n 0, 1), (200, .getfield 28, 3), (203, .getfield 260, 3), (206, .i2l, 1), (207, .ladd, 1), (208, .lstore_n 1, 1), (209, .iconst 1, 1), (210, .istore_n 3, 1), (211, .iload_n 3, 1), (212, .aload_n 0, 1), (213, .getfield 28, 3), (216, .getfield 77, 3), (219, .if_icmp .gt 34, 3), (222, .ldc2_w 396, 3), (225, .lload_n 1, 1), (226, .lmul, 1), (227, .aload_n 0, 1), (228, .getfield 28, 3), (231, .getfield 363, 3), (234, .iload_n 3, 1), (235, .baload, 1), (236, .ifCond .eq 7, 3), (239, .iconst 1, 1), (240, .goto 4, 3), (243, .iconst 0, 1), (244, .i2l, 1), (245, .ladd, 1), (246, .lstore_n 1, 1), (247, .iinc 3 1, 3), (250, .goto (-39), 3), (253, .ldc2_w 396, 3), (256, .lload_n 1, 1), (257, .lmul, 1), (258, .aload_n 0, 1), (259, .getfield 41, 3), (262, .getfield 192, 3), (265, .getfield 224, 3), (268, .i2l, 1), (269, .ladd, 1), (270, .lreturn, 1)]
theorem tb_X11_digest : ix_tab cX11_digest tab_X11_digest := by
  unfold ix_tab
  decide +kernel
noncomputable def f_X11_digest_244 (n : Nat) (z : ix_Z) (rec211 : Int64 → Int32 → ix_D2 → Option (Int64 × ix_D2)) (a0 : Nat) (x3 : Int32) (s0 : Int32) (s1 : Int64) (d : ix_D2) : Option (Int64 × ix_D2) :=
  ix_lt (s1 + s0.toInt64) (fun x1_49 => ix_lt (x3 + 1) (fun x3_51 => rec211 x1_49 x3_51 d))
noncomputable def b_X11_digest_211 (n : Nat) (z : ix_Z)  (a0 : Nat) (rec211 : Int64 → Int32 → ix_D2 → Option (Int64 × ix_D2)) (y1 : Int64) (x3 : Int32) (d : ix_D2) : Option (Int64 × ix_D2) :=
  ix_ck (ix_ok z [10] a0) (ix_bd1 (z.1 a0 3) (fun b_35 => ix_ck (ix_ok z [2] b_35) (ix_if (d.1 b_35 5 < x3) (ix_bd1 (z.1 a0 6) (fun b_39 => ix_ck (ix_ok z [8] b_39) (ix_bd1 (z.1 b_39 1) (fun b_42 => ix_ck (ix_ok z [7] b_42) (some ((31 * y1) + ((d.1 b_42 2).toInt64), d)))))) (ix_bd1 (z.1 b_35 2) (fun b_45 => ix_ck (ix_ix z 22 b_45 x3) (ix_if (d.1 b_45 (ix_n x3) = 0) (f_X11_digest_244 n z rec211 a0 x3 0 (31 * y1) d) (f_X11_digest_244 n z rec211 a0 x3 1 (31 * y1) d)))))))
noncomputable def f_X11_digest_211 (n : Nat) (z : ix_Z)  (a0 : Nat) (y1 : Int64) (x3 : Int32) (d : ix_D2) : Option (Int64 × ix_D2) := ix_fix (b_X11_digest_211 n z  a0) (fun _ _ _ => none) n y1 x3 d
noncomputable def b_X11_digest_139 (n : Nat) (z : ix_Z)  (a0 : Nat) (rec139 : Int64 → Int32 → ix_D2 → Option (Int64 × ix_D2)) (y1 : Int64) (x3 : Int32) (d : ix_D2) : Option (Int64 × ix_D2) :=
  ix_if (40 ≤ x3) (ix_ck (ix_ok z [10] a0) (ix_bd1 (z.1 a0 3) (fun b_29 => ix_ck (ix_ok z [2] b_29) (ix_lt ((31 * ((31 * y1) + ((d.1 b_29 8).toInt64))) + ((d.1 b_29 9).toInt64)) (fun x1_32 => f_X11_digest_211 n z  a0 x1_32 1 d))))) (ix_ck (ix_ok z [10] a0) (ix_bd1 (z.1 a0 1) (fun b_54 => ix_ck (ix_ix z 20 b_54 x3) (ix_bd1 (z.1 a0 0) (fun b_57 => ix_ck (ix_ix z 25 b_57 x3) (ix_bd1 (z.1 b_57 (ix_n x3)) (fun b_60 => ix_bd2 (f_X11_addUp n z ((31 * y1) + ((d.1 b_54 (ix_n x3)).toInt64)) b_60 0 (d.1 b_54 (ix_n x3)) d) (fun r_64 d_62 => ix_lt (x3 + 1) (fun x3_65 => rec139 r_64 x3_65 d_62)))))))))
noncomputable def f_X11_digest_139 (n : Nat) (z : ix_Z)  (a0 : Nat) (y1 : Int64) (x3 : Int32) (d : ix_D2) : Option (Int64 × ix_D2) := ix_fix (b_X11_digest_139 n z  a0) (fun _ _ _ => none) n y1 x3 d
noncomputable def b_X11_digest_51 (n : Nat) (z : ix_Z)  (a0 : Nat) (rec51 : Int64 → Int32 → ix_D2 → Option (Int64 × ix_D2)) (y1 : Int64) (x3 : Int32) (d : ix_D2) : Option (Int64 × ix_D2) :=
  ix_ck (ix_ok z [10] a0) (ix_bd1 (z.1 a0 3) (fun b_13 => ix_ck (ix_ok z [2] b_13) (ix_bd1 (z.1 b_13 0) (fun b_16 => ix_ck (ix_ok z [7] b_16) (ix_if (d.1 b_16 2 ≤ x3) (ix_bd1 (z.1 b_13 3) (fun b_20 => ix_bd2 (f_X11_addUp n z y1 b_20 0 (d.1 b_13 7) d) (fun r_24 d_22 => ix_lt (31 * r_24) (fun x1_25 => f_X11_digest_139 n z  a0 x1_25 0 d_22)))) (ix_bd1 (z.1 b_16 0) (fun b_67 => ix_bd1 (z.1 b_16 1) (fun b_69 => ix_ck (ix_ix z 20 b_69 x3) (ix_bd2 (f_X7_size n z b_16 x3 d) (fun r_74 d_72 => ix_bd2 (f_X11_addUp n z y1 b_67 (d.1 b_69 (ix_n x3)) r_74 d_72) (fun r_77 d_75 => ix_lt (31 * r_77) (fun x1_78 => ix_lt (x3 + 1) (fun x3_80 => rec51 x1_78 x3_80 d_75)))))))))))))
noncomputable def f_X11_digest_51 (n : Nat) (z : ix_Z)  (a0 : Nat) (y1 : Int64) (x3 : Int32) (d : ix_D2) : Option (Int64 × ix_D2) := ix_fix (b_X11_digest_51 n z  a0) (fun _ _ _ => none) n y1 x3 d
noncomputable def b_X11_digest_15 (n : Nat) (z : ix_Z)  (a0 : Nat) (rec15 : Int64 → Int32 → ix_D2 → Option (Int64 × ix_D2)) (y1 : Int64) (x3 : Int32) (d : ix_D2) : Option (Int64 × ix_D2) :=
  ix_ck (ix_ok z [10] a0) (ix_bd1 (z.1 a0 3) (fun b_8 => ix_ck (ix_ok z [2] b_8) (ix_if (d.1 b_8 5 < x3) (f_X11_digest_51 n z  a0 y1 0 d) (ix_bd1 (z.1 b_8 1) (fun b_82 => ix_ck (ix_ix z 20 b_82 x3) (ix_lt ((31 * y1) + ((d.1 b_82 (ix_n x3)).toInt64)) (fun x1_85 => ix_lt (x3 + 1) (fun x3_87 => rec15 x1_85 x3_87 d))))))))
noncomputable def f_X11_digest_15 (n : Nat) (z : ix_Z)  (a0 : Nat) (y1 : Int64) (x3 : Int32) (d : ix_D2) : Option (Int64 × ix_D2) := ix_fix (b_X11_digest_15 n z  a0) (fun _ _ _ => none) n y1 x3 d
noncomputable def f_X11_digest (n : Nat) (z : ix_Z) (a0 : Nat) (d : ix_D2) : Option (Int64 × ix_D2) :=
  ix_ck (ix_ok z [10] a0) (ix_bd1 (z.1 a0 3) (fun b_2 => ix_ck (ix_ok z [2] b_2) (ix_lt (217 + ((d.1 b_2 5).toInt64)) (fun x1_5 => f_X11_digest_15 n z  a0 x1_5 1 d))))
set_option maxRecDepth 20000 in
theorem t_X11_digest_244 {l : Launch} {p : Program} {e : Env} {s : State} {m : MethodId} {args : Array Value} {below : List Frame} {meth : Method} {c : Code} {K : ix_Cx} (hKp : ix_Kp K) {n : Nat} {z : ix_Z} (X : ix_X p s m args c K cX11_digest RX11 4) (hr : meth.sig.returnType = (some .long)) (hlk : meth.locks = false) {rec211 : Int64 → Int32 → ix_D2 → Option (Int64 × ix_D2)} {a0 : Nat} {x3 : Int32} {s0 : Int32} {s1 : Int64} {r : Int64} {d1 : ix_D2} (hrec211 : ∀ (y1 : Int64) (x3 : Int32) (d : ix_D2), rec211 y1 x3 d = some (r, d1) → ix_G p l e (ix_rm 2 42 0 0) s m args below meth c (MQ below (ix_Post K (some (.long r)) (ix_w z d1)) args s 0 0 (ix_A K)) K 4 0 0 211 [(0, .ref (K.2.2.1 + a0)), (1, .long y1), (3, .int x3)] [] (ix_w z d)) {d : ix_D2} (h : f_X11_digest_244 n z rec211 a0 x3 s0 s1 d = some (r, d1)) : ix_G p l e (ix_rm 2 42 0 0) s m args below meth c (MQ below (ix_Post K (some (.long r)) (ix_w z d1)) args s 0 0 (ix_A K)) K 4 0 0 244 [(0, .ref (K.2.2.1 + a0)), (3, .int x3)] [.int s0, .long s1] (ix_w z d) := by
  unfold f_X11_digest_244 at h
  refine ix_i2l X (ix_tb_at tb_X11_digest 131 rfl) (pc1 := 245) rfl ?_
  refine ix_ladd X (ix_tb_at tb_X11_digest 132 rfl) (pc1 := 246) rfl ?_
  obtain ⟨x1_49, e_50, h⟩ := ix_lt_ex h
  refine ix_nml e_50 ?_
  refine ix_lstore_n (i := 1) (L1 := [(1, .long x1_49), (0, .ref (K.2.2.1 + a0)), (3, .int x3)]) X (ix_tb_at tb_X11_digest 133 rfl) rfl (Nat.le_of_ble_eq_true rfl) rfl (pc1 := 247) rfl ?_
  obtain ⟨x3_51, e_52, h⟩ := ix_lt_ex h
  refine ix_iinc (i := 3) (j := 2) (v := x3_51) (L1 := [(3, .int x3_51), (1, .long x1_49), (0, .ref (K.2.2.1 + a0))]) X (ix_tb_at tb_X11_digest 134 rfl) rfl (by rw [oi_1]; exact e_52.symm) (Nat.le_of_ble_eq_true rfl) rfl (pc1 := 250) rfl ?_
  refine ix_goto (tgt := 211) X (ix_tb_at tb_X11_digest 135 rfl) (by decide) ?_
  refine ix_sub (L1 := [(0, .ref (K.2.2.1 + a0)), (1, .long x1_49), (3, .int x3_51)]) [2, 1, 0] rfl ?_
  exact hrec211 x1_49 x3_51 d h
set_option maxRecDepth 20000 in
theorem tb_X11_digest_211 {l : Launch} {p : Program} {e : Env} {s : State} {m : MethodId} {args : Array Value} {below : List Frame} {meth : Method} {c : Code} {K : ix_Cx} (hKp : ix_Kp K) {n : Nat} {z : ix_Z} (X : ix_X p s m args c K cX11_digest RX11 4) (hr : meth.sig.returnType = (some .long)) (hlk : meth.locks = false)  {a0 : Nat} {rec211 : Int64 → Int32 → ix_D2 → Option (Int64 × ix_D2)} {r : Int64} {d1 : ix_D2} (hrec211 : ∀ (y1 : Int64) (x3 : Int32) (d : ix_D2), rec211 y1 x3 d = some (r, d1) → ix_G p l e (ix_rm 2 42 0 0) s m args below meth c (MQ below (ix_Post K (some (.long r)) (ix_w z d1)) args s 0 0 (ix_A K)) K 4 0 0 211 [(0, .ref (K.2.2.1 + a0)), (1, .long y1), (3, .int x3)] [] (ix_w z d)) {y1 : Int64} {x3 : Int32} {d : ix_D2} (h : b_X11_digest_211 n z  a0 rec211 y1 x3 d = some (r, d1)) : ix_G p l e (ix_rm 2 42 0 0) s m args below meth c (MQ below (ix_Post K (some (.long r)) (ix_w z d1)) args s 0 0 (ix_A K)) K 4 0 0 211 [(0, .ref (K.2.2.1 + a0)), (1, .long y1), (3, .int x3)] [] (ix_w z d) := by
  unfold b_X11_digest_211 at h
  refine ix_iload_n (i := 3) (j := 2) X (ix_tb_at tb_X11_digest 114 rfl) rfl rfl (pc1 := 212) rfl ?_
  refine ix_aload_n (i := 0) (j := 0) X (ix_tb_at tb_X11_digest 115 rfl) rfl rfl (pc1 := 213) rfl ?_
  obtain ⟨k_34, h⟩ := ix_ck_some h
  obtain ⟨b_35, q_36, h⟩ := ix_bd1_ex h
  refine iz_getR X fl_RX11_28 k_34 q_36 (ix_tb_at tb_X11_digest 116 rfl) (pc1 := 216) rfl ?_
  obtain ⟨k_37, h⟩ := ix_ck_some h
  refine iz_getI X fl_RX11_77 k_37 (ix_tb_at tb_X11_digest 117 rfl) (pc1 := 219) rfl ?_
  refine ix_icmp_gt (tgt := 253) X (ix_tb_at tb_X11_digest 118 rfl) (by decide) (pc1 := 222) rfl (fun q_38 => ?_) (fun q_38 => ?_)
  · have h := ix_ift q_38 h
    refine ix_ldc2 (pl := 1545) (v := 31) X (ix_tb_at tb_X11_digest 136 rfl) (by decide +kernel) (pc1 := 256) rfl ?_
    refine ix_lload_n (i := 1) (j := 1) X (ix_tb_at tb_X11_digest 137 rfl) rfl rfl (pc1 := 257) rfl ?_
    refine ix_lmul X (ix_tb_at tb_X11_digest 138 rfl) (pc1 := 258) rfl ?_
    refine ix_aload_n (i := 0) (j := 0) X (ix_tb_at tb_X11_digest 139 rfl) rfl rfl (pc1 := 259) rfl ?_
    obtain ⟨b_39, q_40, h⟩ := ix_bd1_ex h
    refine iz_getR X fl_RX11_41 k_34 q_40 (ix_tb_at tb_X11_digest 140 rfl) (pc1 := 262) rfl ?_
    obtain ⟨k_41, h⟩ := ix_ck_some h
    obtain ⟨b_42, q_43, h⟩ := ix_bd1_ex h
    refine iz_getR X fl_RX11_192 k_41 q_43 (ix_tb_at tb_X11_digest 141 rfl) (pc1 := 265) rfl ?_
    obtain ⟨k_44, h⟩ := ix_ck_some h
    refine iz_getI X fl_RX11_224 k_44 (ix_tb_at tb_X11_digest 142 rfl) (pc1 := 268) rfl ?_
    refine ix_i2l X (ix_tb_at tb_X11_digest 143 rfl) (pc1 := 269) rfl ?_
    refine ix_ladd X (ix_tb_at tb_X11_digest 144 rfl) (pc1 := 270) rfl ?_
    exact ix_lret X hr hlk (ix_r2 (f := fun r => some (.long r)) (g := ix_w z) h) (ix_tb_at tb_X11_digest 145 rfl)
  · have h := ix_iff q_38 h
    refine ix_ldc2 (pl := 1545) (v := 31) X (ix_tb_at tb_X11_digest 119 rfl) (by decide +kernel) (pc1 := 225) rfl ?_
    refine ix_lload_n (i := 1) (j := 1) X (ix_tb_at tb_X11_digest 120 rfl) rfl rfl (pc1 := 226) rfl ?_
    refine ix_lmul X (ix_tb_at tb_X11_digest 121 rfl) (pc1 := 227) rfl ?_
    refine ix_aload_n (i := 0) (j := 0) X (ix_tb_at tb_X11_digest 122 rfl) rfl rfl (pc1 := 228) rfl ?_
    refine iz_getR X fl_RX11_28 k_34 q_36 (ix_tb_at tb_X11_digest 123 rfl) (pc1 := 231) rfl ?_
    obtain ⟨b_45, q_46, h⟩ := ix_bd1_ex h
    refine iz_getR X fl_RX11_363 k_37 q_46 (ix_tb_at tb_X11_digest 124 rfl) (pc1 := 234) rfl ?_
    refine ix_iload_n (i := 3) (j := 2) X (ix_tb_at tb_X11_digest 125 rfl) rfl rfl (pc1 := 235) rfl ?_
    obtain ⟨k_47, h⟩ := ix_ck_some h
    refine iz_zald X k_47 (ix_tb_at tb_X11_digest 126 rfl) (pc1 := 236) rfl ?_
    refine ix_if_eq (tgt := 243) X (ix_tb_at tb_X11_digest 127 rfl) (by decide) (pc1 := 239) rfl (fun q_48 => ?_) (fun q_48 => ?_)
    · have h := ix_ift q_48 h
      refine ix_iconst (v := 0) X (ix_tb_at tb_X11_digest 130 rfl) (by decide) (pc1 := 244) rfl ?_
      refine ix_sub (L1 := [(0, .ref (K.2.2.1 + a0)), (3, .int x3)]) [0, 2] rfl ?_
      exact t_X11_digest_244 hKp X hr hlk hrec211 h
    · have h := ix_iff q_48 h
      refine ix_iconst (v := 1) X (ix_tb_at tb_X11_digest 128 rfl) (by decide) (pc1 := 240) rfl ?_
      refine ix_goto (tgt := 244) X (ix_tb_at tb_X11_digest 129 rfl) (by decide) ?_
      refine ix_sub (L1 := [(0, .ref (K.2.2.1 + a0)), (3, .int x3)]) [0, 2] rfl ?_
      exact t_X11_digest_244 hKp X hr hlk hrec211 h
theorem t_X11_digest_211 {l : Launch} {p : Program} {e : Env} {s : State} {m : MethodId} {args : Array Value} {below : List Frame} {meth : Method} {c : Code} {K : ix_Cx} (hKp : ix_Kp K) {n : Nat} {z : ix_Z} (X : ix_X p s m args c K cX11_digest RX11 4) (hr : meth.sig.returnType = (some .long)) (hlk : meth.locks = false)  {a0 : Nat} {r : Int64} {d1 : ix_D2}  {y1 : Int64} {x3 : Int32} {d : ix_D2} (h : f_X11_digest_211 n z  a0 y1 x3 d = some (r, d1)) : ix_G p l e (ix_rm 2 42 0 0) s m args below meth c (MQ below (ix_Post K (some (.long r)) (ix_w z d1)) args s 0 0 (ix_A K)) K 4 0 0 211 [(0, .ref (K.2.2.1 + a0)), (1, .long y1), (3, .int x3)] [] (ix_w z d) := by
  have key : ∀ (f : Nat) (y1 : Int64) (x3 : Int32) (d : ix_D2), ix_fix (b_X11_digest_211 n z  a0) (fun _ _ _ => none) f y1 x3 d = some (r, d1) → ix_G p l e (ix_rm 2 42 0 0) s m args below meth c (MQ below (ix_Post K (some (.long r)) (ix_w z d1)) args s 0 0 (ix_A K)) K 4 0 0 211 [(0, .ref (K.2.2.1 + a0)), (1, .long y1), (3, .int x3)] [] (ix_w z d) := by
    intro f
    induction f with
    | zero =>
      intro y1 x3 d h
      have h : (none : Option (Int64 × ix_D2)) = some (r, d1) := h
      cases h
    | succ f ih =>
      intro y1 x3 d h
      exact tb_X11_digest_211 hKp X hr hlk (rec211 := ix_fix (b_X11_digest_211 n z  a0) (fun _ _ _ => none) f)  ih h
  exact key n y1 x3 d h
set_option maxRecDepth 20000 in
theorem tb_X11_digest_139 {l : Launch} {p : Program} {e : Env} {s : State} {m : MethodId} {args : Array Value} {below : List Frame} {meth : Method} {c : Code} {K : ix_Cx} (hKp : ix_Kp K) {n : Nat} {z : ix_Z} (X : ix_X p s m args c K cX11_digest RX11 4) (hr : meth.sig.returnType = (some .long)) (hlk : meth.locks = false)  {a0 : Nat} {rec139 : Int64 → Int32 → ix_D2 → Option (Int64 × ix_D2)} {r : Int64} {d1 : ix_D2} (hrec139 : ∀ (y1 : Int64) (x3 : Int32) (d : ix_D2), rec139 y1 x3 d = some (r, d1) → ix_G p l e (ix_rm 2 42 0 0) s m args below meth c (MQ below (ix_Post K (some (.long r)) (ix_w z d1)) args s 0 0 (ix_A K)) K 4 0 0 139 [(0, .ref (K.2.2.1 + a0)), (1, .long y1), (3, .int x3)] [] (ix_w z d)) {y1 : Int64} {x3 : Int32} {d : ix_D2} (h : b_X11_digest_139 n z  a0 rec139 y1 x3 d = some (r, d1)) : ix_G p l e (ix_rm 2 42 0 0) s m args below meth c (MQ below (ix_Post K (some (.long r)) (ix_w z d1)) args s 0 0 (ix_A K)) K 4 0 0 139 [(0, .ref (K.2.2.1 + a0)), (1, .long y1), (3, .int x3)] [] (ix_w z d) := by
  unfold b_X11_digest_139 at h
  refine ix_iload_n (i := 3) (j := 2) X (ix_tb_at tb_X11_digest 71 rfl) rfl rfl (pc1 := 140) rfl ?_
  refine ix_bipush (v := 40) X (ix_tb_at tb_X11_digest 72 rfl) (by decide) (pc1 := 142) rfl ?_
  refine ix_icmp_ge (tgt := 181) X (ix_tb_at tb_X11_digest 73 rfl) (by decide) (pc1 := 145) rfl (fun q_27 => ?_) (fun q_27 => ?_)
  · have h := ix_ift q_27 h
    refine ix_ldc2 (pl := 1545) (v := 31) X (ix_tb_at tb_X11_digest 96 rfl) (by decide +kernel) (pc1 := 184) rfl ?_
    refine ix_ldc2 (pl := 1545) (v := 31) X (ix_tb_at tb_X11_digest 97 rfl) (by decide +kernel) (pc1 := 187) rfl ?_
    refine ix_lload_n (i := 1) (j := 1) X (ix_tb_at tb_X11_digest 98 rfl) rfl rfl (pc1 := 188) rfl ?_
    refine ix_lmul X (ix_tb_at tb_X11_digest 99 rfl) (pc1 := 189) rfl ?_
    refine ix_aload_n (i := 0) (j := 0) X (ix_tb_at tb_X11_digest 100 rfl) rfl rfl (pc1 := 190) rfl ?_
    obtain ⟨k_28, h⟩ := ix_ck_some h
    obtain ⟨b_29, q_30, h⟩ := ix_bd1_ex h
    refine iz_getR X fl_RX11_28 k_28 q_30 (ix_tb_at tb_X11_digest 101 rfl) (pc1 := 193) rfl ?_
    obtain ⟨k_31, h⟩ := ix_ck_some h
    refine iz_getI X fl_RX11_257 k_31 (ix_tb_at tb_X11_digest 102 rfl) (pc1 := 196) rfl ?_
    refine ix_i2l X (ix_tb_at tb_X11_digest 103 rfl) (pc1 := 197) rfl ?_
    refine ix_ladd X (ix_tb_at tb_X11_digest 104 rfl) (pc1 := 198) rfl ?_
    refine ix_lmul X (ix_tb_at tb_X11_digest 105 rfl) (pc1 := 199) rfl ?_
    refine ix_aload_n (i := 0) (j := 0) X (ix_tb_at tb_X11_digest 106 rfl) rfl rfl (pc1 := 200) rfl ?_
    refine iz_getR X fl_RX11_28 k_28 q_30 (ix_tb_at tb_X11_digest 107 rfl) (pc1 := 203) rfl ?_
    refine iz_getI X fl_RX11_260 k_31 (ix_tb_at tb_X11_digest 108 rfl) (pc1 := 206) rfl ?_
    refine ix_i2l X (ix_tb_at tb_X11_digest 109 rfl) (pc1 := 207) rfl ?_
    refine ix_ladd X (ix_tb_at tb_X11_digest 110 rfl) (pc1 := 208) rfl ?_
    obtain ⟨x1_32, e_33, h⟩ := ix_lt_ex h
    refine ix_nml e_33 ?_
    refine ix_lstore_n (i := 1) (L1 := [(1, .long x1_32), (0, .ref (K.2.2.1 + a0)), (3, .int x3)]) X (ix_tb_at tb_X11_digest 111 rfl) rfl (Nat.le_of_ble_eq_true rfl) rfl (pc1 := 209) rfl ?_
    refine ix_iconst (v := 1) X (ix_tb_at tb_X11_digest 112 rfl) (by decide) (pc1 := 210) rfl ?_
    refine ix_istore_n (i := 3) (L1 := [(3, .int 1), (1, .long x1_32), (0, .ref (K.2.2.1 + a0))]) X (ix_tb_at tb_X11_digest 113 rfl) rfl (Nat.le_of_ble_eq_true rfl) rfl (pc1 := 211) rfl ?_
    refine ix_sub (L1 := [(0, .ref (K.2.2.1 + a0)), (1, .long x1_32), (3, .int 1)]) [2, 1, 0] rfl ?_
    exact t_X11_digest_211 hKp X hr hlk  h
  · have h := ix_iff q_27 h
    refine ix_ldc2 (pl := 1545) (v := 31) X (ix_tb_at tb_X11_digest 74 rfl) (by decide +kernel) (pc1 := 148) rfl ?_
    refine ix_lload_n (i := 1) (j := 1) X (ix_tb_at tb_X11_digest 75 rfl) rfl rfl (pc1 := 149) rfl ?_
    refine ix_lmul X (ix_tb_at tb_X11_digest 76 rfl) (pc1 := 150) rfl ?_
    refine ix_aload_n (i := 0) (j := 0) X (ix_tb_at tb_X11_digest 77 rfl) rfl rfl (pc1 := 151) rfl ?_
    obtain ⟨k_53, h⟩ := ix_ck_some h
    obtain ⟨b_54, q_55, h⟩ := ix_bd1_ex h
    refine iz_getR X fl_RX11_14 k_53 q_55 (ix_tb_at tb_X11_digest 78 rfl) (pc1 := 154) rfl ?_
    refine ix_iload_n (i := 3) (j := 2) X (ix_tb_at tb_X11_digest 79 rfl) rfl rfl (pc1 := 155) rfl ?_
    obtain ⟨k_56, h⟩ := ix_ck_some h
    refine iz_iald X k_56 (ix_tb_at tb_X11_digest 80 rfl) (pc1 := 156) rfl ?_
    refine ix_i2l X (ix_tb_at tb_X11_digest 81 rfl) (pc1 := 157) rfl ?_
    refine ix_ladd X (ix_tb_at tb_X11_digest 82 rfl) (pc1 := 158) rfl ?_
    refine ix_aload_n (i := 0) (j := 0) X (ix_tb_at tb_X11_digest 83 rfl) rfl rfl (pc1 := 159) rfl ?_
    obtain ⟨b_57, q_58, h⟩ := ix_bd1_ex h
    refine iz_getR X fl_RX11_11 k_53 q_58 (ix_tb_at tb_X11_digest 84 rfl) (pc1 := 162) rfl ?_
    refine ix_iload_n (i := 3) (j := 2) X (ix_tb_at tb_X11_digest 85 rfl) rfl rfl (pc1 := 163) rfl ?_
    obtain ⟨k_59, h⟩ := ix_ck_some h
    refine iz_aald X (Or.inr rfl) k_59 (ix_tb_at tb_X11_digest 86 rfl) (pc1 := 164) rfl ?_
    obtain ⟨b_60, q_61, h⟩ := ix_bd1_ex h
    refine ix_rvs q_61 ?_
    refine ix_iconst (v := 0) X (ix_tb_at tb_X11_digest 87 rfl) (by decide) (pc1 := 165) rfl ?_
    refine ix_aload_n (i := 0) (j := 0) X (ix_tb_at tb_X11_digest 88 rfl) rfl rfl (pc1 := 166) rfl ?_
    refine iz_getR X fl_RX11_14 k_53 q_55 (ix_tb_at tb_X11_digest 89 rfl) (pc1 := 169) rfl ?_
    refine ix_iload_n (i := 3) (j := 2) X (ix_tb_at tb_X11_digest 90 rfl) rfl rfl (pc1 := 170) rfl ?_
    refine iz_iald X k_56 (ix_tb_at tb_X11_digest 91 rfl) (pc1 := 171) rfl ?_
    obtain ⟨r_64, d_62, h_63, h⟩ := ix_bd2_ex h
    refine ix_callS (As := [.long ((31 * y1) + ((d.1 b_54 (ix_n x3)).toInt64)), .ref (K.2.2.1 + b_60), .int 0, .int (d.1 b_54 (ix_n x3))]) (rest := []) X mf_X11_addUp st_X11_addUp ml_RX11_398 ⟨Nat.le_of_ble_eq_true rfl, Nat.le_of_ble_eq_true rfl⟩ ⟨Nat.le_of_ble_eq_true rfl, Nat.le_of_ble_eq_true rfl⟩ rfl (Nat.le_of_ble_eq_true rfl) (ix_tb_at tb_X11_digest 92 rfl) (c_X11_addUp hKp h_63) rfl (pc1 := 174) rfl ?_
    refine ix_lstore_n (i := 1) (L1 := [(1, .long r_64), (0, .ref (K.2.2.1 + a0)), (3, .int x3)]) X (ix_tb_at tb_X11_digest 93 rfl) rfl (Nat.le_of_ble_eq_true rfl) rfl (pc1 := 175) rfl ?_
    obtain ⟨x3_65, e_66, h⟩ := ix_lt_ex h
    refine ix_iinc (i := 3) (j := 2) (v := x3_65) (L1 := [(3, .int x3_65), (1, .long r_64), (0, .ref (K.2.2.1 + a0))]) X (ix_tb_at tb_X11_digest 94 rfl) rfl (by rw [oi_1]; exact e_66.symm) (Nat.le_of_ble_eq_true rfl) rfl (pc1 := 178) rfl ?_
    refine ix_goto (tgt := 139) X (ix_tb_at tb_X11_digest 95 rfl) (by decide) ?_
    refine ix_sub (L1 := [(0, .ref (K.2.2.1 + a0)), (1, .long r_64), (3, .int x3_65)]) [2, 1, 0] rfl ?_
    exact hrec139 r_64 x3_65 d_62 h
theorem t_X11_digest_139 {l : Launch} {p : Program} {e : Env} {s : State} {m : MethodId} {args : Array Value} {below : List Frame} {meth : Method} {c : Code} {K : ix_Cx} (hKp : ix_Kp K) {n : Nat} {z : ix_Z} (X : ix_X p s m args c K cX11_digest RX11 4) (hr : meth.sig.returnType = (some .long)) (hlk : meth.locks = false)  {a0 : Nat} {r : Int64} {d1 : ix_D2}  {y1 : Int64} {x3 : Int32} {d : ix_D2} (h : f_X11_digest_139 n z  a0 y1 x3 d = some (r, d1)) : ix_G p l e (ix_rm 2 42 0 0) s m args below meth c (MQ below (ix_Post K (some (.long r)) (ix_w z d1)) args s 0 0 (ix_A K)) K 4 0 0 139 [(0, .ref (K.2.2.1 + a0)), (1, .long y1), (3, .int x3)] [] (ix_w z d) := by
  have key : ∀ (f : Nat) (y1 : Int64) (x3 : Int32) (d : ix_D2), ix_fix (b_X11_digest_139 n z  a0) (fun _ _ _ => none) f y1 x3 d = some (r, d1) → ix_G p l e (ix_rm 2 42 0 0) s m args below meth c (MQ below (ix_Post K (some (.long r)) (ix_w z d1)) args s 0 0 (ix_A K)) K 4 0 0 139 [(0, .ref (K.2.2.1 + a0)), (1, .long y1), (3, .int x3)] [] (ix_w z d) := by
    intro f
    induction f with
    | zero =>
      intro y1 x3 d h
      have h : (none : Option (Int64 × ix_D2)) = some (r, d1) := h
      cases h
    | succ f ih =>
      intro y1 x3 d h
      exact tb_X11_digest_139 hKp X hr hlk (rec139 := ix_fix (b_X11_digest_139 n z  a0) (fun _ _ _ => none) f)  ih h
  exact key n y1 x3 d h
set_option maxRecDepth 20000 in
theorem tb_X11_digest_51 {l : Launch} {p : Program} {e : Env} {s : State} {m : MethodId} {args : Array Value} {below : List Frame} {meth : Method} {c : Code} {K : ix_Cx} (hKp : ix_Kp K) {n : Nat} {z : ix_Z} (X : ix_X p s m args c K cX11_digest RX11 4) (hr : meth.sig.returnType = (some .long)) (hlk : meth.locks = false)  {a0 : Nat} {rec51 : Int64 → Int32 → ix_D2 → Option (Int64 × ix_D2)} {r : Int64} {d1 : ix_D2} (hrec51 : ∀ (y1 : Int64) (x3 : Int32) (d : ix_D2), rec51 y1 x3 d = some (r, d1) → ix_G p l e (ix_rm 2 42 0 0) s m args below meth c (MQ below (ix_Post K (some (.long r)) (ix_w z d1)) args s 0 0 (ix_A K)) K 4 0 0 51 [(0, .ref (K.2.2.1 + a0)), (1, .long y1), (3, .int x3)] [] (ix_w z d)) {y1 : Int64} {x3 : Int32} {d : ix_D2} (h : b_X11_digest_51 n z  a0 rec51 y1 x3 d = some (r, d1)) : ix_G p l e (ix_rm 2 42 0 0) s m args below meth c (MQ below (ix_Post K (some (.long r)) (ix_w z d1)) args s 0 0 (ix_A K)) K 4 0 0 51 [(0, .ref (K.2.2.1 + a0)), (1, .long y1), (3, .int x3)] [] (ix_w z d) := by
  unfold b_X11_digest_51 at h
  refine ix_iload_n (i := 3) (j := 2) X (ix_tb_at tb_X11_digest 29 rfl) rfl rfl (pc1 := 52) rfl ?_
  refine ix_aload_n (i := 0) (j := 0) X (ix_tb_at tb_X11_digest 30 rfl) rfl rfl (pc1 := 53) rfl ?_
  obtain ⟨k_12, h⟩ := ix_ck_some h
  obtain ⟨b_13, q_14, h⟩ := ix_bd1_ex h
  refine iz_getR X fl_RX11_28 k_12 q_14 (ix_tb_at tb_X11_digest 31 rfl) (pc1 := 56) rfl ?_
  obtain ⟨k_15, h⟩ := ix_ck_some h
  obtain ⟨b_16, q_17, h⟩ := ix_bd1_ex h
  refine iz_getR X fl_RX11_195 k_15 q_17 (ix_tb_at tb_X11_digest 32 rfl) (pc1 := 59) rfl ?_
  obtain ⟨k_18, h⟩ := ix_ck_some h
  refine iz_getI X fl_RX11_224 k_18 (ix_tb_at tb_X11_digest 33 rfl) (pc1 := 62) rfl ?_
  refine ix_icmp_ge (tgt := 113) X (ix_tb_at tb_X11_digest 34 rfl) (by decide) (pc1 := 65) rfl (fun q_19 => ?_) (fun q_19 => ?_)
  · have h := ix_ift q_19 h
    refine ix_ldc2 (pl := 1545) (v := 31) X (ix_tb_at tb_X11_digest 57 rfl) (by decide +kernel) (pc1 := 116) rfl ?_
    refine ix_lload_n (i := 1) (j := 1) X (ix_tb_at tb_X11_digest 58 rfl) rfl rfl (pc1 := 117) rfl ?_
    refine ix_aload_n (i := 0) (j := 0) X (ix_tb_at tb_X11_digest 59 rfl) rfl rfl (pc1 := 118) rfl ?_
    refine iz_getR X fl_RX11_28 k_12 q_14 (ix_tb_at tb_X11_digest 60 rfl) (pc1 := 121) rfl ?_
    obtain ⟨b_20, q_21, h⟩ := ix_bd1_ex h
    refine iz_getR X fl_RX11_244 k_15 q_21 (ix_tb_at tb_X11_digest 61 rfl) (pc1 := 124) rfl ?_
    refine ix_iconst (v := 0) X (ix_tb_at tb_X11_digest 62 rfl) (by decide) (pc1 := 125) rfl ?_
    refine ix_aload_n (i := 0) (j := 0) X (ix_tb_at tb_X11_digest 63 rfl) rfl rfl (pc1 := 126) rfl ?_
    refine iz_getR X fl_RX11_28 k_12 q_14 (ix_tb_at tb_X11_digest 64 rfl) (pc1 := 129) rfl ?_
    refine iz_getI X fl_RX11_241 k_15 (ix_tb_at tb_X11_digest 65 rfl) (pc1 := 132) rfl ?_
    obtain ⟨r_24, d_22, h_23, h⟩ := ix_bd2_ex h
    refine ix_callS (As := [.long y1, .ref (K.2.2.1 + b_20), .int 0, .int (d.1 b_13 7)]) (rest := [.long 31]) X mf_X11_addUp st_X11_addUp ml_RX11_398 ⟨Nat.le_of_ble_eq_true rfl, Nat.le_of_ble_eq_true rfl⟩ ⟨Nat.le_of_ble_eq_true rfl, Nat.le_of_ble_eq_true rfl⟩ rfl (Nat.le_of_ble_eq_true rfl) (ix_tb_at tb_X11_digest 66 rfl) (c_X11_addUp hKp h_23) rfl (pc1 := 135) rfl ?_
    refine ix_lmul X (ix_tb_at tb_X11_digest 67 rfl) (pc1 := 136) rfl ?_
    obtain ⟨x1_25, e_26, h⟩ := ix_lt_ex h
    refine ix_nml e_26 ?_
    refine ix_lstore_n (i := 1) (L1 := [(1, .long x1_25), (0, .ref (K.2.2.1 + a0)), (3, .int x3)]) X (ix_tb_at tb_X11_digest 68 rfl) rfl (Nat.le_of_ble_eq_true rfl) rfl (pc1 := 137) rfl ?_
    refine ix_iconst (v := 0) X (ix_tb_at tb_X11_digest 69 rfl) (by decide) (pc1 := 138) rfl ?_
    refine ix_istore_n (i := 3) (L1 := [(3, .int 0), (1, .long x1_25), (0, .ref (K.2.2.1 + a0))]) X (ix_tb_at tb_X11_digest 70 rfl) rfl (Nat.le_of_ble_eq_true rfl) rfl (pc1 := 139) rfl ?_
    refine ix_sub (L1 := [(0, .ref (K.2.2.1 + a0)), (1, .long x1_25), (3, .int 0)]) [2, 1, 0] rfl ?_
    exact t_X11_digest_139 hKp X hr hlk  h
  · have h := ix_iff q_19 h
    refine ix_ldc2 (pl := 1545) (v := 31) X (ix_tb_at tb_X11_digest 35 rfl) (by decide +kernel) (pc1 := 68) rfl ?_
    refine ix_lload_n (i := 1) (j := 1) X (ix_tb_at tb_X11_digest 36 rfl) rfl rfl (pc1 := 69) rfl ?_
    refine ix_aload_n (i := 0) (j := 0) X (ix_tb_at tb_X11_digest 37 rfl) rfl rfl (pc1 := 70) rfl ?_
    refine iz_getR X fl_RX11_28 k_12 q_14 (ix_tb_at tb_X11_digest 38 rfl) (pc1 := 73) rfl ?_
    refine iz_getR X fl_RX11_195 k_15 q_17 (ix_tb_at tb_X11_digest 39 rfl) (pc1 := 76) rfl ?_
    obtain ⟨b_67, q_68, h⟩ := ix_bd1_ex h
    refine iz_getR X fl_RX11_331 k_18 q_68 (ix_tb_at tb_X11_digest 40 rfl) (pc1 := 79) rfl ?_
    refine ix_aload_n (i := 0) (j := 0) X (ix_tb_at tb_X11_digest 41 rfl) rfl rfl (pc1 := 80) rfl ?_
    refine iz_getR X fl_RX11_28 k_12 q_14 (ix_tb_at tb_X11_digest 42 rfl) (pc1 := 83) rfl ?_
    refine iz_getR X fl_RX11_195 k_15 q_17 (ix_tb_at tb_X11_digest 43 rfl) (pc1 := 86) rfl ?_
    obtain ⟨b_69, q_70, h⟩ := ix_bd1_ex h
    refine iz_getR X fl_RX11_332 k_18 q_70 (ix_tb_at tb_X11_digest 44 rfl) (pc1 := 89) rfl ?_
    refine ix_iload_n (i := 3) (j := 2) X (ix_tb_at tb_X11_digest 45 rfl) rfl rfl (pc1 := 90) rfl ?_
    obtain ⟨k_71, h⟩ := ix_ck_some h
    refine iz_iald X k_71 (ix_tb_at tb_X11_digest 46 rfl) (pc1 := 91) rfl ?_
    refine ix_aload_n (i := 0) (j := 0) X (ix_tb_at tb_X11_digest 47 rfl) rfl rfl (pc1 := 92) rfl ?_
    refine iz_getR X fl_RX11_28 k_12 q_14 (ix_tb_at tb_X11_digest 48 rfl) (pc1 := 95) rfl ?_
    refine iz_getR X fl_RX11_195 k_15 q_17 (ix_tb_at tb_X11_digest 49 rfl) (pc1 := 98) rfl ?_
    refine ix_iload_n (i := 3) (j := 2) X (ix_tb_at tb_X11_digest 50 rfl) rfl rfl (pc1 := 99) rfl ?_
    obtain ⟨r_74, d_72, h_73, h⟩ := ix_bd2_ex h
    refine ix_callV (As := [.int x3]) (rest := [.int (d.1 b_69 (ix_n x3)), .ref (K.2.2.1 + b_67), .long y1, .long 31]) (ci := 7) (T := TX7) (nf := 3) X mf_X7_size mi_X7_size ms_X7_size rfl (Nat.le_of_ble_eq_true rfl) ml_RX11_335 ⟨Nat.le_of_ble_eq_true rfl, Nat.le_of_ble_eq_true rfl⟩ ⟨Nat.le_of_ble_eq_true rfl, Nat.le_of_ble_eq_true rfl⟩ rfl (Nat.le_of_ble_eq_true rfl) (ix_tb_at tb_X11_digest 51 rfl) ⟨k_18.1, List.mem_singleton.mp k_18.2⟩ (c_X7_size hKp h_73) rfl (pc1 := 102) rfl ?_
    obtain ⟨r_77, d_75, h_76, h⟩ := ix_bd2_ex h
    refine ix_callS (As := [.long y1, .ref (K.2.2.1 + b_67), .int (d.1 b_69 (ix_n x3)), .int r_74]) (rest := [.long 31]) X mf_X11_addUp st_X11_addUp ml_RX11_398 ⟨Nat.le_of_ble_eq_true rfl, Nat.le_of_ble_eq_true rfl⟩ ⟨Nat.le_of_ble_eq_true rfl, Nat.le_of_ble_eq_true rfl⟩ rfl (Nat.le_of_ble_eq_true rfl) (ix_tb_at tb_X11_digest 52 rfl) (c_X11_addUp hKp h_76) rfl (pc1 := 105) rfl ?_
    refine ix_lmul X (ix_tb_at tb_X11_digest 53 rfl) (pc1 := 106) rfl ?_
    obtain ⟨x1_78, e_79, h⟩ := ix_lt_ex h
    refine ix_nml e_79 ?_
    refine ix_lstore_n (i := 1) (L1 := [(1, .long x1_78), (0, .ref (K.2.2.1 + a0)), (3, .int x3)]) X (ix_tb_at tb_X11_digest 54 rfl) rfl (Nat.le_of_ble_eq_true rfl) rfl (pc1 := 107) rfl ?_
    obtain ⟨x3_80, e_81, h⟩ := ix_lt_ex h
    refine ix_iinc (i := 3) (j := 2) (v := x3_80) (L1 := [(3, .int x3_80), (1, .long x1_78), (0, .ref (K.2.2.1 + a0))]) X (ix_tb_at tb_X11_digest 55 rfl) rfl (by rw [oi_1]; exact e_81.symm) (Nat.le_of_ble_eq_true rfl) rfl (pc1 := 110) rfl ?_
    refine ix_goto (tgt := 51) X (ix_tb_at tb_X11_digest 56 rfl) (by decide) ?_
    refine ix_sub (L1 := [(0, .ref (K.2.2.1 + a0)), (1, .long x1_78), (3, .int x3_80)]) [2, 1, 0] rfl ?_
    exact hrec51 x1_78 x3_80 d_75 h
theorem t_X11_digest_51 {l : Launch} {p : Program} {e : Env} {s : State} {m : MethodId} {args : Array Value} {below : List Frame} {meth : Method} {c : Code} {K : ix_Cx} (hKp : ix_Kp K) {n : Nat} {z : ix_Z} (X : ix_X p s m args c K cX11_digest RX11 4) (hr : meth.sig.returnType = (some .long)) (hlk : meth.locks = false)  {a0 : Nat} {r : Int64} {d1 : ix_D2}  {y1 : Int64} {x3 : Int32} {d : ix_D2} (h : f_X11_digest_51 n z  a0 y1 x3 d = some (r, d1)) : ix_G p l e (ix_rm 2 42 0 0) s m args below meth c (MQ below (ix_Post K (some (.long r)) (ix_w z d1)) args s 0 0 (ix_A K)) K 4 0 0 51 [(0, .ref (K.2.2.1 + a0)), (1, .long y1), (3, .int x3)] [] (ix_w z d) := by
  have key : ∀ (f : Nat) (y1 : Int64) (x3 : Int32) (d : ix_D2), ix_fix (b_X11_digest_51 n z  a0) (fun _ _ _ => none) f y1 x3 d = some (r, d1) → ix_G p l e (ix_rm 2 42 0 0) s m args below meth c (MQ below (ix_Post K (some (.long r)) (ix_w z d1)) args s 0 0 (ix_A K)) K 4 0 0 51 [(0, .ref (K.2.2.1 + a0)), (1, .long y1), (3, .int x3)] [] (ix_w z d) := by
    intro f
    induction f with
    | zero =>
      intro y1 x3 d h
      have h : (none : Option (Int64 × ix_D2)) = some (r, d1) := h
      cases h
    | succ f ih =>
      intro y1 x3 d h
      exact tb_X11_digest_51 hKp X hr hlk (rec51 := ix_fix (b_X11_digest_51 n z  a0) (fun _ _ _ => none) f)  ih h
  exact key n y1 x3 d h
set_option maxRecDepth 20000 in
theorem tb_X11_digest_15 {l : Launch} {p : Program} {e : Env} {s : State} {m : MethodId} {args : Array Value} {below : List Frame} {meth : Method} {c : Code} {K : ix_Cx} (hKp : ix_Kp K) {n : Nat} {z : ix_Z} (X : ix_X p s m args c K cX11_digest RX11 4) (hr : meth.sig.returnType = (some .long)) (hlk : meth.locks = false)  {a0 : Nat} {rec15 : Int64 → Int32 → ix_D2 → Option (Int64 × ix_D2)} {r : Int64} {d1 : ix_D2} (hrec15 : ∀ (y1 : Int64) (x3 : Int32) (d : ix_D2), rec15 y1 x3 d = some (r, d1) → ix_G p l e (ix_rm 2 42 0 0) s m args below meth c (MQ below (ix_Post K (some (.long r)) (ix_w z d1)) args s 0 0 (ix_A K)) K 4 0 0 15 [(0, .ref (K.2.2.1 + a0)), (1, .long y1), (3, .int x3)] [] (ix_w z d)) {y1 : Int64} {x3 : Int32} {d : ix_D2} (h : b_X11_digest_15 n z  a0 rec15 y1 x3 d = some (r, d1)) : ix_G p l e (ix_rm 2 42 0 0) s m args below meth c (MQ below (ix_Post K (some (.long r)) (ix_w z d1)) args s 0 0 (ix_A K)) K 4 0 0 15 [(0, .ref (K.2.2.1 + a0)), (1, .long y1), (3, .int x3)] [] (ix_w z d) := by
  unfold b_X11_digest_15 at h
  refine ix_iload_n (i := 3) (j := 2) X (ix_tb_at tb_X11_digest 9 rfl) rfl rfl (pc1 := 16) rfl ?_
  refine ix_aload_n (i := 0) (j := 0) X (ix_tb_at tb_X11_digest 10 rfl) rfl rfl (pc1 := 17) rfl ?_
  obtain ⟨k_7, h⟩ := ix_ck_some h
  obtain ⟨b_8, q_9, h⟩ := ix_bd1_ex h
  refine iz_getR X fl_RX11_28 k_7 q_9 (ix_tb_at tb_X11_digest 11 rfl) (pc1 := 20) rfl ?_
  obtain ⟨k_10, h⟩ := ix_ck_some h
  refine iz_getI X fl_RX11_77 k_10 (ix_tb_at tb_X11_digest 12 rfl) (pc1 := 23) rfl ?_
  refine ix_icmp_gt (tgt := 49) X (ix_tb_at tb_X11_digest 13 rfl) (by decide) (pc1 := 26) rfl (fun q_11 => ?_) (fun q_11 => ?_)
  · have h := ix_ift q_11 h
    refine ix_iconst (v := 0) X (ix_tb_at tb_X11_digest 27 rfl) (by decide) (pc1 := 50) rfl ?_
    refine ix_istore_n (i := 3) (L1 := [(3, .int 0), (0, .ref (K.2.2.1 + a0)), (1, .long y1)]) X (ix_tb_at tb_X11_digest 28 rfl) rfl (Nat.le_of_ble_eq_true rfl) rfl (pc1 := 51) rfl ?_
    refine ix_sub (L1 := [(0, .ref (K.2.2.1 + a0)), (1, .long y1), (3, .int 0)]) [1, 2, 0] rfl ?_
    exact t_X11_digest_51 hKp X hr hlk  h
  · have h := ix_iff q_11 h
    refine ix_ldc2 (pl := 1545) (v := 31) X (ix_tb_at tb_X11_digest 14 rfl) (by decide +kernel) (pc1 := 29) rfl ?_
    refine ix_lload_n (i := 1) (j := 1) X (ix_tb_at tb_X11_digest 15 rfl) rfl rfl (pc1 := 30) rfl ?_
    refine ix_lmul X (ix_tb_at tb_X11_digest 16 rfl) (pc1 := 31) rfl ?_
    refine ix_aload_n (i := 0) (j := 0) X (ix_tb_at tb_X11_digest 17 rfl) rfl rfl (pc1 := 32) rfl ?_
    refine iz_getR X fl_RX11_28 k_7 q_9 (ix_tb_at tb_X11_digest 18 rfl) (pc1 := 35) rfl ?_
    obtain ⟨b_82, q_83, h⟩ := ix_bd1_ex h
    refine iz_getR X fl_RX11_250 k_10 q_83 (ix_tb_at tb_X11_digest 19 rfl) (pc1 := 38) rfl ?_
    refine ix_iload_n (i := 3) (j := 2) X (ix_tb_at tb_X11_digest 20 rfl) rfl rfl (pc1 := 39) rfl ?_
    obtain ⟨k_84, h⟩ := ix_ck_some h
    refine iz_iald X k_84 (ix_tb_at tb_X11_digest 21 rfl) (pc1 := 40) rfl ?_
    refine ix_i2l X (ix_tb_at tb_X11_digest 22 rfl) (pc1 := 41) rfl ?_
    refine ix_ladd X (ix_tb_at tb_X11_digest 23 rfl) (pc1 := 42) rfl ?_
    obtain ⟨x1_85, e_86, h⟩ := ix_lt_ex h
    refine ix_nml e_86 ?_
    refine ix_lstore_n (i := 1) (L1 := [(1, .long x1_85), (0, .ref (K.2.2.1 + a0)), (3, .int x3)]) X (ix_tb_at tb_X11_digest 24 rfl) rfl (Nat.le_of_ble_eq_true rfl) rfl (pc1 := 43) rfl ?_
    obtain ⟨x3_87, e_88, h⟩ := ix_lt_ex h
    refine ix_iinc (i := 3) (j := 2) (v := x3_87) (L1 := [(3, .int x3_87), (1, .long x1_85), (0, .ref (K.2.2.1 + a0))]) X (ix_tb_at tb_X11_digest 25 rfl) rfl (by rw [oi_1]; exact e_88.symm) (Nat.le_of_ble_eq_true rfl) rfl (pc1 := 46) rfl ?_
    refine ix_goto (tgt := 15) X (ix_tb_at tb_X11_digest 26 rfl) (by decide) ?_
    refine ix_sub (L1 := [(0, .ref (K.2.2.1 + a0)), (1, .long x1_85), (3, .int x3_87)]) [2, 1, 0] rfl ?_
    exact hrec15 x1_85 x3_87 d h
theorem t_X11_digest_15 {l : Launch} {p : Program} {e : Env} {s : State} {m : MethodId} {args : Array Value} {below : List Frame} {meth : Method} {c : Code} {K : ix_Cx} (hKp : ix_Kp K) {n : Nat} {z : ix_Z} (X : ix_X p s m args c K cX11_digest RX11 4) (hr : meth.sig.returnType = (some .long)) (hlk : meth.locks = false)  {a0 : Nat} {r : Int64} {d1 : ix_D2}  {y1 : Int64} {x3 : Int32} {d : ix_D2} (h : f_X11_digest_15 n z  a0 y1 x3 d = some (r, d1)) : ix_G p l e (ix_rm 2 42 0 0) s m args below meth c (MQ below (ix_Post K (some (.long r)) (ix_w z d1)) args s 0 0 (ix_A K)) K 4 0 0 15 [(0, .ref (K.2.2.1 + a0)), (1, .long y1), (3, .int x3)] [] (ix_w z d) := by
  have key : ∀ (f : Nat) (y1 : Int64) (x3 : Int32) (d : ix_D2), ix_fix (b_X11_digest_15 n z  a0) (fun _ _ _ => none) f y1 x3 d = some (r, d1) → ix_G p l e (ix_rm 2 42 0 0) s m args below meth c (MQ below (ix_Post K (some (.long r)) (ix_w z d1)) args s 0 0 (ix_A K)) K 4 0 0 15 [(0, .ref (K.2.2.1 + a0)), (1, .long y1), (3, .int x3)] [] (ix_w z d) := by
    intro f
    induction f with
    | zero =>
      intro y1 x3 d h
      have h : (none : Option (Int64 × ix_D2)) = some (r, d1) := h
      cases h
    | succ f ih =>
      intro y1 x3 d h
      exact tb_X11_digest_15 hKp X hr hlk (rec15 := ix_fix (b_X11_digest_15 n z  a0) (fun _ _ _ => none) f)  ih h
  exact key n y1 x3 d h
set_option maxRecDepth 20000 in
theorem c_X11_digest {l : Launch} {K : ix_Cx} (hKp : ix_Kp K) {n : Nat} {z : ix_Z} {a0 : Nat} {d : ix_D2} {r : Int64} {d1 : ix_D2} (h : f_X11_digest n z a0 d = some (r, d1)) : ix_M l K yX11_digest cX11_digest 4 (some .long) 2 42 0 0 [.ref (K.2.2.1 + a0)] (ix_w z d) (some (.long r)) (ix_w z d1) := by
  refine ix_met mf_X11_digest hKp (Nat.le_of_ble_eq_true rfl) ?_
  intro p e s m args below meth c hr hlk hnm X
  have X : ix_X p s m args c K cX11_digest RX11 4 := X
  show ix_G p l e (ix_rm 2 42 0 0) s m args below meth c (MQ below (ix_Post K (some (.long r)) (ix_w z d1)) args s 0 0 (ix_A K)) K 4 0 0 0 [(0, .ref (K.2.2.1 + a0))] [] (ix_w z d)
  unfold f_X11_digest at h
  refine ix_ldc2 (pl := 1544) (v := 217) X (ix_tb_at tb_X11_digest 0 rfl) (by decide +kernel) (pc1 := 3) rfl ?_
  refine ix_aload_n (i := 0) (j := 0) X (ix_tb_at tb_X11_digest 1 rfl) rfl rfl (pc1 := 4) rfl ?_
  obtain ⟨k_1, h⟩ := ix_ck_some h
  obtain ⟨b_2, q_3, h⟩ := ix_bd1_ex h
  refine iz_getR X fl_RX11_28 k_1 q_3 (ix_tb_at tb_X11_digest 2 rfl) (pc1 := 7) rfl ?_
  obtain ⟨k_4, h⟩ := ix_ck_some h
  refine iz_getI X fl_RX11_77 k_4 (ix_tb_at tb_X11_digest 3 rfl) (pc1 := 10) rfl ?_
  refine ix_i2l X (ix_tb_at tb_X11_digest 4 rfl) (pc1 := 11) rfl ?_
  refine ix_ladd X (ix_tb_at tb_X11_digest 5 rfl) (pc1 := 12) rfl ?_
  obtain ⟨x1_5, e_6, h⟩ := ix_lt_ex h
  refine ix_nml e_6 ?_
  refine ix_lstore_n (i := 1) (L1 := [(1, .long x1_5), (0, .ref (K.2.2.1 + a0))]) X (ix_tb_at tb_X11_digest 6 rfl) rfl (Nat.le_of_ble_eq_true rfl) rfl (pc1 := 13) rfl ?_
  refine ix_iconst (v := 1) X (ix_tb_at tb_X11_digest 7 rfl) (by decide) (pc1 := 14) rfl ?_
  refine ix_istore_n (i := 3) (L1 := [(3, .int 1), (1, .long x1_5), (0, .ref (K.2.2.1 + a0))]) X (ix_tb_at tb_X11_digest 8 rfl) rfl (Nat.le_of_ble_eq_true rfl) rfl (pc1 := 15) rfl ?_
  refine ix_sub (L1 := [(0, .ref (K.2.2.1 + a0)), (1, .long x1_5), (3, .int 1)]) [2, 1, 0] rfl ?_
  exact t_X11_digest_15 hKp X hr hlk  h
def tab_X11_status : List (Nat × Instr × Nat) := [(0, .aload_n 0, 1), (1, .getfield 402, 3), (4, .ireturn, 1)]
theorem tb_X11_status : ix_tab cX11_status tab_X11_status := by
  unfold ix_tab
  decide +kernel
noncomputable def f_X11_status (n : Nat) (z : ix_Z) (a0 : Nat) (d : ix_D2) : Option (Int32 × ix_D2) :=
  ix_ck (ix_ok z [10] a0) (some (d.1 a0 17, d))
set_option maxRecDepth 20000 in
theorem c_X11_status {l : Launch} {K : ix_Cx} (hKp : ix_Kp K) {n : Nat} {z : ix_Z} {a0 : Nat} {d : ix_D2} {r : Int32} {d1 : ix_D2} (h : f_X11_status n z a0 d = some (r, d1)) : ix_M l K yX11_status cX11_status 1 (some .int) 0 0 0 0 [.ref (K.2.2.1 + a0)] (ix_w z d) (some (.int r)) (ix_w z d1) := by
  refine ix_met mf_X11_status hKp (Nat.le_of_ble_eq_true rfl) ?_
  intro p e s m args below meth c hr hlk hnm X
  have X : ix_X p s m args c K cX11_status RX11 1 := X
  show ix_G p l e (ix_rm 0 0 0 0) s m args below meth c (MQ below (ix_Post K (some (.int r)) (ix_w z d1)) args s 0 0 (ix_A K)) K 1 0 0 0 [(0, .ref (K.2.2.1 + a0))] [] (ix_w z d)
  unfold f_X11_status at h
  refine ix_aload_n (i := 0) (j := 0) X (ix_tb_at tb_X11_status 0 rfl) rfl rfl (pc1 := 1) rfl ?_
  obtain ⟨k_1, h⟩ := ix_ck_some h
  refine iz_getI X fl_RX11_402 k_1 (ix_tb_at tb_X11_status 1 rfl) (pc1 := 4) rfl ?_
  exact ix_iret X hr hlk (ix_r2 (f := fun r => some (.int r)) (g := ix_w z) h) (ix_tb_at tb_X11_status 2 rfl)
def tab_X11_about : List (Nat × Instr × Nat) := [(0, .iload_n 1, 1), (1, .tableswitch 141 0 9 #[55, 63, 68, 79, 90, 98, 109, 117, 125, 133], 55), (56, .aload_n 0, 1), (57, .getfield 28, 3), (60, .getfield 77, 3), (63, .ireturn, 1), (64, .aload_n 0, 1), (65, .getfield 281, 3), (68, .ireturn, 1), (69, .aload_n 0, 1), (70, .getfield 28, 3), (73, .getfield 195, 3), (76, .getfield 224, 3), (79, .ireturn, 1), (80, .aload_n 0, 1), (81, .getfield 28, 3), (84, .getfield 195, 3), (87, .invokevirtual 405, 3), (90, .ireturn, 1), (91, .aload_n 0, 1), (92, .getfield 28, 3), (95, .getfield 241, 3), (98, .ireturn, 1), (99, .aload_n 0, 1), (100, .getfield 41, 3), (103, .getfield 192, 3), (106, .getfield 224, 3), (109, .ireturn, 1), (110, .aload_n 0, 1), (111, .getfield 53, 3), (114, .getfield 224, 3), (117, .ireturn, 1), (118, .aload_n 0, 1), (119, .getfield 28, 3), (122, .getfield 367, 3), (125, .ireturn, 1), (126, .aload_n 0, 1), (127, .getfield 21, 3), (130, .getfield 408, 3), (133, .ireturn, 1), (134, .aload_n 0, 1), (135, .getfield 21, 3), (138, .getfield 217, 3), (141, .ireturn, 1), (142, .aload_n 0, 1), (143, .sipush (-1001), 3), (146, .invokevirtual 73, 3), (149, .ireturn, 1)]
theorem tb_X11_about : ix_tab cX11_about tab_X11_about := by
  unfold ix_tab
  decide +kernel
noncomputable def f_X11_about (n : Nat) (z : ix_Z) (a0 : Nat) (x1 : Int32) (d : ix_D2) : Option (Int32 × ix_D2) :=
  ix_if (x1 = 0) (ix_ck (ix_ok z [10] a0) (ix_bd1 (z.1 a0 3) (fun b_3 => ix_ck (ix_ok z [2] b_3) (some (d.1 b_3 5, d))))) (ix_if (x1 = 1) (ix_ck (ix_ok z [10] a0) (some (d.1 a0 5, d))) (ix_if (x1 = 2) (ix_ck (ix_ok z [10] a0) (ix_bd1 (z.1 a0 3) (fun b_10 => ix_ck (ix_ok z [2] b_10) (ix_bd1 (z.1 b_10 0) (fun b_13 => ix_ck (ix_ok z [7] b_13) (some (d.1 b_13 2, d))))))) (ix_if (x1 = 3) (ix_ck (ix_ok z [10] a0) (ix_bd1 (z.1 a0 3) (fun b_18 => ix_ck (ix_ok z [2] b_18) (ix_bd1 (z.1 b_18 0) (fun b_21 => ix_ck (ix_ok z [7] b_21) (ix_bd2 (f_X7_itemTotal n z b_21 d) (fun r_26 d_23 => some (r_26, d_23)))))))) (ix_if (x1 = 4) (ix_ck (ix_ok z [10] a0) (ix_bd1 (z.1 a0 3) (fun b_29 => ix_ck (ix_ok z [2] b_29) (some (d.1 b_29 7, d))))) (ix_if (x1 = 5) (ix_ck (ix_ok z [10] a0) (ix_bd1 (z.1 a0 6) (fun b_34 => ix_ck (ix_ok z [8] b_34) (ix_bd1 (z.1 b_34 1) (fun b_37 => ix_ck (ix_ok z [7] b_37) (some (d.1 b_37 2, d))))))) (ix_if (x1 = 6) (ix_ck (ix_ok z [10] a0) (ix_bd1 (z.1 a0 8) (fun b_42 => ix_ck (ix_ok z [7] b_42) (some (d.1 b_42 2, d))))) (ix_if (x1 = 7) (ix_ck (ix_ok z [10] a0) (ix_bd1 (z.1 a0 3) (fun b_47 => ix_ck (ix_ok z [2] b_47) (some (d.1 b_47 6, d))))) (ix_if (x1 = 8) (ix_ck (ix_ok z [10] a0) (ix_bd1 (z.1 a0 2) (fun b_52 => ix_ck (ix_ok z [4] b_52) (some (d.1 b_52 1, d))))) (ix_if (x1 = 9) (ix_ck (ix_ok z [10] a0) (ix_bd1 (z.1 a0 2) (fun b_57 => ix_ck (ix_ok z [4] b_57) (some (d.1 b_57 3, d))))) (ix_ck (ix_ok z [10] a0) (ix_bd2 (f_X11_refuse n z a0 ((-1001)) d) (fun r_63 d_60 => some (r_63, d_60)))))))))))))
set_option maxRecDepth 20000 in
theorem c_X11_about {l : Launch} {K : ix_Cx} (hKp : ix_Kp K) {n : Nat} {z : ix_Z} {a0 : Nat} {x1 : Int32} {d : ix_D2} {r : Int32} {d1 : ix_D2} (h : f_X11_about n z a0 x1 d = some (r, d1)) : ix_M l K yX11_about cX11_about 2 (some .int) 1 21 0 0 [.ref (K.2.2.1 + a0), .int x1] (ix_w z d) (some (.int r)) (ix_w z d1) := by
  refine ix_met mf_X11_about hKp (Nat.le_of_ble_eq_true rfl) ?_
  intro p e s m args below meth c hr hlk hnm X
  have X : ix_X p s m args c K cX11_about RX11 2 := X
  show ix_G p l e (ix_rm 1 21 0 0) s m args below meth c (MQ below (ix_Post K (some (.int r)) (ix_w z d1)) args s 0 0 (ix_A K)) K 2 0 0 0 [(0, .ref (K.2.2.1 + a0)), (1, .int x1)] [] (ix_w z d)
  unfold f_X11_about at h
  refine ix_iload_n (i := 1) (j := 1) X (ix_tb_at tb_X11_about 0 rfl) rfl rfl (pc1 := 1) rfl ?_
  rcases Classical.em (x1 = 0) with q_1 | q_1
  · have h := ix_ift q_1 h
    refine ix_swin (tgt := 56) X (ix_tb_at tb_X11_about 1 rfl) (by rw [q_1]; decide) (by rw [q_1]; decide) (by rw [q_1]; rfl) (by decide) ?_
    refine ix_aload_n (i := 0) (j := 0) X (ix_tb_at tb_X11_about 2 rfl) rfl rfl (pc1 := 57) rfl ?_
    obtain ⟨k_2, h⟩ := ix_ck_some h
    obtain ⟨b_3, q_4, h⟩ := ix_bd1_ex h
    refine iz_getR X fl_RX11_28 k_2 q_4 (ix_tb_at tb_X11_about 3 rfl) (pc1 := 60) rfl ?_
    obtain ⟨k_5, h⟩ := ix_ck_some h
    refine iz_getI X fl_RX11_77 k_5 (ix_tb_at tb_X11_about 4 rfl) (pc1 := 63) rfl ?_
    exact ix_iret X hr hlk (ix_r2 (f := fun r => some (.int r)) (g := ix_w z) h) (ix_tb_at tb_X11_about 5 rfl)
  · have h := ix_iff q_1 h
    rcases Classical.em (x1 = 1) with q_6 | q_6
    · have h := ix_ift q_6 h
      refine ix_swin (tgt := 64) X (ix_tb_at tb_X11_about 1 rfl) (by rw [q_6]; decide) (by rw [q_6]; decide) (by rw [q_6]; rfl) (by decide) ?_
      refine ix_aload_n (i := 0) (j := 0) X (ix_tb_at tb_X11_about 6 rfl) rfl rfl (pc1 := 65) rfl ?_
      obtain ⟨k_7, h⟩ := ix_ck_some h
      refine iz_getI X fl_RX11_281 k_7 (ix_tb_at tb_X11_about 7 rfl) (pc1 := 68) rfl ?_
      exact ix_iret X hr hlk (ix_r2 (f := fun r => some (.int r)) (g := ix_w z) h) (ix_tb_at tb_X11_about 8 rfl)
    · have h := ix_iff q_6 h
      rcases Classical.em (x1 = 2) with q_8 | q_8
      · have h := ix_ift q_8 h
        refine ix_swin (tgt := 69) X (ix_tb_at tb_X11_about 1 rfl) (by rw [q_8]; decide) (by rw [q_8]; decide) (by rw [q_8]; rfl) (by decide) ?_
        refine ix_aload_n (i := 0) (j := 0) X (ix_tb_at tb_X11_about 9 rfl) rfl rfl (pc1 := 70) rfl ?_
        obtain ⟨k_9, h⟩ := ix_ck_some h
        obtain ⟨b_10, q_11, h⟩ := ix_bd1_ex h
        refine iz_getR X fl_RX11_28 k_9 q_11 (ix_tb_at tb_X11_about 10 rfl) (pc1 := 73) rfl ?_
        obtain ⟨k_12, h⟩ := ix_ck_some h
        obtain ⟨b_13, q_14, h⟩ := ix_bd1_ex h
        refine iz_getR X fl_RX11_195 k_12 q_14 (ix_tb_at tb_X11_about 11 rfl) (pc1 := 76) rfl ?_
        obtain ⟨k_15, h⟩ := ix_ck_some h
        refine iz_getI X fl_RX11_224 k_15 (ix_tb_at tb_X11_about 12 rfl) (pc1 := 79) rfl ?_
        exact ix_iret X hr hlk (ix_r2 (f := fun r => some (.int r)) (g := ix_w z) h) (ix_tb_at tb_X11_about 13 rfl)
      · have h := ix_iff q_8 h
        rcases Classical.em (x1 = 3) with q_16 | q_16
        · have h := ix_ift q_16 h
          refine ix_swin (tgt := 80) X (ix_tb_at tb_X11_about 1 rfl) (by rw [q_16]; decide) (by rw [q_16]; decide) (by rw [q_16]; rfl) (by decide) ?_
          refine ix_aload_n (i := 0) (j := 0) X (ix_tb_at tb_X11_about 14 rfl) rfl rfl (pc1 := 81) rfl ?_
          obtain ⟨k_17, h⟩ := ix_ck_some h
          obtain ⟨b_18, q_19, h⟩ := ix_bd1_ex h
          refine iz_getR X fl_RX11_28 k_17 q_19 (ix_tb_at tb_X11_about 15 rfl) (pc1 := 84) rfl ?_
          obtain ⟨k_20, h⟩ := ix_ck_some h
          obtain ⟨b_21, q_22, h⟩ := ix_bd1_ex h
          refine iz_getR X fl_RX11_195 k_20 q_22 (ix_tb_at tb_X11_about 16 rfl) (pc1 := 87) rfl ?_
          obtain ⟨k_25, h⟩ := ix_ck_some h
          obtain ⟨r_26, d_23, h_24, h⟩ := ix_bd2_ex h
          refine ix_callV (As := []) (rest := []) (ci := 7) (T := TX7) (nf := 3) X mf_X7_itemTotal mi_X7_itemTotal ms_X7_itemTotal rfl (Nat.le_of_ble_eq_true rfl) ml_RX11_405 ⟨Nat.le_of_ble_eq_true rfl, Nat.le_of_ble_eq_true rfl⟩ ⟨Nat.le_of_ble_eq_true rfl, Nat.le_of_ble_eq_true rfl⟩ rfl (Nat.le_of_ble_eq_true rfl) (ix_tb_at tb_X11_about 17 rfl) ⟨k_25.1, List.mem_singleton.mp k_25.2⟩ (c_X7_itemTotal hKp h_24) rfl (pc1 := 90) rfl ?_
          exact ix_iret X hr hlk (ix_r2 (f := fun r => some (.int r)) (g := ix_w z) h) (ix_tb_at tb_X11_about 18 rfl)
        · have h := ix_iff q_16 h
          rcases Classical.em (x1 = 4) with q_27 | q_27
          · have h := ix_ift q_27 h
            refine ix_swin (tgt := 91) X (ix_tb_at tb_X11_about 1 rfl) (by rw [q_27]; decide) (by rw [q_27]; decide) (by rw [q_27]; rfl) (by decide) ?_
            refine ix_aload_n (i := 0) (j := 0) X (ix_tb_at tb_X11_about 19 rfl) rfl rfl (pc1 := 92) rfl ?_
            obtain ⟨k_28, h⟩ := ix_ck_some h
            obtain ⟨b_29, q_30, h⟩ := ix_bd1_ex h
            refine iz_getR X fl_RX11_28 k_28 q_30 (ix_tb_at tb_X11_about 20 rfl) (pc1 := 95) rfl ?_
            obtain ⟨k_31, h⟩ := ix_ck_some h
            refine iz_getI X fl_RX11_241 k_31 (ix_tb_at tb_X11_about 21 rfl) (pc1 := 98) rfl ?_
            exact ix_iret X hr hlk (ix_r2 (f := fun r => some (.int r)) (g := ix_w z) h) (ix_tb_at tb_X11_about 22 rfl)
          · have h := ix_iff q_27 h
            rcases Classical.em (x1 = 5) with q_32 | q_32
            · have h := ix_ift q_32 h
              refine ix_swin (tgt := 99) X (ix_tb_at tb_X11_about 1 rfl) (by rw [q_32]; decide) (by rw [q_32]; decide) (by rw [q_32]; rfl) (by decide) ?_
              refine ix_aload_n (i := 0) (j := 0) X (ix_tb_at tb_X11_about 23 rfl) rfl rfl (pc1 := 100) rfl ?_
              obtain ⟨k_33, h⟩ := ix_ck_some h
              obtain ⟨b_34, q_35, h⟩ := ix_bd1_ex h
              refine iz_getR X fl_RX11_41 k_33 q_35 (ix_tb_at tb_X11_about 24 rfl) (pc1 := 103) rfl ?_
              obtain ⟨k_36, h⟩ := ix_ck_some h
              obtain ⟨b_37, q_38, h⟩ := ix_bd1_ex h
              refine iz_getR X fl_RX11_192 k_36 q_38 (ix_tb_at tb_X11_about 25 rfl) (pc1 := 106) rfl ?_
              obtain ⟨k_39, h⟩ := ix_ck_some h
              refine iz_getI X fl_RX11_224 k_39 (ix_tb_at tb_X11_about 26 rfl) (pc1 := 109) rfl ?_
              exact ix_iret X hr hlk (ix_r2 (f := fun r => some (.int r)) (g := ix_w z) h) (ix_tb_at tb_X11_about 27 rfl)
            · have h := ix_iff q_32 h
              rcases Classical.em (x1 = 6) with q_40 | q_40
              · have h := ix_ift q_40 h
                refine ix_swin (tgt := 110) X (ix_tb_at tb_X11_about 1 rfl) (by rw [q_40]; decide) (by rw [q_40]; decide) (by rw [q_40]; rfl) (by decide) ?_
                refine ix_aload_n (i := 0) (j := 0) X (ix_tb_at tb_X11_about 28 rfl) rfl rfl (pc1 := 111) rfl ?_
                obtain ⟨k_41, h⟩ := ix_ck_some h
                obtain ⟨b_42, q_43, h⟩ := ix_bd1_ex h
                refine iz_getR X fl_RX11_53 k_41 q_43 (ix_tb_at tb_X11_about 29 rfl) (pc1 := 114) rfl ?_
                obtain ⟨k_44, h⟩ := ix_ck_some h
                refine iz_getI X fl_RX11_224 k_44 (ix_tb_at tb_X11_about 30 rfl) (pc1 := 117) rfl ?_
                exact ix_iret X hr hlk (ix_r2 (f := fun r => some (.int r)) (g := ix_w z) h) (ix_tb_at tb_X11_about 31 rfl)
              · have h := ix_iff q_40 h
                rcases Classical.em (x1 = 7) with q_45 | q_45
                · have h := ix_ift q_45 h
                  refine ix_swin (tgt := 118) X (ix_tb_at tb_X11_about 1 rfl) (by rw [q_45]; decide) (by rw [q_45]; decide) (by rw [q_45]; rfl) (by decide) ?_
                  refine ix_aload_n (i := 0) (j := 0) X (ix_tb_at tb_X11_about 32 rfl) rfl rfl (pc1 := 119) rfl ?_
                  obtain ⟨k_46, h⟩ := ix_ck_some h
                  obtain ⟨b_47, q_48, h⟩ := ix_bd1_ex h
                  refine iz_getR X fl_RX11_28 k_46 q_48 (ix_tb_at tb_X11_about 33 rfl) (pc1 := 122) rfl ?_
                  obtain ⟨k_49, h⟩ := ix_ck_some h
                  refine iz_getI X fl_RX11_367 k_49 (ix_tb_at tb_X11_about 34 rfl) (pc1 := 125) rfl ?_
                  exact ix_iret X hr hlk (ix_r2 (f := fun r => some (.int r)) (g := ix_w z) h) (ix_tb_at tb_X11_about 35 rfl)
                · have h := ix_iff q_45 h
                  rcases Classical.em (x1 = 8) with q_50 | q_50
                  · have h := ix_ift q_50 h
                    refine ix_swin (tgt := 126) X (ix_tb_at tb_X11_about 1 rfl) (by rw [q_50]; decide) (by rw [q_50]; decide) (by rw [q_50]; rfl) (by decide) ?_
                    refine ix_aload_n (i := 0) (j := 0) X (ix_tb_at tb_X11_about 36 rfl) rfl rfl (pc1 := 127) rfl ?_
                    obtain ⟨k_51, h⟩ := ix_ck_some h
                    obtain ⟨b_52, q_53, h⟩ := ix_bd1_ex h
                    refine iz_getR X fl_RX11_21 k_51 q_53 (ix_tb_at tb_X11_about 37 rfl) (pc1 := 130) rfl ?_
                    obtain ⟨k_54, h⟩ := ix_ck_some h
                    refine iz_getI X fl_RX11_408 k_54 (ix_tb_at tb_X11_about 38 rfl) (pc1 := 133) rfl ?_
                    exact ix_iret X hr hlk (ix_r2 (f := fun r => some (.int r)) (g := ix_w z) h) (ix_tb_at tb_X11_about 39 rfl)
                  · have h := ix_iff q_50 h
                    rcases Classical.em (x1 = 9) with q_55 | q_55
                    · have h := ix_ift q_55 h
                      refine ix_swin (tgt := 134) X (ix_tb_at tb_X11_about 1 rfl) (by rw [q_55]; decide) (by rw [q_55]; decide) (by rw [q_55]; rfl) (by decide) ?_
                      refine ix_aload_n (i := 0) (j := 0) X (ix_tb_at tb_X11_about 40 rfl) rfl rfl (pc1 := 135) rfl ?_
                      obtain ⟨k_56, h⟩ := ix_ck_some h
                      obtain ⟨b_57, q_58, h⟩ := ix_bd1_ex h
                      refine iz_getR X fl_RX11_21 k_56 q_58 (ix_tb_at tb_X11_about 41 rfl) (pc1 := 138) rfl ?_
                      obtain ⟨k_59, h⟩ := ix_ck_some h
                      refine iz_getI X fl_RX11_217 k_59 (ix_tb_at tb_X11_about 42 rfl) (pc1 := 141) rfl ?_
                      exact ix_iret X hr hlk (ix_r2 (f := fun r => some (.int r)) (g := ix_w z) h) (ix_tb_at tb_X11_about 43 rfl)
                    · have h := ix_iff q_55 h
                      refine ix_swout (tgt := 142) X (ix_tb_at tb_X11_about 1 rfl) (by have wq_1 := ix_ne (a := 0) (by decide) q_1; have wq_6 := ix_ne (a := 1) (by decide) q_6; have wq_8 := ix_ne (a := 2) (by decide) q_8; have wq_16 := ix_ne (a := 3) (by decide) q_16; have wq_27 := ix_ne (a := 4) (by decide) q_27; have wq_32 := ix_ne (a := 5) (by decide) q_32; have wq_40 := ix_ne (a := 6) (by decide) q_40; have wq_45 := ix_ne (a := 7) (by decide) q_45; have wq_50 := ix_ne (a := 8) (by decide) q_50; have wq_55 := ix_ne (a := 9) (by decide) q_55; omega) (by decide) ?_
                      refine ix_aload_n (i := 0) (j := 0) X (ix_tb_at tb_X11_about 44 rfl) rfl rfl (pc1 := 143) rfl ?_
                      refine ix_sipush (v := (-1001)) X (ix_tb_at tb_X11_about 45 rfl) (by decide) (pc1 := 146) rfl ?_
                      obtain ⟨k_62, h⟩ := ix_ck_some h
                      obtain ⟨r_63, d_60, h_61, h⟩ := ix_bd2_ex h
                      refine ix_callV (As := [.int ((-1001))]) (rest := []) (ci := 10) (T := TX11) (nf := 18) X mf_X11_refuse mi_X11_refuse ms_X11_refuse rfl (Nat.le_of_ble_eq_true rfl) ml_RX11_73 ⟨Nat.le_of_ble_eq_true rfl, Nat.le_of_ble_eq_true rfl⟩ ⟨Nat.le_of_ble_eq_true rfl, Nat.le_of_ble_eq_true rfl⟩ rfl (Nat.le_of_ble_eq_true rfl) (ix_tb_at tb_X11_about 46 rfl) ⟨k_62.1, List.mem_singleton.mp k_62.2⟩ (c_X11_refuse hKp h_61) rfl (pc1 := 149) rfl ?_
                      exact ix_iret X hr hlk (ix_r2 (f := fun r => some (.int r)) (g := ix_w z) h) (ix_tb_at tb_X11_about 47 rfl)

theorem fl_RX11_402 : ix_flb 362 0 false RX11 402 "ClauseCourt" [10] 17 0 = true := by decide +kernel
theorem mf_X11_status : ix_mf yX11_status cX11_status 1 (some .int) 0 := ⟨ix_wm (i := 1552) (by decide +kernel), ix_wm (i := 1) (by decide +kernel), ⟨by decide +kernel, by decide +kernel⟩, by decide +kernel, by decide +kernel⟩
theorem mi_X11_status : Cond.instanceMethod yX11_status ∈ lw_tbl := ix_wm (i := 1550) (by decide +kernel)
theorem ml_RX11_405 : tables_1[1557]? = some (Cond.methodLink RX11 405 yX7_itemTotal) := by decide +kernel
theorem fl_RX11_408 : ix_flb 43 0 true RX11 408 "ClauseCourt$Desk" [4] 1 0 = true := by decide +kernel
theorem mf_X11_about : ix_mf yX11_about cX11_about 2 (some .int) 1 := ⟨ix_wm (i := 1556) (by decide +kernel), ix_wm (i := 1) (by decide +kernel), ⟨by decide +kernel, by decide +kernel⟩, by decide +kernel, by decide +kernel⟩
theorem mi_X11_about : Cond.instanceMethod yX11_about ∈ lw_tbl := ix_wm (i := 1554) (by decide +kernel)
def tab_X11_status : List (Nat × Instr × Nat) := [(0, .aload_n 0, 1), (1, .getfield 402, 3), (4, .ireturn, 1)]
theorem tb_X11_status : ix_tab cX11_status tab_X11_status := by
  unfold ix_tab
  decide +kernel
noncomputable def f_X11_status (n : Nat) (z : ix_Z) (a0 : Nat) (d : ix_D2) : Option (Int32 × ix_D2) :=
  ix_ck (ix_ok z [10] a0) (some (d.1 a0 17, d))
set_option maxRecDepth 20000 in
theorem c_X11_status {l : Launch} {K : ix_Cx} (hKp : ix_Kp K) {n : Nat} {z : ix_Z} {a0 : Nat} {d : ix_D2} {r : Int32} {d1 : ix_D2} (h : f_X11_status n z a0 d = some (r, d1)) : ix_M l K yX11_status cX11_status 1 (some .int) 0 0 0 0 [.ref (K.2.2.1 + a0)] (ix_w z d) (some (.int r)) (ix_w z d1) := by
  refine ix_met mf_X11_status hKp (Nat.le_of_ble_eq_true rfl) ?_
  intro p e s m args below meth c hr hlk hnm X
  have X : ix_X p s m args c K cX11_status RX11 1 := X
  show ix_G p l e (ix_rm 0 0 0 0) s m args below meth c (MQ below (ix_Post K (some (.int r)) (ix_w z d1)) args s 0 0 (ix_A K)) K 1 0 0 0 [(0, .ref (K.2.2.1 + a0))] [] (ix_w z d)
  unfold f_X11_status at h
  refine ix_aload_n (i := 0) (j := 0) X (ix_tb_at tb_X11_status 0 rfl) rfl rfl (pc1 := 1) rfl ?_
  obtain ⟨k_1, h⟩ := ix_ck_some h
  refine iz_getI X fl_RX11_402 k_1 (ix_tb_at tb_X11_status 1 rfl) (pc1 := 4) rfl ?_
  exact ix_iret X hr hlk (ix_r2 (f := fun r => some (.int r)) (g := ix_w z) h) (ix_tb_at tb_X11_status 2 rfl)
def tab_X11_about : List (Nat × Instr × Nat) := [(0, .iload_n 1, 1), (1, .tableswitch 141 0 9 #[55, 63, 68, 79, 90, 98, 109, 117, 125, 133], 55), (56, .aload_n 0, 1), (57, .getfield 28, 3), (60, .getfield 77, 3), (63, .ireturn, 1), (64, .aload_n 0, 1), (65, .getfield 281, 3), (68, .ireturn, 1), (69, .aload_n 0, 1), (70, .getfield 28, 3), (73, .getfield 195, 3), (76, .getfield 224, 3), (79, .ireturn, 1), (80, .aload_n 0, 1), (81, .getfield 28, 3), (84, .getfield 195, 3), (87, .invokevirtual 405, 3), (90, .ireturn, 1), (91, .aload_n 0, 1), (92, .getfield 28, 3), (95, .getfield 241, 3), (98, .ireturn, 1), (99, .aload_n 0, 1), (100, .getfield 41, 3), (103, .getfield 192, 3), (106, .getfield 224, 3), (109, .ireturn, 1), (110, .aload_n 0, 1), (111, .getfield 53, 3), (114, .getfield 224, 3), (117, .ireturn, 1), (118, .aload_n 0, 1), (119, .getfield 28, 3), (122, .getfield 367, 3), (125, .ireturn, 1), (126, .aload_n 0, 1), (127, .getfield 21, 3), (130, .getfield 408, 3), (133, .ireturn, 1), (134, .aload_n 0, 1), (135, .getfield 21, 3), (138, .getfield 217, 3), (141, .ireturn, 1), (142, .aload_n 0, 1), (143, .sipush (-1001), 3), (146, .invokevirtual 73, 3), (149, .ireturn, 1)]
theorem tb_X11_about : ix_tab cX11_about tab_X11_about := by
  unfold ix_tab
  decide +kernel
noncomputable def f_X11_about (n : Nat) (z : ix_Z) (a0 : Nat) (x1 : Int32) (d : ix_D2) : Option (Int32 × ix_D2) :=
  ix_if (x1 = 0) (ix_ck (ix_ok z [10] a0) (ix_bd1 (z.1 a0 3) (fun b_3 => ix_ck (ix_ok z [2] b_3) (some (d.1 b_3 5, d))))) (ix_if (x1 = 1) (ix_ck (ix_ok z [10] a0) (some (d.1 a0 5, d))) (ix_if (x1 = 2) (ix_ck (ix_ok z [10] a0) (ix_bd1 (z.1 a0 3) (fun b_10 => ix_ck (ix_ok z [2] b_10) (ix_bd1 (z.1 b_10 0) (fun b_13 => ix_ck (ix_ok z [7] b_13) (some (d.1 b_13 2, d))))))) (ix_if (x1 = 3) (ix_ck (ix_ok z [10] a0) (ix_bd1 (z.1 a0 3) (fun b_18 => ix_ck (ix_ok z [2] b_18) (ix_bd1 (z.1 b_18 0) (fun b_21 => ix_ck (ix_ok z [7] b_21) (ix_bd2 (f_X7_itemTotal n z b_21 d) (fun r_26 d_23 => some (r_26, d_23)))))))) (ix_if (x1 = 4) (ix_ck (ix_ok z [10] a0) (ix_bd1 (z.1 a0 3) (fun b_29 => ix_ck (ix_ok z [2] b_29) (some (d.1 b_29 7, d))))) (ix_if (x1 = 5) (ix_ck (ix_ok z [10] a0) (ix_bd1 (z.1 a0 6) (fun b_34 => ix_ck (ix_ok z [8] b_34) (ix_bd1 (z.1 b_34 1) (fun b_37 => ix_ck (ix_ok z [7] b_37) (some (d.1 b_37 2, d))))))) (ix_if (x1 = 6) (ix_ck (ix_ok z [10] a0) (ix_bd1 (z.1 a0 8) (fun b_42 => ix_ck (ix_ok z [7] b_42) (some (d.1 b_42 2, d))))) (ix_if (x1 = 7) (ix_ck (ix_ok z [10] a0) (ix_bd1 (z.1 a0 3) (fun b_47 => ix_ck (ix_ok z [2] b_47) (some (d.1 b_47 6, d))))) (ix_if (x1 = 8) (ix_ck (ix_ok z [10] a0) (ix_bd1 (z.1 a0 2) (fun b_52 => ix_ck (ix_ok z [4] b_52) (some (d.1 b_52 1, d))))) (ix_if (x1 = 9) (ix_ck (ix_ok z [10] a0) (ix_bd1 (z.1 a0 2) (fun b_57 => ix_ck (ix_ok z [4] b_57) (some (d.1 b_57 3, d))))) (ix_ck (ix_ok z [10] a0) (ix_bd2 (f_X11_refuse n z a0 ((-1001)) d) (fun r_63 d_60 => some (r_63, d_60)))))))))))))
set_option maxRecDepth 20000 in
theorem c_X11_about {l : Launch} {K : ix_Cx} (hKp : ix_Kp K) {n : Nat} {z : ix_Z} {a0 : Nat} {x1 : Int32} {d : ix_D2} {r : Int32} {d1 : ix_D2} (h : f_X11_about n z a0 x1 d = some (r, d1)) : ix_M l K yX11_about cX11_about 2 (some .int) 1 21 0 0 [.ref (K.2.2.1 + a0), .int x1] (ix_w z d) (some (.int r)) (ix_w z d1) := by
  refine ix_met mf_X11_about hKp (Nat.le_of_ble_eq_true rfl) ?_
  intro p e s m args below meth c hr hlk hnm X
  have X : ix_X p s m args c K cX11_about RX11 2 := X
  show ix_G p l e (ix_rm 1 21 0 0) s m args below meth c (MQ below (ix_Post K (some (.int r)) (ix_w z d1)) args s 0 0 (ix_A K)) K 2 0 0 0 [(0, .ref (K.2.2.1 + a0)), (1, .int x1)] [] (ix_w z d)
  unfold f_X11_about at h
  refine ix_iload_n (i := 1) (j := 1) X (ix_tb_at tb_X11_about 0 rfl) rfl rfl (pc1 := 1) rfl ?_
  rcases Classical.em (x1 = 0) with q_1 | q_1
  · have h := ix_ift q_1 h
    refine ix_swin (tgt := 56) X (ix_tb_at tb_X11_about 1 rfl) (by rw [q_1]; decide) (by rw [q_1]; decide) (by rw [q_1]; rfl) (by decide) ?_
    refine ix_aload_n (i := 0) (j := 0) X (ix_tb_at tb_X11_about 2 rfl) rfl rfl (pc1 := 57) rfl ?_
    obtain ⟨k_2, h⟩ := ix_ck_some h
    obtain ⟨b_3, q_4, h⟩ := ix_bd1_ex h
    refine iz_getR X fl_RX11_28 k_2 q_4 (ix_tb_at tb_X11_about 3 rfl) (pc1 := 60) rfl ?_
    obtain ⟨k_5, h⟩ := ix_ck_some h
    refine iz_getI X fl_RX11_77 k_5 (ix_tb_at tb_X11_about 4 rfl) (pc1 := 63) rfl ?_
    exact ix_iret X hr hlk (ix_r2 (f := fun r => some (.int r)) (g := ix_w z) h) (ix_tb_at tb_X11_about 5 rfl)
  · have h := ix_iff q_1 h
    rcases Classical.em (x1 = 1) with q_6 | q_6
    · have h := ix_ift q_6 h
      refine ix_swin (tgt := 64) X (ix_tb_at tb_X11_about 1 rfl) (by rw [q_6]; decide) (by rw [q_6]; decide) (by rw [q_6]; rfl) (by decide) ?_
      refine ix_aload_n (i := 0) (j := 0) X (ix_tb_at tb_X11_about 6 rfl) rfl rfl (pc1 := 65) rfl ?_
      obtain ⟨k_7, h⟩ := ix_ck_some h
      refine iz_getI X fl_RX11_281 k_7 (ix_tb_at tb_X11_about 7 rfl) (pc1 := 68) rfl ?_
      exact ix_iret X hr hlk (ix_r2 (f := fun r => some (.int r)) (g := ix_w z) h) (ix_tb_at tb_X11_about 8 rfl)
    · have h := ix_iff q_6 h
      rcases Classical.em (x1 = 2) with q_8 | q_8
      · have h := ix_ift q_8 h
        refine ix_swin (tgt := 69) X (ix_tb_at tb_X11_about 1 rfl) (by rw [q_8]; decide) (by rw [q_8]; decide) (by rw [q_8]; rfl) (by decide) ?_
        refine ix_aload_n (i := 0) (j := 0) X (ix_tb_at tb_X11_about 9 rfl) rfl rfl (pc1 := 70) rfl ?_
        obtain ⟨k_9, h⟩ := ix_ck_some h
        obtain ⟨b_10, q_11, h⟩ := ix_bd1_ex h
        refine iz_getR X fl_RX11_28 k_9 q_11 (ix_tb_at tb_X11_about 10 rfl) (pc1 := 73) rfl ?_
        obtain ⟨k_12, h⟩ := ix_ck_some h
        obtain ⟨b_13, q_14, h⟩ := ix_bd1_ex h
        refine iz_getR X fl_RX11_195 k_12 q_14 (ix_tb_at tb_X11_about 11 rfl) (pc1 := 76) rfl ?_
        obtain ⟨k_15, h⟩ := ix_ck_some h
        refine iz_getI X fl_RX11_224 k_15 (ix_tb_at tb_X11_about 12 rfl) (pc1 := 79) rfl ?_
        exact ix_iret X hr hlk (ix_r2 (f := fun r => some (.int r)) (g := ix_w z) h) (ix_tb_at tb_X11_about 13 rfl)
      · have h := ix_iff q_8 h
        rcases Classical.em (x1 = 3) with q_16 | q_16
        · have h := ix_ift q_16 h
          refine ix_swin (tgt := 80) X (ix_tb_at tb_X11_about 1 rfl) (by rw [q_16]; decide) (by rw [q_16]; decide) (by rw [q_16]; rfl) (by decide) ?_
          refine ix_aload_n (i := 0) (j := 0) X (ix_tb_at tb_X11_about 14 rfl) rfl rfl (pc1 := 81) rfl ?_
          obtain ⟨k_17, h⟩ := ix_ck_some h
          obtain ⟨b_18, q_19, h⟩ := ix_bd1_ex h
          refine iz_getR X fl_RX11_28 k_17 q_19 (ix_tb_at tb_X11_about 15 rfl) (pc1 := 84) rfl ?_
          obtain ⟨k_20, h⟩ := ix_ck_some h
          obtain ⟨b_21, q_22, h⟩ := ix_bd1_ex h
          refine iz_getR X fl_RX11_195 k_20 q_22 (ix_tb_at tb_X11_about 16 rfl) (pc1 := 87) rfl ?_
          obtain ⟨k_25, h⟩ := ix_ck_some h
          obtain ⟨r_26, d_23, h_24, h⟩ := ix_bd2_ex h
          refine ix_callV (As := []) (rest := []) (ci := 7) (T := TX7) (nf := 3) X mf_X7_itemTotal mi_X7_itemTotal ms_X7_itemTotal rfl (Nat.le_of_ble_eq_true rfl) ml_RX11_405 ⟨Nat.le_of_ble_eq_true rfl, Nat.le_of_ble_eq_true rfl⟩ ⟨Nat.le_of_ble_eq_true rfl, Nat.le_of_ble_eq_true rfl⟩ rfl (Nat.le_of_ble_eq_true rfl) (ix_tb_at tb_X11_about 17 rfl) ⟨k_25.1, List.mem_singleton.mp k_25.2⟩ (c_X7_itemTotal hKp h_24) rfl (pc1 := 90) rfl ?_
          exact ix_iret X hr hlk (ix_r2 (f := fun r => some (.int r)) (g := ix_w z) h) (ix_tb_at tb_X11_about 18 rfl)
        · have h := ix_iff q_16 h
          rcases Classical.em (x1 = 4) with q_27 | q_27
          · have h := ix_ift q_27 h
            refine ix_swin (tgt := 91) X (ix_tb_at tb_X11_about 1 rfl) (by rw [q_27]; decide) (by rw [q_27]; decide) (by rw [q_27]; rfl) (by decide) ?_
            refine ix_aload_n (i := 0) (j := 0) X (ix_tb_at tb_X11_about 19 rfl) rfl rfl (pc1 := 92) rfl ?_
            obtain ⟨k_28, h⟩ := ix_ck_some h
            obtain ⟨b_29, q_30, h⟩ := ix_bd1_ex h
            refine iz_getR X fl_RX11_28 k_28 q_30 (ix_tb_at tb_X11_about 20 rfl) (pc1 := 95) rfl ?_
            obtain ⟨k_31, h⟩ := ix_ck_some h
            refine iz_getI X fl_RX11_241 k_31 (ix_tb_at tb_X11_about 21 rfl) (pc1 := 98) rfl ?_
            exact ix_iret X hr hlk (ix_r2 (f := fun r => some (.int r)) (g := ix_w z) h) (ix_tb_at tb_X11_about 22 rfl)
          · have h := ix_iff q_27 h
            rcases Classical.em (x1 = 5) with q_32 | q_32
            · have h := ix_ift q_32 h
              refine ix_swin (tgt := 99) X (ix_tb_at tb_X11_about 1 rfl) (by rw [q_32]; decide) (by rw [q_32]; decide) (by rw [q_32]; rfl) (by decide) ?_
              refine ix_aload_n (i := 0) (j := 0) X (ix_tb_at tb_X11_about 23 rfl) rfl rfl (pc1 := 100) rfl ?_
              obtain ⟨k_33, h⟩ := ix_ck_some h
              obtain ⟨b_34, q_35, h⟩ := ix_bd1_ex h
              refine iz_getR X fl_RX11_41 k_33 q_35 (ix_tb_at tb_X11_about 24 rfl) (pc1 := 103) rfl ?_
              obtain ⟨k_36, h⟩ := ix_ck_some h
              obtain ⟨b_37, q_38, h⟩ := ix_bd1_ex h
              refine iz_getR X fl_RX11_192 k_36 q_38 (ix_tb_at tb_X11_about 25 rfl) (pc1 := 106) rfl ?_
              obtain ⟨k_39, h⟩ := ix_ck_some h
              refine iz_getI X fl_RX11_224 k_39 (ix_tb_at tb_X11_about 26 rfl) (pc1 := 109) rfl ?_
              exact ix_iret X hr hlk (ix_r2 (f := fun r => some (.int r)) (g := ix_w z) h) (ix_tb_at tb_X11_about 27 rfl)
            · have h := ix_iff q_32 h
              rcases Classical.em (x1 = 6) with q_40 | q_40
              · have h := ix_ift q_40 h
                refine ix_swin (tgt := 110) X (ix_tb_at tb_X11_about 1 rfl) (by rw [q_40]; decide) (by rw [q_40]; decide) (by rw [q_40]; rfl) (by decide) ?_
                refine ix_aload_n (i := 0) (j := 0) X (ix_tb_at tb_X11_about 28 rfl) rfl rfl (pc1 := 111) rfl ?_
                obtain ⟨k_41, h⟩ := ix_ck_some h
                obtain ⟨b_42, q_43, h⟩ := ix_bd1_ex h
                refine iz_getR X fl_RX11_53 k_41 q_43 (ix_tb_at tb_X11_about 29 rfl) (pc1 := 114) rfl ?_
                obtain ⟨k_44, h⟩ := ix_ck_some h
                refine iz_getI X fl_RX11_224 k_44 (ix_tb_at tb_X11_about 30 rfl) (pc1 := 117) rfl ?_
                exact ix_iret X hr hlk (ix_r2 (f := fun r => some (.int r)) (g := ix_w z) h) (ix_tb_at tb_X11_about 31 rfl)
              · have h := ix_iff q_40 h
                rcases Classical.em (x1 = 7) with q_45 | q_45
                · have h := ix_ift q_45 h
                  refine ix_swin (tgt := 118) X (ix_tb_at tb_X11_about 1 rfl) (by rw [q_45]; decide) (by rw [q_45]; decide) (by rw [q_45]; rfl) (by decide) ?_
                  refine ix_aload_n (i := 0) (j := 0) X (ix_tb_at tb_X11_about 32 rfl) rfl rfl (pc1 := 119) rfl ?_
                  obtain ⟨k_46, h⟩ := ix_ck_some h
                  obtain ⟨b_47, q_48, h⟩ := ix_bd1_ex h
                  refine iz_getR X fl_RX11_28 k_46 q_48 (ix_tb_at tb_X11_about 33 rfl) (pc1 := 122) rfl ?_
                  obtain ⟨k_49, h⟩ := ix_ck_some h
                  refine iz_getI X fl_RX11_367 k_49 (ix_tb_at tb_X11_about 34 rfl) (pc1 := 125) rfl ?_
                  exact ix_iret X hr hlk (ix_r2 (f := fun r => some (.int r)) (g := ix_w z) h) (ix_tb_at tb_X11_about 35 rfl)
                · have h := ix_iff q_45 h
                  rcases Classical.em (x1 = 8) with q_50 | q_50
                  · have h := ix_ift q_50 h
                    refine ix_swin (tgt := 126) X (ix_tb_at tb_X11_about 1 rfl) (by rw [q_50]; decide) (by rw [q_50]; decide) (by rw [q_50]; rfl) (by decide) ?_
                    refine ix_aload_n (i := 0) (j := 0) X (ix_tb_at tb_X11_about 36 rfl) rfl rfl (pc1 := 127) rfl ?_
                    obtain ⟨k_51, h⟩ := ix_ck_some h
                    obtain ⟨b_52, q_53, h⟩ := ix_bd1_ex h
                    refine iz_getR X fl_RX11_21 k_51 q_53 (ix_tb_at tb_X11_about 37 rfl) (pc1 := 130) rfl ?_
                    obtain ⟨k_54, h⟩ := ix_ck_some h
                    refine iz_getI X fl_RX11_408 k_54 (ix_tb_at tb_X11_about 38 rfl) (pc1 := 133) rfl ?_
                    exact ix_iret X hr hlk (ix_r2 (f := fun r => some (.int r)) (g := ix_w z) h) (ix_tb_at tb_X11_about 39 rfl)
                  · have h := ix_iff q_50 h
                    rcases Classical.em (x1 = 9) with q_55 | q_55
                    · have h := ix_ift q_55 h
                      refine ix_swin (tgt := 134) X (ix_tb_at tb_X11_about 1 rfl) (by rw [q_55]; decide) (by rw [q_55]; decide) (by rw [q_55]; rfl) (by decide) ?_
                      refine ix_aload_n (i := 0) (j := 0) X (ix_tb_at tb_X11_about 40 rfl) rfl rfl (pc1 := 135) rfl ?_
                      obtain ⟨k_56, h⟩ := ix_ck_some h
                      obtain ⟨b_57, q_58, h⟩ := ix_bd1_ex h
                      refine iz_getR X fl_RX11_21 k_56 q_58 (ix_tb_at tb_X11_about 41 rfl) (pc1 := 138) rfl ?_
                      obtain ⟨k_59, h⟩ := ix_ck_some h
                      refine iz_getI X fl_RX11_217 k_59 (ix_tb_at tb_X11_about 42 rfl) (pc1 := 141) rfl ?_
                      exact ix_iret X hr hlk (ix_r2 (f := fun r => some (.int r)) (g := ix_w z) h) (ix_tb_at tb_X11_about 43 rfl)
                    · have h := ix_iff q_55 h
                      refine ix_swout (tgt := 142) X (ix_tb_at tb_X11_about 1 rfl) (by have wq_1 := ix_ne (a := 0) (by decide) q_1; have wq_6 := ix_ne (a := 1) (by decide) q_6; have wq_8 := ix_ne (a := 2) (by decide) q_8; have wq_16 := ix_ne (a := 3) (by decide) q_16; have wq_27 := ix_ne (a := 4) (by decide) q_27; have wq_32 := ix_ne (a := 5) (by decide) q_32; have wq_40 := ix_ne (a := 6) (by decide) q_40; have wq_45 := ix_ne (a := 7) (by decide) q_45; have wq_50 := ix_ne (a := 8) (by decide) q_50; have wq_55 := ix_ne (a := 9) (by decide) q_55; omega) (by decide) ?_
                      refine ix_aload_n (i := 0) (j := 0) X (ix_tb_at tb_X11_about 44 rfl) rfl rfl (pc1 := 143) rfl ?_
                      refine ix_sipush (v := (-1001)) X (ix_tb_at tb_X11_about 45 rfl) (by decide) (pc1 := 146) rfl ?_
                      obtain ⟨k_62, h⟩ := ix_ck_some h
                      obtain ⟨r_63, d_60, h_61, h⟩ := ix_bd2_ex h
                      refine ix_callV (As := [.int ((-1001))]) (rest := []) (ci := 10) (T := TX11) (nf := 18) X mf_X11_refuse mi_X11_refuse ms_X11_refuse rfl (Nat.le_of_ble_eq_true rfl) ml_RX11_73 ⟨Nat.le_of_ble_eq_true rfl, Nat.le_of_ble_eq_true rfl⟩ ⟨Nat.le_of_ble_eq_true rfl, Nat.le_of_ble_eq_true rfl⟩ rfl (Nat.le_of_ble_eq_true rfl) (ix_tb_at tb_X11_about 46 rfl) ⟨k_62.1, List.mem_singleton.mp k_62.2⟩ (c_X11_refuse hKp h_61) rfl (pc1 := 149) rfl ?_
                      exact ix_iret X hr hlk (ix_r2 (f := fun r => some (.int r)) (g := ix_w z) h) (ix_tb_at tb_X11_about 47 rfl)

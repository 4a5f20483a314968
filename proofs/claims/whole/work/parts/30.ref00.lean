theorem fp_RX12_235 : ix_fpb 1564 0 false RX12 235 "ClauseCourtModel" [11] 0 "I" false = true := by decide +kernel
theorem mf_X12_fail : ix_mf yX12_fail cX12_fail 2 (some .int) 1 := ⟨ix_wm (i := 1923) (by decide +kernel), ix_wm (i := 8) (by decide +kernel), ⟨by decide +kernel, by decide +kernel⟩, by decide +kernel, by decide +kernel⟩
theorem mi_X12_fail : Cond.instanceMethod yX12_fail ∈ lw_tbl := ix_wm (i := 1922) (by decide +kernel)
theorem mf_X12_in : ix_mf yX12_in cX12_in 3 (some .boolean) 3 := ⟨ix_wm (i := 1919) (by decide +kernel), ix_wm (i := 8) (by decide +kernel), ⟨by decide +kernel, by decide +kernel⟩, by decide +kernel, by decide +kernel⟩
theorem st_X12_in : Cond.static yX12_in ∈ lw_tbl := ix_wm (i := 1918) (by decide +kernel)
theorem mf_X12_nameOf : ix_mf yX12_nameOf cX12_nameOf 1 (some .int) 1 := ⟨ix_wm (i := 1975) (by decide +kernel), ix_wm (i := 8) (by decide +kernel), ⟨by decide +kernel, by decide +kernel⟩, by decide +kernel, by decide +kernel⟩
theorem st_X12_nameOf : Cond.static yX12_nameOf ∈ lw_tbl := ix_wm (i := 1974) (by decide +kernel)
theorem ml_RX12_238 : tables_1[1917]? = some (Cond.methodLink RX12 238 yX12_in) := by decide +kernel
theorem fl_RX12_246 : ix_flb 1565 0 false RX12 246 "ClauseCourtModel" [11] 1 0 = true := by decide +kernel
theorem fp_RX12_246 : ix_fpb 1565 0 false RX12 246 "ClauseCourtModel" [11] 1 "I" false = true := by decide +kernel
theorem fp_RX12_249 : ix_fpb 1621 0 false RX12 249 "ClauseCourtModel" [11] 57 "Z" false = true := by decide +kernel
theorem ms_X12_fail : Cond.selects yX12_fail.cls yX12_fail yX12_fail ∈ lw_tbl := List.mem_append_left _ (List.mem_of_getElem? (i := 58) (by decide +kernel))
theorem ml_RX12_242 : tables_1[1920]? = some (Cond.methodLink RX12 242 yX12_fail) := by decide +kernel
theorem mf_X12_names : ix_mf yX12_names cX12_names 2 (some .int) 1 := ⟨ix_wm (i := 1916) (by decide +kernel), ix_wm (i := 8) (by decide +kernel), ⟨by decide +kernel, by decide +kernel⟩, by decide +kernel, by decide +kernel⟩
theorem mi_X12_names : Cond.instanceMethod yX12_names ∈ lw_tbl := ix_wm (i := 1914) (by decide +kernel)
theorem mf_X12_isRow : ix_mf yX12_isRow cX12_isRow 1 (some .boolean) 1 := ⟨ix_wm (i := 1930) (by decide +kernel), ix_wm (i := 8) (by decide +kernel), ⟨by decide +kernel, by decide +kernel⟩, by decide +kernel, by decide +kernel⟩
theorem st_X12_isRow : Cond.static yX12_isRow ∈ lw_tbl := ix_wm (i := 1929) (by decide +kernel)
theorem ml_RX12_253 : tables_1[1928]? = some (Cond.methodLink RX12 253 yX12_isRow) := by decide +kernel
theorem fl_RX12_20 : ix_flb 1570 0 false RX12 20 "ClauseCourtModel" [11] 6 2 = true := by decide +kernel
theorem mf_X12_row : ix_mf yX12_row cX12_row 4 (some .int) 2 := ⟨ix_wm (i := 1927) (by decide +kernel), ix_wm (i := 8) (by decide +kernel), ⟨by decide +kernel, by decide +kernel⟩, by decide +kernel, by decide +kernel⟩
theorem mi_X12_row : Cond.instanceMethod yX12_row ∈ lw_tbl := ix_wm (i := 1925) (by decide +kernel)
theorem mf_X12_drop : ix_mf yX12_drop cX12_drop 2 (some .int) 1 := ⟨ix_wm (i := 1934) (by decide +kernel), ix_wm (i := 8) (by decide +kernel), ⟨by decide +kernel, by decide +kernel⟩, by decide +kernel, by decide +kernel⟩
theorem mi_X12_drop : Cond.instanceMethod yX12_drop ∈ lw_tbl := ix_wm (i := 1932) (by decide +kernel)
theorem mf_X12_put : ix_mf yX12_put cX12_put 4 (some .int) 3 := ⟨ix_wm (i := 1938) (by decide +kernel), ix_wm (i := 8) (by decide +kernel), ⟨by decide +kernel, by decide +kernel⟩, by decide +kernel, by decide +kernel⟩
theorem mi_X12_put : Cond.instanceMethod yX12_put ∈ lw_tbl := ix_wm (i := 1936) (by decide +kernel)
theorem mf_X12_get : ix_mf yX12_get cX12_get 4 (some .long) 2 := ⟨ix_wm (i := 1942) (by decide +kernel), ix_wm (i := 8) (by decide +kernel), ⟨by decide +kernel, by decide +kernel⟩, by decide +kernel, by decide +kernel⟩
theorem mi_X12_get : Cond.instanceMethod yX12_get ∈ lw_tbl := ix_wm (i := 1940) (by decide +kernel)
theorem fl_RX12_80 : ix_flb 1599 0 false RX12 80 "ClauseCourtModel" [11] 35 2 = true := by decide +kernel
theorem mf_X12_copy : ix_mf yX12_copy cX12_copy 7 (some .int) 5 := ⟨ix_wm (i := 1947) (by decide +kernel), ix_wm (i := 8) (by decide +kernel), ⟨by decide +kernel, by decide +kernel⟩, by decide +kernel, by decide +kernel⟩
theorem mi_X12_copy : Cond.instanceMethod yX12_copy ∈ lw_tbl := ix_wm (i := 1945) (by decide +kernel)
theorem mf_X12_cut : ix_mf yX12_cut cX12_cut 3 (some .int) 2 := ⟨ix_wm (i := 1951) (by decide +kernel), ix_wm (i := 8) (by decide +kernel), ⟨by decide +kernel, by decide +kernel⟩, by decide +kernel, by decide +kernel⟩
theorem mi_X12_cut : Cond.instanceMethod yX12_cut ∈ lw_tbl := ix_wm (i := 1949) (by decide +kernel)
theorem fl_RX12_259 : ix_flb 1572 0 false RX12 259 "ClauseCourtModel" [11] 8 0 = true := by decide +kernel
theorem fl_RX12_23 : ix_flb 1571 0 false RX12 23 "ClauseCourtModel" [11] 7 2 = true := by decide +kernel
theorem fp_RX12_259 : ix_fpb 1572 0 false RX12 259 "ClauseCourtModel" [11] 8 "I" false = true := by decide +kernel
theorem mf_X12_feed : ix_mf yX12_feed cX12_feed 5 (some .int) 2 := ⟨ix_wm (i := 1955) (by decide +kernel), ix_wm (i := 8) (by decide +kernel), ⟨by decide +kernel, by decide +kernel⟩, by decide +kernel, by decide +kernel⟩
theorem mi_X12_feed : Cond.instanceMethod yX12_feed ∈ lw_tbl := ix_wm (i := 1953) (by decide +kernel)
theorem mf_X12_wipe : ix_mf yX12_wipe cX12_wipe 2 (some .int) 0 := ⟨ix_wm (i := 1960) (by decide +kernel), ix_wm (i := 8) (by decide +kernel), ⟨by decide +kernel, by decide +kernel⟩, by decide +kernel, by decide +kernel⟩
theorem mi_X12_wipe : Cond.instanceMethod yX12_wipe ∈ lw_tbl := ix_wm (i := 1958) (by decide +kernel)
theorem fl_RX12_264 : ix_flb 1575 0 false RX12 264 "ClauseCourtModel" [11] 11 0 = true := by decide +kernel
theorem fp_RX12_267 : ix_fpb 1600 0 false RX12 267 "ClauseCourtModel" [11] 36 "Z" false = true := by decide +kernel
theorem fp_RX12_270 : ix_fpb 1601 0 false RX12 270 "ClauseCourtModel" [11] 37 "I" false = true := by decide +kernel
theorem fl_RX12_273 : ix_flb 1587 0 false RX12 273 "ClauseCourtModel" [11] 23 0 = true := by decide +kernel
theorem fp_RX12_276 : ix_fpb 1602 0 false RX12 276 "ClauseCourtModel" [11] 38 "I" false = true := by decide +kernel
theorem fp_RX12_279 : ix_fpb 1604 0 false RX12 279 "ClauseCourtModel" [11] 40 "I" false = true := by decide +kernel
theorem mf_X12_beginLaying : ix_mf yX12_beginLaying cX12_beginLaying 1 (none : Option Jvm.ClassFile.FieldType) 0 := ⟨ix_wm (i := 1979) (by decide +kernel), ix_wm (i := 8) (by decide +kernel), ⟨by decide +kernel, by decide +kernel⟩, by decide +kernel, by decide +kernel⟩
theorem mi_X12_beginLaying : Cond.instanceMethod yX12_beginLaying ∈ lw_tbl := ix_wm (i := 1978) (by decide +kernel)
theorem fl_RX12_279 : ix_flb 1604 0 false RX12 279 "ClauseCourtModel" [11] 40 0 = true := by decide +kernel
theorem fl_RX12_83 : ix_flb 1603 0 false RX12 83 "ClauseCourtModel" [11] 39 2 = true := by decide +kernel
theorem mf_X12_lay : ix_mf yX12_lay cX12_lay 4 (none : Option Jvm.ClassFile.FieldType) 1 := ⟨ix_wm (i := 1983) (by decide +kernel), ix_wm (i := 8) (by decide +kernel), ⟨by decide +kernel, by decide +kernel⟩, by decide +kernel, by decide +kernel⟩
theorem mi_X12_lay : Cond.instanceMethod yX12_lay ∈ lw_tbl := ix_wm (i := 1982) (by decide +kernel)
theorem fl_RX12_267 : ix_flb 1600 0 false RX12 267 "ClauseCourtModel" [11] 36 0 = true := by decide +kernel
theorem fl_RX12_62 : ix_flb 1588 0 false RX12 62 "ClauseCourtModel" [11] 24 2 = true := by decide +kernel
theorem fp_RX12_273 : ix_fpb 1587 0 false RX12 273 "ClauseCourtModel" [11] 23 "I" false = true := by decide +kernel
theorem fl_RX12_65 : ix_flb 1589 0 false RX12 65 "ClauseCourtModel" [11] 25 2 = true := by decide +kernel
theorem mf_X12_endRow : ix_mf yX12_endRow cX12_endRow 2 (none : Option Jvm.ClassFile.FieldType) 0 := ⟨ix_wm (i := 1987) (by decide +kernel), ix_wm (i := 8) (by decide +kernel), ⟨by decide +kernel, by decide +kernel⟩, by decide +kernel, by decide +kernel⟩
theorem mi_X12_endRow : Cond.instanceMethod yX12_endRow ∈ lw_tbl := ix_wm (i := 1986) (by decide +kernel)
theorem ms_X12_lay : Cond.selects yX12_lay.cls yX12_lay yX12_lay ∈ lw_tbl := List.mem_append_left _ (List.mem_of_getElem? (i := 62) (by decide +kernel))
theorem ml_RX12_282 : tables_1[1980]? = some (Cond.methodLink RX12 282 yX12_lay) := by decide +kernel
theorem ms_X12_endRow : Cond.selects yX12_endRow.cls yX12_endRow yX12_endRow ∈ lw_tbl := List.mem_append_left _ (List.mem_of_getElem? (i := 63) (by decide +kernel))
theorem ml_RX12_286 : tables_1[1984]? = some (Cond.methodLink RX12 286 yX12_endRow) := by decide +kernel
theorem mf_X12_layTwo : ix_mf yX12_layTwo cX12_layTwo 3 (none : Option Jvm.ClassFile.FieldType) 2 := ⟨ix_wm (i := 2011) (by decide +kernel), ix_wm (i := 8) (by decide +kernel), ⟨by decide +kernel, by decide +kernel⟩, by decide +kernel, by decide +kernel⟩
theorem mi_X12_layTwo : Cond.instanceMethod yX12_layTwo ∈ lw_tbl := ix_wm (i := 2010) (by decide +kernel)
theorem mf_X12_layThree : ix_mf yX12_layThree cX12_layThree 4 (none : Option Jvm.ClassFile.FieldType) 3 := ⟨ix_wm (i := 2015) (by decide +kernel), ix_wm (i := 8) (by decide +kernel), ⟨by decide +kernel, by decide +kernel⟩, by decide +kernel, by decide +kernel⟩
theorem mi_X12_layThree : Cond.instanceMethod yX12_layThree ∈ lw_tbl := ix_wm (i := 2014) (by decide +kernel)
theorem mf_X12_newName : ix_mf yX12_newName cX12_newName 1 (some .int) 0 := ⟨ix_wm (i := 2007) (by decide +kernel), ix_wm (i := 8) (by decide +kernel), ⟨by decide +kernel, by decide +kernel⟩, by decide +kernel, by decide +kernel⟩
theorem mi_X12_newName : Cond.instanceMethod yX12_newName ∈ lw_tbl := ix_wm (i := 2006) (by decide +kernel)
theorem ml_RX12_289 : tables_1[1973]? = some (Cond.methodLink RX12 289 yX12_nameOf) := by decide +kernel
theorem mf_X12_wrongItem : ix_mf yX12_wrongItem cX12_wrongItem 2 (some .int) 1 := ⟨ix_wm (i := 1972) (by decide +kernel), ix_wm (i := 8) (by decide +kernel), ⟨by decide +kernel, by decide +kernel⟩, by decide +kernel, by decide +kernel⟩
theorem mi_X12_wrongItem : Cond.instanceMethod yX12_wrongItem ∈ lw_tbl := ix_wm (i := 1971) (by decide +kernel)
theorem fp_RX12_292 : ix_fpb 1606 0 false RX12 292 "ClauseCourtModel" [11] 42 "I" false = true := by decide +kernel
theorem fl_RX12_292 : ix_flb 1606 0 false RX12 292 "ClauseCourtModel" [11] 42 0 = true := by decide +kernel
theorem fl_RX12_86 : ix_flb 1605 0 false RX12 86 "ClauseCourtModel" [11] 41 2 = true := by decide +kernel
theorem ms_X12_wrongItem : Cond.selects yX12_wrongItem.cls yX12_wrongItem yX12_wrongItem ∈ lw_tbl := List.mem_append_left _ (List.mem_of_getElem? (i := 60) (by decide +kernel))
theorem ml_RX12_295 : tables_1[1969]? = some (Cond.methodLink RX12 295 yX12_wrongItem) := by decide +kernel
theorem mf_X12_takeItems : ix_mf yX12_takeItems cX12_takeItems 4 (some .int) 1 := ⟨ix_wm (i := 1968) (by decide +kernel), ix_wm (i := 8) (by decide +kernel), ⟨by decide +kernel, by decide +kernel⟩, by decide +kernel, by decide +kernel⟩
theorem mi_X12_takeItems : Cond.instanceMethod yX12_takeItems ∈ lw_tbl := ix_wm (i := 1967) (by decide +kernel)
theorem fl_RX12_89 : ix_flb 1607 0 false RX12 89 "ClauseCourtModel" [11] 43 2 = true := by decide +kernel
theorem fl_RX12_92 : ix_flb 1608 0 false RX12 92 "ClauseCourtModel" [11] 44 2 = true := by decide +kernel
theorem ms_X12_newName : Cond.selects yX12_newName.cls yX12_newName yX12_newName ∈ lw_tbl := List.mem_append_left _ (List.mem_of_getElem? (i := 67) (by decide +kernel))
theorem ml_RX12_298 : tables_1[2004]? = some (Cond.methodLink RX12 298 yX12_newName) := by decide +kernel
theorem ms_X12_layThree : Cond.selects yX12_layThree.cls yX12_layThree yX12_layThree ∈ lw_tbl := List.mem_append_left _ (List.mem_of_getElem? (i := 69) (by decide +kernel))
theorem ml_RX12_306 : tables_1[2012]? = some (Cond.methodLink RX12 306 yX12_layThree) := by decide +kernel
theorem ms_X12_layTwo : Cond.selects yX12_layTwo.cls yX12_layTwo yX12_layTwo ∈ lw_tbl := List.mem_append_left _ (List.mem_of_getElem? (i := 68) (by decide +kernel))
theorem ml_RX12_302 : tables_1[2008]? = some (Cond.methodLink RX12 302 yX12_layTwo) := by decide +kernel
theorem mf_X12_layAtMost : ix_mf yX12_layAtMost cX12_layAtMost 9 (none : Option Jvm.ClassFile.FieldType) 2 := ⟨ix_wm (i := 2003) (by decide +kernel), ix_wm (i := 8) (by decide +kernel), ⟨by decide +kernel, by decide +kernel⟩, by decide +kernel, by decide +kernel⟩
theorem mi_X12_layAtMost : Cond.instanceMethod yX12_layAtMost ∈ lw_tbl := ix_wm (i := 2002) (by decide +kernel)
theorem mf_X12_layParity : ix_mf yX12_layParity cX12_layParity 6 (none : Option Jvm.ClassFile.FieldType) 1 := ⟨ix_wm (i := 2027) (by decide +kernel), ix_wm (i := 8) (by decide +kernel), ⟨by decide +kernel, by decide +kernel⟩, by decide +kernel, by decide +kernel⟩
theorem mi_X12_layParity : Cond.instanceMethod yX12_layParity ∈ lw_tbl := ix_wm (i := 2026) (by decide +kernel)
theorem fl_RX12_29 : ix_flb 1576 0 false RX12 29 "ClauseCourtModel" [11] 12 2 = true := by decide +kernel
theorem fl_RX12_32 : ix_flb 1577 0 false RX12 32 "ClauseCourtModel" [11] 13 2 = true := by decide +kernel
theorem fl_RX12_35 : ix_flb 1578 0 false RX12 35 "ClauseCourtModel" [11] 14 2 = true := by decide +kernel
theorem fl_RX12_38 : ix_flb 1579 0 false RX12 38 "ClauseCourtModel" [11] 15 2 = true := by decide +kernel
theorem fl_RX12_44 : ix_flb 1581 0 false RX12 44 "ClauseCourtModel" [11] 17 2 = true := by decide +kernel
theorem fl_RX12_276 : ix_flb 1602 0 false RX12 276 "ClauseCourtModel" [11] 38 0 = true := by decide +kernel
theorem fl_RX12_47 : ix_flb 1582 0 false RX12 47 "ClauseCourtModel" [11] 18 2 = true := by decide +kernel
theorem fp_RX12_264 : ix_fpb 1575 0 false RX12 264 "ClauseCourtModel" [11] 11 "I" false = true := by decide +kernel
theorem fl_RX12_41 : ix_flb 1580 0 false RX12 41 "ClauseCourtModel" [11] 16 2 = true := by decide +kernel
theorem fl_RX12_270 : ix_flb 1601 0 false RX12 270 "ClauseCourtModel" [11] 37 0 = true := by decide +kernel
theorem mf_X12_keepRule : ix_mf yX12_keepRule cX12_keepRule 6 (some .int) 3 := ⟨ix_wm (i := 1991) (by decide +kernel), ix_wm (i := 8) (by decide +kernel), ⟨by decide +kernel, by decide +kernel⟩, by decide +kernel, by decide +kernel⟩
theorem mi_X12_keepRule : Cond.instanceMethod yX12_keepRule ∈ lw_tbl := ix_wm (i := 1990) (by decide +kernel)
def tab_X12_fail : List (Nat × Instr × Nat) := [(0, .aload_n 0, 1), (1, .iload_n 1, 1), (2, .putfield 235, 3), (5, .iload_n 1, 1), (6, .ireturn, 1)]
theorem tb_X12_fail : ix_tab cX12_fail tab_X12_fail := by
  unfold ix_tab
  decide +kernel
noncomputable def f_X12_fail (n : Nat) (z : ix_Z) (a0 : Nat) (x1 : Int32) (d : ix_D2) : Option (Int32 × ix_D2) :=
  ix_ck (ix_ok z [11] a0) (ix_lt (ix_di d a0 0 x1) (fun d_2 => some (x1, d_2)))
set_option maxRecDepth 20000 in
theorem c_X12_fail {l : Launch} {K : ix_Cx} (hKp : ix_Kp K) {n : Nat} {z : ix_Z} {a0 : Nat} {x1 : Int32} {d : ix_D2} {r : Int32} {d1 : ix_D2} (h : f_X12_fail n z a0 x1 d = some (r, d1)) : ix_M l K yX12_fail cX12_fail 2 (some .int) 0 0 0 0 [.ref (K.2.2.1 + a0), .int x1] (ix_w z d) (some (.int r)) (ix_w z d1) := by
  refine ix_met mf_X12_fail hKp (Nat.le_of_ble_eq_true rfl) ?_
  intro p e s m args below meth c hr hlk hnm X
  have X : ix_X p s m args c K cX12_fail RX12 2 := X
  show ix_G p l e (ix_rm 0 0 0 0) s m args below meth c (MQ below (ix_Post K (some (.int r)) (ix_w z d1)) args s 0 0 (ix_A K)) K 2 0 0 0 [(0, .ref (K.2.2.1 + a0)), (1, .int x1)] [] (ix_w z d)
  unfold f_X12_fail at h
  refine ix_aload_n (i := 0) (j := 0) X (ix_tb_at tb_X12_fail 0 rfl) rfl rfl (pc1 := 1) rfl ?_
  refine ix_iload_n (i := 1) (j := 1) X (ix_tb_at tb_X12_fail 1 rfl) rfl rfl (pc1 := 2) rfl ?_
  obtain ⟨k_1, h⟩ := ix_ck_some h
  obtain ⟨d_2, e_3, h⟩ := ix_lt_ex h
  refine iz_putI X fp_RX12_235 k_1 (ix_tb_at tb_X12_fail 2 rfl) e_3 (pc1 := 5) rfl ?_
  refine ix_iload_n (i := 1) (j := 1) X (ix_tb_at tb_X12_fail 3 rfl) rfl rfl (pc1 := 6) rfl ?_
  exact ix_iret X hr hlk (ix_r2 (f := fun r => some (.int r)) (g := ix_w z) h) (ix_tb_at tb_X12_fail 4 rfl)
def tab_X12_in : List (Nat × Instr × Nat) := [(0, .iload_n 0, 1), (1, .iload_n 1, 1), (2, .if_icmp .lt 12, 3), (5, .iload_n 0, 1), (6, .iload_n 2, 1), (7, .if_icmp .gt 7, 3), (10, .iconst 1, 1), (11, .goto 4, 3), (14, .iconst 0, 1), (15, .ireturn, 1)]
theorem tb_X12_in : ix_tab cX12_in tab_X12_in := by
  unfold ix_tab
  decide +kernel
noncomputable def f_X12_in (n : Nat) (z : ix_Z) (x0 : Int32) (x1 : Int32) (x2 : Int32) (d : ix_D2) : Option (Int32 × ix_D2) :=
  ix_if (x0 < x1) (some (0, d)) (ix_if (x2 < x0) (some (0, d)) (some (1, d)))
set_option maxRecDepth 20000 in
theorem c_X12_in {l : Launch} {K : ix_Cx} (hKp : ix_Kp K) {n : Nat} {z : ix_Z} {x0 : Int32} {x1 : Int32} {x2 : Int32} {d : ix_D2} {r : Int32} {d1 : ix_D2} (h : f_X12_in n z x0 x1 x2 d = some (r, d1)) : ix_M l K yX12_in cX12_in 3 (some .boolean) 0 0 0 0 [.int x0, .int x1, .int x2] (ix_w z d) (some (.int r)) (ix_w z d1) := by
  refine ix_met mf_X12_in hKp (Nat.le_of_ble_eq_true rfl) ?_
  intro p e s m args below meth c hr hlk hnm X
  have X : ix_X p s m args c K cX12_in RX12 3 := X
  show ix_G p l e (ix_rm 0 0 0 0) s m args below meth c (MQ below (ix_Post K (some (.int r)) (ix_w z d1)) args s 0 0 (ix_A K)) K 3 0 0 0 [(0, .int x0), (1, .int x1), (2, .int x2)] [] (ix_w z d)
  unfold f_X12_in at h
  refine ix_iload_n (i := 0) (j := 0) X (ix_tb_at tb_X12_in 0 rfl) rfl rfl (pc1 := 1) rfl ?_
  refine ix_iload_n (i := 1) (j := 1) X (ix_tb_at tb_X12_in 1 rfl) rfl rfl (pc1 := 2) rfl ?_
  refine ix_icmp_lt (tgt := 14) X (ix_tb_at tb_X12_in 2 rfl) (by decide) (pc1 := 5) rfl (fun q_1 => ?_) (fun q_1 => ?_)
  · have h := ix_ift q_1 h
    refine ix_iconst (v := 0) X (ix_tb_at tb_X12_in 8 rfl) (by decide) (pc1 := 15) rfl ?_
    exact ix_zret X hr hlk (by decide) (ix_r2 (f := fun r => some (.int r)) (g := ix_w z) h) (ix_tb_at tb_X12_in 9 rfl)
  · have h := ix_iff q_1 h
    refine ix_iload_n (i := 0) (j := 0) X (ix_tb_at tb_X12_in 3 rfl) rfl rfl (pc1 := 6) rfl ?_
    refine ix_iload_n (i := 2) (j := 2) X (ix_tb_at tb_X12_in 4 rfl) rfl rfl (pc1 := 7) rfl ?_
    refine ix_icmp_gt (tgt := 14) X (ix_tb_at tb_X12_in 5 rfl) (by decide) (pc1 := 10) rfl (fun q_2 => ?_) (fun q_2 => ?_)
    · have h := ix_ift q_2 h
      refine ix_iconst (v := 0) X (ix_tb_at tb_X12_in 8 rfl) (by decide) (pc1 := 15) rfl ?_
      exact ix_zret X hr hlk (by decide) (ix_r2 (f := fun r => some (.int r)) (g := ix_w z) h) (ix_tb_at tb_X12_in 9 rfl)
    · have h := ix_iff q_2 h
      refine ix_iconst (v := 1) X (ix_tb_at tb_X12_in 6 rfl) (by decide) (pc1 := 11) rfl ?_
      refine ix_goto (tgt := 15) X (ix_tb_at tb_X12_in 7 rfl) (by decide) ?_
      exact ix_zret X hr hlk (by decide) (ix_r2 (f := fun r => some (.int r)) (g := ix_w z) h) (ix_tb_at tb_X12_in 9 rfl)
def tab_X12_nameOf : List (Nat × Instr × Nat) := [(0, .iload_n 0, 1), (1, .ifCond .ge 8, 3), (4, .iload_n 0, 1), (5, .ineg, 1), (6, .goto 4, 3), (9, .iload_n 0, 1), (10, .ireturn, 1)]
theorem tb_X12_nameOf : ix_tab cX12_nameOf tab_X12_nameOf := by
  unfold ix_tab
  decide +kernel
noncomputable def f_X12_nameOf (n : Nat) (z : ix_Z) (x0 : Int32) (d : ix_D2) : Option (Int32 × ix_D2) :=
  ix_if (0 ≤ x0) (some (x0, d)) (some (-x0, d))
set_option maxRecDepth 20000 in
theorem c_X12_nameOf {l : Launch} {K : ix_Cx} (hKp : ix_Kp K) {n : Nat} {z : ix_Z} {x0 : Int32} {d : ix_D2} {r : Int32} {d1 : ix_D2} (h : f_X12_nameOf n z x0 d = some (r, d1)) : ix_M l K yX12_nameOf cX12_nameOf 1 (some .int) 0 0 0 0 [.int x0] (ix_w z d) (some (.int r)) (ix_w z d1) := by
  refine ix_met mf_X12_nameOf hKp (Nat.le_of_ble_eq_true rfl) ?_
  intro p e s m args below meth c hr hlk hnm X
  have X : ix_X p s m args c K cX12_nameOf RX12 1 := X
  show ix_G p l e (ix_rm 0 0 0 0) s m args below meth c (MQ below (ix_Post K (some (.int r)) (ix_w z d1)) args s 0 0 (ix_A K)) K 1 0 0 0 [(0, .int x0)] [] (ix_w z d)
  unfold f_X12_nameOf at h
  refine ix_iload_n (i := 0) (j := 0) X (ix_tb_at tb_X12_nameOf 0 rfl) rfl rfl (pc1 := 1) rfl ?_
  refine ix_if_ge (tgt := 9) X (ix_tb_at tb_X12_nameOf 1 rfl) (by decide) (pc1 := 4) rfl (fun q_1 => ?_) (fun q_1 => ?_)
  · have h := ix_ift q_1 h
    refine ix_iload_n (i := 0) (j := 0) X (ix_tb_at tb_X12_nameOf 5 rfl) rfl rfl (pc1 := 10) rfl ?_
    exact ix_iret X hr hlk (ix_r2 (f := fun r => some (.int r)) (g := ix_w z) h) (ix_tb_at tb_X12_nameOf 6 rfl)
  · have h := ix_iff q_1 h
    refine ix_iload_n (i := 0) (j := 0) X (ix_tb_at tb_X12_nameOf 2 rfl) rfl rfl (pc1 := 5) rfl ?_
    refine ix_ineg X (ix_tb_at tb_X12_nameOf 3 rfl) (pc1 := 6) rfl ?_
    refine ix_goto (tgt := 10) X (ix_tb_at tb_X12_nameOf 4 rfl) (by decide) ?_
    exact ix_iret X hr hlk (ix_r2 (f := fun r => some (.int r)) (g := ix_w z) h) (ix_tb_at tb_X12_nameOf 6 rfl)
def tab_X12_names : List (Nat × Instr × Nat) := [(0, .iload_n 1, 1), (1, .iconst 0, 1), (2, .sipush 300, 3), (5, .invokestatic 238, 3), (8, .ifCond .ne 11, 3), (11, .aload_n 0, 1), (12, .sipush (-1001), 3), (15, .invokevirtual 242, 3), (18, .ireturn, 1), (19, .aload_n 0, 1), (20, .getfield 246, 3), (23, .iload_n 1, 1), (24, .iadd, 1), (25, .sipush 300, 3), (28, .if_icmp .le 11, 3), (31, .aload_n 0, 1), (32, .sipush (-1003), 3), (35, .invokevirtual 242, 3), (38, .ireturn, 1), (39, .aload_n 0, 1), (40, .dup, 1), (41, .getfield 246, 3), (44, .iload_n 1, 1), (45, .iadd, 1), (46, .putfield 246, 3), (49, .aload_n 0, 1), (50, .iconst 0, 1), (51, .putfield 249, 3), (54, .aload_n 0, 1), (55, .getfield 246, 3), (58, .ireturn, 1)]
theorem tb_X12_names : ix_tab cX12_names tab_X12_names := by
  unfold ix_tab
  decide +kernel
noncomputable def f_X12_names (n : Nat) (z : ix_Z) (a0 : Nat) (x1 : Int32) (d : ix_D2) : Option (Int32 × ix_D2) :=
  ix_bd2 (f_X12_in n z x1 0 300 d) (fun r_3 d_1 => ix_if (r_3 = 0) (ix_ck (ix_ok z [11] a0) (ix_bd2 (f_X12_fail n z a0 ((-1001)) d_1) (fun r_17 d_14 => some (r_17, d_14)))) (ix_ck (ix_ok z [11] a0) (ix_if ((d_1.1 a0 1) + x1 ≤ 300) (ix_lt (ix_di d_1 a0 1 ((d_1.1 a0 1) + x1)) (fun d_7 => ix_lt (ix_di d_7 a0 57 0) (fun d_9 => some (d_9.1 a0 1, d_9)))) (ix_bd2 (f_X12_fail n z a0 ((-1003)) d_1) (fun r_13 d_11 => some (r_13, d_11))))))
set_option maxRecDepth 20000 in
theorem c_X12_names {l : Launch} {K : ix_Cx} (hKp : ix_Kp K) {n : Nat} {z : ix_Z} {a0 : Nat} {x1 : Int32} {d : ix_D2} {r : Int32} {d1 : ix_D2} (h : f_X12_names n z a0 x1 d = some (r, d1)) : ix_M l K yX12_names cX12_names 2 (some .int) 1 22 0 0 [.ref (K.2.2.1 + a0), .int x1] (ix_w z d) (some (.int r)) (ix_w z d1) := by
  refine ix_met mf_X12_names hKp (Nat.le_of_ble_eq_true rfl) ?_
  intro p e s m args below meth c hr hlk hnm X
  have X : ix_X p s m args c K cX12_names RX12 2 := X
  show ix_G p l e (ix_rm 1 22 0 0) s m args below meth c (MQ below (ix_Post K (some (.int r)) (ix_w z d1)) args s 0 0 (ix_A K)) K 2 0 0 0 [(0, .ref (K.2.2.1 + a0)), (1, .int x1)] [] (ix_w z d)
  unfold f_X12_names at h
  refine ix_iload_n (i := 1) (j := 1) X (ix_tb_at tb_X12_names 0 rfl) rfl rfl (pc1 := 1) rfl ?_
  refine ix_iconst (v := 0) X (ix_tb_at tb_X12_names 1 rfl) (by decide) (pc1 := 2) rfl ?_
  refine ix_sipush (v := 300) X (ix_tb_at tb_X12_names 2 rfl) (by decide) (pc1 := 5) rfl ?_
  obtain ⟨r_3, d_1, h_2, h⟩ := ix_bd2_ex h
  refine ix_callS (As := [.int x1, .int 0, .int 300]) (rest := []) X mf_X12_in st_X12_in ml_RX12_238 ⟨Nat.le_of_ble_eq_true rfl, Nat.le_of_ble_eq_true rfl⟩ ⟨Nat.le_of_ble_eq_true rfl, Nat.le_of_ble_eq_true rfl⟩ rfl (Nat.le_of_ble_eq_true rfl) (ix_tb_at tb_X12_names 3 rfl) (c_X12_in hKp h_2) rfl (pc1 := 8) rfl ?_
  refine ix_if_ne (tgt := 19) X (ix_tb_at tb_X12_names 4 rfl) (by decide) (pc1 := 11) rfl (fun q_4 => ?_) (fun q_4 => ?_)
  · have h := ix_iff q_4 h
    refine ix_aload_n (i := 0) (j := 0) X (ix_tb_at tb_X12_names 9 rfl) rfl rfl (pc1 := 20) rfl ?_
    obtain ⟨k_5, h⟩ := ix_ck_some h
    refine iz_getI X fl_RX12_246 k_5 (ix_tb_at tb_X12_names 10 rfl) (pc1 := 23) rfl ?_
    refine ix_iload_n (i := 1) (j := 1) X (ix_tb_at tb_X12_names 11 rfl) rfl rfl (pc1 := 24) rfl ?_
    refine ix_iadd X (ix_tb_at tb_X12_names 12 rfl) (pc1 := 25) rfl ?_
    refine ix_sipush (v := 300) X (ix_tb_at tb_X12_names 13 rfl) (by decide) (pc1 := 28) rfl ?_
    refine ix_icmp_le (tgt := 39) X (ix_tb_at tb_X12_names 14 rfl) (by decide) (pc1 := 31) rfl (fun q_6 => ?_) (fun q_6 => ?_)
    · have h := ix_ift q_6 h
      refine ix_aload_n (i := 0) (j := 0) X (ix_tb_at tb_X12_names 19 rfl) rfl rfl (pc1 := 40) rfl ?_
      refine ix_dup X (ix_tb_at tb_X12_names 20 rfl) rfl (pc1 := 41) rfl ?_
      refine iz_getI X fl_RX12_246 k_5 (ix_tb_at tb_X12_names 21 rfl) (pc1 := 44) rfl ?_
      refine ix_iload_n (i := 1) (j := 1) X (ix_tb_at tb_X12_names 22 rfl) rfl rfl (pc1 := 45) rfl ?_
      refine ix_iadd X (ix_tb_at tb_X12_names 23 rfl) (pc1 := 46) rfl ?_
      obtain ⟨d_7, e_8, h⟩ := ix_lt_ex h
      refine iz_putI X fp_RX12_246 k_5 (ix_tb_at tb_X12_names 24 rfl) e_8 (pc1 := 49) rfl ?_
      refine ix_aload_n (i := 0) (j := 0) X (ix_tb_at tb_X12_names 25 rfl) rfl rfl (pc1 := 50) rfl ?_
      refine ix_iconst (v := 0) X (ix_tb_at tb_X12_names 26 rfl) (by decide) (pc1 := 51) rfl ?_
      obtain ⟨d_9, e_10, h⟩ := ix_lt_ex h
      refine iz_putZ X fp_RX12_249 k_5 (ix_tb_at tb_X12_names 27 rfl) (by decide) e_10 (pc1 := 54) rfl ?_
      refine ix_aload_n (i := 0) (j := 0) X (ix_tb_at tb_X12_names 28 rfl) rfl rfl (pc1 := 55) rfl ?_
      refine iz_getI X fl_RX12_246 k_5 (ix_tb_at tb_X12_names 29 rfl) (pc1 := 58) rfl ?_
      exact ix_iret X hr hlk (ix_r2 (f := fun r => some (.int r)) (g := ix_w z) h) (ix_tb_at tb_X12_names 30 rfl)
    · have h := ix_iff q_6 h
      refine ix_aload_n (i := 0) (j := 0) X (ix_tb_at tb_X12_names 15 rfl) rfl rfl (pc1 := 32) rfl ?_
      refine ix_sipush (v := (-1003)) X (ix_tb_at tb_X12_names 16 rfl) (by decide) (pc1 := 35) rfl ?_
      obtain ⟨r_13, d_11, h_12, h⟩ := ix_bd2_ex h
      refine ix_callV (As := [.int ((-1003))]) (rest := []) (ci := 11) (T := TX12) (nf := 116) X mf_X12_fail mi_X12_fail ms_X12_fail rfl (Nat.le_of_ble_eq_true rfl) ml_RX12_242 ⟨Nat.le_of_ble_eq_true rfl, Nat.le_of_ble_eq_true rfl⟩ ⟨Nat.le_of_ble_eq_true rfl, Nat.le_of_ble_eq_true rfl⟩ rfl (Nat.le_of_ble_eq_true rfl) (ix_tb_at tb_X12_names 17 rfl) ⟨k_5.1, List.mem_singleton.mp k_5.2⟩ (c_X12_fail hKp h_12) rfl (pc1 := 38) rfl ?_
      exact ix_iret X hr hlk (ix_r2 (f := fun r => some (.int r)) (g := ix_w z) h) (ix_tb_at tb_X12_names 18 rfl)
  · have h := ix_ift q_4 h
    refine ix_aload_n (i := 0) (j := 0) X (ix_tb_at tb_X12_names 5 rfl) rfl rfl (pc1 := 12) rfl ?_
    refine ix_sipush (v := (-1001)) X (ix_tb_at tb_X12_names 6 rfl) (by decide) (pc1 := 15) rfl ?_
    obtain ⟨k_16, h⟩ := ix_ck_some h
    obtain ⟨r_17, d_14, h_15, h⟩ := ix_bd2_ex h
    refine ix_callV (As := [.int ((-1001))]) (rest := []) (ci := 11) (T := TX12) (nf := 116) X mf_X12_fail mi_X12_fail ms_X12_fail rfl (Nat.le_of_ble_eq_true rfl) ml_RX12_242 ⟨Nat.le_of_ble_eq_true rfl, Nat.le_of_ble_eq_true rfl⟩ ⟨Nat.le_of_ble_eq_true rfl, Nat.le_of_ble_eq_true rfl⟩ rfl (Nat.le_of_ble_eq_true rfl) (ix_tb_at tb_X12_names 7 rfl) ⟨k_16.1, List.mem_singleton.mp k_16.2⟩ (c_X12_fail hKp h_15) rfl (pc1 := 18) rfl ?_
    exact ix_iret X hr hlk (ix_r2 (f := fun r => some (.int r)) (g := ix_w z) h) (ix_tb_at tb_X12_names 8 rfl)
def tab_X12_isRow : List (Nat × Instr × Nat) := [(0, .iload_n 0, 1), (1, .iconst 0, 1), (2, .bipush 39, 2), (4, .invokestatic 238, 3), (7, .ireturn, 1)]
theorem tb_X12_isRow : ix_tab cX12_isRow tab_X12_isRow := by
  unfold ix_tab
  decide +kernel
noncomputable def f_X12_isRow (n : Nat) (z : ix_Z) (x0 : Int32) (d : ix_D2) : Option (Int32 × ix_D2) :=
  ix_bd2 (f_X12_in n z x0 0 39 d) (fun r_3 d_1 => ix_ck (r_3 = 0 ∨ r_3 = 1) (some (r_3, d_1)))
set_option maxRecDepth 20000 in
theorem c_X12_isRow {l : Launch} {K : ix_Cx} (hKp : ix_Kp K) {n : Nat} {z : ix_Z} {x0 : Int32} {d : ix_D2} {r : Int32} {d1 : ix_D2} (h : f_X12_isRow n z x0 d = some (r, d1)) : ix_M l K yX12_isRow cX12_isRow 1 (some .boolean) 1 22 0 0 [.int x0] (ix_w z d) (some (.int r)) (ix_w z d1) := by
  refine ix_met mf_X12_isRow hKp (Nat.le_of_ble_eq_true rfl) ?_
  intro p e s m args below meth c hr hlk hnm X
  have X : ix_X p s m args c K cX12_isRow RX12 1 := X
  show ix_G p l e (ix_rm 1 22 0 0) s m args below meth c (MQ below (ix_Post K (some (.int r)) (ix_w z d1)) args s 0 0 (ix_A K)) K 1 0 0 0 [(0, .int x0)] [] (ix_w z d)
  unfold f_X12_isRow at h
  refine ix_iload_n (i := 0) (j := 0) X (ix_tb_at tb_X12_isRow 0 rfl) rfl rfl (pc1 := 1) rfl ?_
  refine ix_iconst (v := 0) X (ix_tb_at tb_X12_isRow 1 rfl) (by decide) (pc1 := 2) rfl ?_
  refine ix_bipush (v := 39) X (ix_tb_at tb_X12_isRow 2 rfl) (by decide) (pc1 := 4) rfl ?_
  obtain ⟨r_3, d_1, h_2, h⟩ := ix_bd2_ex h
  refine ix_callS (As := [.int x0, .int 0, .int 39]) (rest := []) X mf_X12_in st_X12_in ml_RX12_238 ⟨Nat.le_of_ble_eq_true rfl, Nat.le_of_ble_eq_true rfl⟩ ⟨Nat.le_of_ble_eq_true rfl, Nat.le_of_ble_eq_true rfl⟩ rfl (Nat.le_of_ble_eq_true rfl) (ix_tb_at tb_X12_isRow 3 rfl) (c_X12_in hKp h_2) rfl (pc1 := 7) rfl ?_
  obtain ⟨k_4, h⟩ := ix_ck_some h
  exact ix_zret X hr hlk k_4 (ix_r2 (f := fun r => some (.int r)) (g := ix_w z) h) (ix_tb_at tb_X12_isRow 4 rfl)
def tab_X12_row : List (Nat × Instr × Nat) := [(0, .iload_n 1, 1), (1, .invokestatic 253, 3), (4, .ifCond .eq 9, 3), (7, .iload_n 2, 1), (8, .bipush 12, 2), (10, .if_icmp .le 11, 3), (13, .aload_n 0, 1), (14, .sipush (-1001), 3), (17, .invokevirtual 242, 3), (20, .ireturn, 1), (21, .iload_n 2, 1), (22, .ifCond .ge 11, 3), (25, .aload_n 0, 1), (26, .sipush (-1014), 3), (29, .invokevirtual 242, 3), (32, .ireturn, 1), (33, .iconst 0, 1), (34, .istore_n 3, 1), (35, .iload_n 3, 1), (36, .iload_n 2, 1), (37, .if_icmp .ge 21, 3), (40, .aload_n 0, 1), (41, .getfield 20, 3), (44, .bipush 12, 2), (46, .iload_n 1, 1), (47, .imul, 1), (48, .iload_n 3, 1), (49, .iadd, 1), (50, .iconst 0, 1), (51, .iastore, 1), (52, .iinc 3 1, 3), (55, .goto (-20), 3), (58, .aload_n 0, 1), (59, .getfield 17, 3), (62, .iload_n 1, 1), (63, .iload_n 2, 1), (64, .iastore, 1), (65, .iload_n 2, 1), (66, .ireturn, 1)]
theorem tb_X12_row : ix_tab cX12_row tab_X12_row := by
  unfold ix_tab
  decide +kernel
noncomputable def f_X12_row_13 (n : Nat) (z : ix_Z)  (a0 : Nat) (d : ix_D2) : Option (Int32 × ix_D2) :=
  ix_ck (ix_ok z [11] a0) (ix_bd2 (f_X12_fail n z a0 ((-1001)) d) (fun r_8 d_5 => some (r_8, d_5)))
noncomputable def b_X12_row_35 (n : Nat) (z : ix_Z)  (a0 : Nat) (x1 : Int32) (x2 : Int32) (rec35 : Int32 → ix_D2 → Option (Int32 × ix_D2)) (x3 : Int32) (d : ix_D2) : Option (Int32 × ix_D2) :=
  ix_if (x2 ≤ x3) (ix_ck (ix_ok z [11] a0) (ix_bd1 (z.1 a0 5) (fun b_13 => ix_ck (ix_ix z 20 b_13 x1) (ix_lt (ix_di d b_13 (ix_n x1) x2) (fun d_16 => some (x2, d_16)))))) (ix_ck (ix_ok z [11] a0) (ix_bd1 (z.1 a0 6) (fun b_19 => ix_ck (ix_ix z 20 b_19 ((12 * x1) + x3)) (ix_lt (ix_di d b_19 (ix_n ((12 * x1) + x3)) 0) (fun d_22 => ix_lt (x3 + 1) (fun x3_24 => rec35 x3_24 d_22))))))
noncomputable def f_X12_row_35 (n : Nat) (z : ix_Z)  (a0 : Nat) (x1 : Int32) (x2 : Int32) (x3 : Int32) (d : ix_D2) : Option (Int32 × ix_D2) := ix_fix (b_X12_row_35 n z  a0 x1 x2) (fun _ _ => none) n x3 d
noncomputable def f_X12_row (n : Nat) (z : ix_Z) (a0 : Nat) (x1 : Int32) (x2 : Int32) (d : ix_D2) : Option (Int32 × ix_D2) :=
  ix_bd2 (f_X12_isRow n z x1 d) (fun r_3 d_1 => ix_if (r_3 = 0) (f_X12_row_13 n z  a0 d_1) (ix_if (x2 ≤ 12) (ix_if (0 ≤ x2) (f_X12_row_35 n z  a0 x1 x2 0 d_1) (ix_ck (ix_ok z [11] a0) (ix_bd2 (f_X12_fail n z a0 ((-1014)) d_1) (fun r_29 d_26 => some (r_29, d_26))))) (f_X12_row_13 n z  a0 d_1)))
set_option maxRecDepth 20000 in
theorem t_X12_row_13 {l : Launch} {p : Program} {e : Env} {s : State} {m : MethodId} {args : Array Value} {below : List Frame} {meth : Method} {c : Code} {K : ix_Cx} (hKp : ix_Kp K) {n : Nat} {z : ix_Z} (X : ix_X p s m args c K cX12_row RX12 4) (hr : meth.sig.returnType = (some .int)) (hlk : meth.locks = false)  {a0 : Nat} {r : Int32} {d1 : ix_D2}  {d : ix_D2} (h : f_X12_row_13 n z  a0 d = some (r, d1)) : ix_G p l e (ix_rm 2 42 0 0) s m args below meth c (MQ below (ix_Post K (some (.int r)) (ix_w z d1)) args s 0 0 (ix_A K)) K 4 0 0 13 [(0, .ref (K.2.2.1 + a0))] [] (ix_w z d) := by
  unfold f_X12_row_13 at h
  refine ix_aload_n (i := 0) (j := 0) X (ix_tb_at tb_X12_row 6 rfl) rfl rfl (pc1 := 14) rfl ?_
  refine ix_sipush (v := (-1001)) X (ix_tb_at tb_X12_row 7 rfl) (by decide) (pc1 := 17) rfl ?_
  obtain ⟨k_7, h⟩ := ix_ck_some h
  obtain ⟨r_8, d_5, h_6, h⟩ := ix_bd2_ex h
  refine ix_callV (As := [.int ((-1001))]) (rest := []) (ci := 11) (T := TX12) (nf := 116) X mf_X12_fail mi_X12_fail ms_X12_fail rfl (Nat.le_of_ble_eq_true rfl) ml_RX12_242 ⟨Nat.le_of_ble_eq_true rfl, Nat.le_of_ble_eq_true rfl⟩ ⟨Nat.le_of_ble_eq_true rfl, Nat.le_of_ble_eq_true rfl⟩ rfl (Nat.le_of_ble_eq_true rfl) (ix_tb_at tb_X12_row 8 rfl) ⟨k_7.1, List.mem_singleton.mp k_7.2⟩ (c_X12_fail hKp h_6) rfl (pc1 := 20) rfl ?_
  exact ix_iret X hr hlk (ix_r2 (f := fun r => some (.int r)) (g := ix_w z) h) (ix_tb_at tb_X12_row 9 rfl)
set_option maxRecDepth 20000 in
theorem tb_X12_row_35 {l : Launch} {p : Program} {e : Env} {s : State} {m : MethodId} {args : Array Value} {below : List Frame} {meth : Method} {c : Code} {K : ix_Cx} (hKp : ix_Kp K) {n : Nat} {z : ix_Z} (X : ix_X p s m args c K cX12_row RX12 4) (hr : meth.sig.returnType = (some .int)) (hlk : meth.locks = false)  {a0 : Nat} {x1 : Int32} {x2 : Int32} {rec35 : Int32 → ix_D2 → Option (Int32 × ix_D2)} {r : Int32} {d1 : ix_D2} (hrec35 : ∀ (x3 : Int32) (d : ix_D2), rec35 x3 d = some (r, d1) → ix_G p l e (ix_rm 2 42 0 0) s m args below meth c (MQ below (ix_Post K (some (.int r)) (ix_w z d1)) args s 0 0 (ix_A K)) K 4 0 0 35 [(0, .ref (K.2.2.1 + a0)), (1, .int x1), (2, .int x2), (3, .int x3)] [] (ix_w z d)) {x3 : Int32} {d : ix_D2} (h : b_X12_row_35 n z  a0 x1 x2 rec35 x3 d = some (r, d1)) : ix_G p l e (ix_rm 2 42 0 0) s m args below meth c (MQ below (ix_Post K (some (.int r)) (ix_w z d1)) args s 0 0 (ix_A K)) K 4 0 0 35 [(0, .ref (K.2.2.1 + a0)), (1, .int x1), (2, .int x2), (3, .int x3)] [] (ix_w z d) := by
  unfold b_X12_row_35 at h
  refine ix_iload_n (i := 3) (j := 3) X (ix_tb_at tb_X12_row 18 rfl) rfl rfl (pc1 := 36) rfl ?_
  refine ix_iload_n (i := 2) (j := 2) X (ix_tb_at tb_X12_row 19 rfl) rfl rfl (pc1 := 37) rfl ?_
  refine ix_icmp_ge (tgt := 58) X (ix_tb_at tb_X12_row 20 rfl) (by decide) (pc1 := 40) rfl (fun q_11 => ?_) (fun q_11 => ?_)
  · have h := ix_ift q_11 h
    refine ix_aload_n (i := 0) (j := 0) X (ix_tb_at tb_X12_row 32 rfl) rfl rfl (pc1 := 59) rfl ?_
    obtain ⟨k_12, h⟩ := ix_ck_some h
    obtain ⟨b_13, q_14, h⟩ := ix_bd1_ex h
    refine iz_getR X fl_RX12_17 k_12 q_14 (ix_tb_at tb_X12_row 33 rfl) (pc1 := 62) rfl ?_
    refine ix_iload_n (i := 1) (j := 1) X (ix_tb_at tb_X12_row 34 rfl) rfl rfl (pc1 := 63) rfl ?_
    refine ix_iload_n (i := 2) (j := 2) X (ix_tb_at tb_X12_row 35 rfl) rfl rfl (pc1 := 64) rfl ?_
    obtain ⟨k_15, h⟩ := ix_ck_some h
    obtain ⟨d_16, e_17, h⟩ := ix_lt_ex h
    refine iz_iast X k_15 (ix_tb_at tb_X12_row 36 rfl) e_17 (pc1 := 65) rfl ?_
    refine ix_iload_n (i := 2) (j := 2) X (ix_tb_at tb_X12_row 37 rfl) rfl rfl (pc1 := 66) rfl ?_
    exact ix_iret X hr hlk (ix_r2 (f := fun r => some (.int r)) (g := ix_w z) h) (ix_tb_at tb_X12_row 38 rfl)
  · have h := ix_iff q_11 h
    refine ix_aload_n (i := 0) (j := 0) X (ix_tb_at tb_X12_row 21 rfl) rfl rfl (pc1 := 41) rfl ?_
    obtain ⟨k_18, h⟩ := ix_ck_some h
    obtain ⟨b_19, q_20, h⟩ := ix_bd1_ex h
    refine iz_getR X fl_RX12_20 k_18 q_20 (ix_tb_at tb_X12_row 22 rfl) (pc1 := 44) rfl ?_
    refine ix_bipush (v := 12) X (ix_tb_at tb_X12_row 23 rfl) (by decide) (pc1 := 46) rfl ?_
    refine ix_iload_n (i := 1) (j := 1) X (ix_tb_at tb_X12_row 24 rfl) rfl rfl (pc1 := 47) rfl ?_
    refine ix_imul X (ix_tb_at tb_X12_row 25 rfl) (pc1 := 48) rfl ?_
    refine ix_iload_n (i := 3) (j := 3) X (ix_tb_at tb_X12_row 26 rfl) rfl rfl (pc1 := 49) rfl ?_
    refine ix_iadd X (ix_tb_at tb_X12_row 27 rfl) (pc1 := 50) rfl ?_
    refine ix_iconst (v := 0) X (ix_tb_at tb_X12_row 28 rfl) (by decide) (pc1 := 51) rfl ?_
    obtain ⟨k_21, h⟩ := ix_ck_some h
    obtain ⟨d_22, e_23, h⟩ := ix_lt_ex h
    refine iz_iast X k_21 (ix_tb_at tb_X12_row 29 rfl) e_23 (pc1 := 52) rfl ?_
    obtain ⟨x3_24, e_25, h⟩ := ix_lt_ex h
    refine ix_iinc (i := 3) (j := 3) (v := x3_24) (L1 := [(3, .int x3_24), (0, .ref (K.2.2.1 + a0)), (1, .int x1), (2, .int x2)]) X (ix_tb_at tb_X12_row 30 rfl) rfl (by rw [oi_1]; exact e_25.symm) (Nat.le_of_ble_eq_true rfl) rfl (pc1 := 55) rfl ?_
    refine ix_goto (tgt := 35) X (ix_tb_at tb_X12_row 31 rfl) (by decide) ?_
    refine ix_sub (L1 := [(0, .ref (K.2.2.1 + a0)), (1, .int x1), (2, .int x2), (3, .int x3_24)]) [1, 2, 3, 0] rfl ?_
    exact hrec35 x3_24 d_22 h
theorem t_X12_row_35 {l : Launch} {p : Program} {e : Env} {s : State} {m : MethodId} {args : Array Value} {below : List Frame} {meth : Method} {c : Code} {K : ix_Cx} (hKp : ix_Kp K) {n : Nat} {z : ix_Z} (X : ix_X p s m args c K cX12_row RX12 4) (hr : meth.sig.returnType = (some .int)) (hlk : meth.locks = false)  {a0 : Nat} {x1 : Int32} {x2 : Int32} {r : Int32} {d1 : ix_D2}  {x3 : Int32} {d : ix_D2} (h : f_X12_row_35 n z  a0 x1 x2 x3 d = some (r, d1)) : ix_G p l e (ix_rm 2 42 0 0) s m args below meth c (MQ below (ix_Post K (some (.int r)) (ix_w z d1)) args s 0 0 (ix_A K)) K 4 0 0 35 [(0, .ref (K.2.2.1 + a0)), (1, .int x1), (2, .int x2), (3, .int x3)] [] (ix_w z d) := by
  have key : ∀ (f : Nat) (x3 : Int32) (d : ix_D2), ix_fix (b_X12_row_35 n z  a0 x1 x2) (fun _ _ => none) f x3 d = some (r, d1) → ix_G p l e (ix_rm 2 42 0 0) s m args below meth c (MQ below (ix_Post K (some (.int r)) (ix_w z d1)) args s 0 0 (ix_A K)) K 4 0 0 35 [(0, .ref (K.2.2.1 + a0)), (1, .int x1), (2, .int x2), (3, .int x3)] [] (ix_w z d) := by
    intro f
    induction f with
    | zero =>
      intro x3 d h
      have h : (none : Option (Int32 × ix_D2)) = some (r, d1) := h
      cases h
    | succ f ih =>
      intro x3 d h
      exact tb_X12_row_35 hKp X hr hlk (rec35 := ix_fix (b_X12_row_35 n z  a0 x1 x2) (fun _ _ => none) f)  ih h
  exact key n x3 d h
set_option maxRecDepth 20000 in
theorem c_X12_row {l : Launch} {K : ix_Cx} (hKp : ix_Kp K) {n : Nat} {z : ix_Z} {a0 : Nat} {x1 : Int32} {x2 : Int32} {d : ix_D2} {r : Int32} {d1 : ix_D2} (h : f_X12_row n z a0 x1 x2 d = some (r, d1)) : ix_M l K yX12_row cX12_row 4 (some .int) 2 42 0 0 [.ref (K.2.2.1 + a0), .int x1, .int x2] (ix_w z d) (some (.int r)) (ix_w z d1) := by
  refine ix_met mf_X12_row hKp (Nat.le_of_ble_eq_true rfl) ?_
  intro p e s m args below meth c hr hlk hnm X
  have X : ix_X p s m args c K cX12_row RX12 4 := X
  show ix_G p l e (ix_rm 2 42 0 0) s m args below meth c (MQ below (ix_Post K (some (.int r)) (ix_w z d1)) args s 0 0 (ix_A K)) K 4 0 0 0 [(0, .ref (K.2.2.1 + a0)), (1, .int x1), (2, .int x2)] [] (ix_w z d)
  unfold f_X12_row at h
  refine ix_iload_n (i := 1) (j := 1) X (ix_tb_at tb_X12_row 0 rfl) rfl rfl (pc1 := 1) rfl ?_
  obtain ⟨r_3, d_1, h_2, h⟩ := ix_bd2_ex h
  refine ix_callS (As := [.int x1]) (rest := []) X mf_X12_isRow st_X12_isRow ml_RX12_253 ⟨Nat.le_of_ble_eq_true rfl, Nat.le_of_ble_eq_true rfl⟩ ⟨Nat.le_of_ble_eq_true rfl, Nat.le_of_ble_eq_true rfl⟩ rfl (Nat.le_of_ble_eq_true rfl) (ix_tb_at tb_X12_row 1 rfl) (c_X12_isRow hKp h_2) rfl (pc1 := 4) rfl ?_
  refine ix_if_eq (tgt := 13) X (ix_tb_at tb_X12_row 2 rfl) (by decide) (pc1 := 7) rfl (fun q_4 => ?_) (fun q_4 => ?_)
  · have h := ix_ift q_4 h
    refine ix_sub (L1 := [(0, .ref (K.2.2.1 + a0))]) [0] rfl ?_
    exact t_X12_row_13 hKp X hr hlk  h
  · have h := ix_iff q_4 h
    refine ix_iload_n (i := 2) (j := 2) X (ix_tb_at tb_X12_row 3 rfl) rfl rfl (pc1 := 8) rfl ?_
    refine ix_bipush (v := 12) X (ix_tb_at tb_X12_row 4 rfl) (by decide) (pc1 := 10) rfl ?_
    refine ix_icmp_le (tgt := 21) X (ix_tb_at tb_X12_row 5 rfl) (by decide) (pc1 := 13) rfl (fun q_9 => ?_) (fun q_9 => ?_)
    · have h := ix_ift q_9 h
      refine ix_iload_n (i := 2) (j := 2) X (ix_tb_at tb_X12_row 10 rfl) rfl rfl (pc1 := 22) rfl ?_
      refine ix_if_ge (tgt := 33) X (ix_tb_at tb_X12_row 11 rfl) (by decide) (pc1 := 25) rfl (fun q_10 => ?_) (fun q_10 => ?_)
      · have h := ix_ift q_10 h
        refine ix_iconst (v := 0) X (ix_tb_at tb_X12_row 16 rfl) (by decide) (pc1 := 34) rfl ?_
        refine ix_istore_n (i := 3) (L1 := [(3, .int 0), (0, .ref (K.2.2.1 + a0)), (1, .int x1), (2, .int x2)]) X (ix_tb_at tb_X12_row 17 rfl) rfl (Nat.le_of_ble_eq_true rfl) rfl (pc1 := 35) rfl ?_
        refine ix_sub (L1 := [(0, .ref (K.2.2.1 + a0)), (1, .int x1), (2, .int x2), (3, .int 0)]) [1, 2, 3, 0] rfl ?_
        exact t_X12_row_35 hKp X hr hlk  h
      · have h := ix_iff q_10 h
        refine ix_aload_n (i := 0) (j := 0) X (ix_tb_at tb_X12_row 12 rfl) rfl rfl (pc1 := 26) rfl ?_
        refine ix_sipush (v := (-1014)) X (ix_tb_at tb_X12_row 13 rfl) (by decide) (pc1 := 29) rfl ?_
        obtain ⟨k_28, h⟩ := ix_ck_some h
        obtain ⟨r_29, d_26, h_27, h⟩ := ix_bd2_ex h
        refine ix_callV (As := [.int ((-1014))]) (rest := []) (ci := 11) (T := TX12) (nf := 116) X mf_X12_fail mi_X12_fail ms_X12_fail rfl (Nat.le_of_ble_eq_true rfl) ml_RX12_242 ⟨Nat.le_of_ble_eq_true rfl, Nat.le_of_ble_eq_true rfl⟩ ⟨Nat.le_of_ble_eq_true rfl, Nat.le_of_ble_eq_true rfl⟩ rfl (Nat.le_of_ble_eq_true rfl) (ix_tb_at tb_X12_row 14 rfl) ⟨k_28.1, List.mem_singleton.mp k_28.2⟩ (c_X12_fail hKp h_27) rfl (pc1 := 32) rfl ?_
        exact ix_iret X hr hlk (ix_r2 (f := fun r => some (.int r)) (g := ix_w z) h) (ix_tb_at tb_X12_row 15 rfl)
    · have h := ix_iff q_9 h
      refine ix_sub (L1 := [(0, .ref (K.2.2.1 + a0))]) [0] rfl ?_
      exact t_X12_row_13 hKp X hr hlk  h
def tab_X12_drop : List (Nat × Instr × Nat) := [(0, .iload_n 1, 1), (1, .invokestatic 253, 3), (4, .ifCond .ne 11, 3), (7, .aload_n 0, 1), (8, .sipush (-1001), 3), (11, .invokevirtual 242, 3), (14, .ireturn, 1), (15, .aload_n 0, 1), (16, .getfield 17, 3), (19, .iload_n 1, 1), (20, .sipush (-1005), 3), (23, .iastore, 1), (24, .iconst 1, 1), (25, .ireturn, 1)]
theorem tb_X12_drop : ix_tab cX12_drop tab_X12_drop := by
  unfold ix_tab
  decide +kernel
noncomputable def f_X12_drop (n : Nat) (z : ix_Z) (a0 : Nat) (x1 : Int32) (d : ix_D2) : Option (Int32 × ix_D2) :=
  ix_bd2 (f_X12_isRow n z x1 d) (fun r_3 d_1 => ix_if (r_3 = 0) (ix_ck (ix_ok z [11] a0) (ix_bd2 (f_X12_fail n z a0 ((-1001)) d_1) (fun r_14 d_11 => some (r_14, d_11)))) (ix_ck (ix_ok z [11] a0) (ix_bd1 (z.1 a0 5) (fun b_6 => ix_ck (ix_ix z 20 b_6 x1) (ix_lt (ix_di d_1 b_6 (ix_n x1) ((-1005))) (fun d_9 => some (1, d_9)))))))
set_option maxRecDepth 20000 in
theorem c_X12_drop {l : Launch} {K : ix_Cx} (hKp : ix_Kp K) {n : Nat} {z : ix_Z} {a0 : Nat} {x1 : Int32} {d : ix_D2} {r : Int32} {d1 : ix_D2} (h : f_X12_drop n z a0 x1 d = some (r, d1)) : ix_M l K yX12_drop cX12_drop 2 (some .int) 2 42 0 0 [.ref (K.2.2.1 + a0), .int x1] (ix_w z d) (some (.int r)) (ix_w z d1) := by
  refine ix_met mf_X12_drop hKp (Nat.le_of_ble_eq_true rfl) ?_
  intro p e s m args below meth c hr hlk hnm X
  have X : ix_X p s m args c K cX12_drop RX12 2 := X
  show ix_G p l e (ix_rm 2 42 0 0) s m args below meth c (MQ below (ix_Post K (some (.int r)) (ix_w z d1)) args s 0 0 (ix_A K)) K 2 0 0 0 [(0, .ref (K.2.2.1 + a0)), (1, .int x1)] [] (ix_w z d)
  unfold f_X12_drop at h
  refine ix_iload_n (i := 1) (j := 1) X (ix_tb_at tb_X12_drop 0 rfl) rfl rfl (pc1 := 1) rfl ?_
  obtain ⟨r_3, d_1, h_2, h⟩ := ix_bd2_ex h
  refine ix_callS (As := [.int x1]) (rest := []) X mf_X12_isRow st_X12_isRow ml_RX12_253 ⟨Nat.le_of_ble_eq_true rfl, Nat.le_of_ble_eq_true rfl⟩ ⟨Nat.le_of_ble_eq_true rfl, Nat.le_of_ble_eq_true rfl⟩ rfl (Nat.le_of_ble_eq_true rfl) (ix_tb_at tb_X12_drop 1 rfl) (c_X12_isRow hKp h_2) rfl (pc1 := 4) rfl ?_
  refine ix_if_ne (tgt := 15) X (ix_tb_at tb_X12_drop 2 rfl) (by decide) (pc1 := 7) rfl (fun q_4 => ?_) (fun q_4 => ?_)
  · have h := ix_iff q_4 h
    refine ix_aload_n (i := 0) (j := 0) X (ix_tb_at tb_X12_drop 7 rfl) rfl rfl (pc1 := 16) rfl ?_
    obtain ⟨k_5, h⟩ := ix_ck_some h
    obtain ⟨b_6, q_7, h⟩ := ix_bd1_ex h
    refine iz_getR X fl_RX12_17 k_5 q_7 (ix_tb_at tb_X12_drop 8 rfl) (pc1 := 19) rfl ?_
    refine ix_iload_n (i := 1) (j := 1) X (ix_tb_at tb_X12_drop 9 rfl) rfl rfl (pc1 := 20) rfl ?_
    refine ix_sipush (v := (-1005)) X (ix_tb_at tb_X12_drop 10 rfl) (by decide) (pc1 := 23) rfl ?_
    obtain ⟨k_8, h⟩ := ix_ck_some h
    obtain ⟨d_9, e_10, h⟩ := ix_lt_ex h
    refine iz_iast X k_8 (ix_tb_at tb_X12_drop 11 rfl) e_10 (pc1 := 24) rfl ?_
    refine ix_iconst (v := 1) X (ix_tb_at tb_X12_drop 12 rfl) (by decide) (pc1 := 25) rfl ?_
    exact ix_iret X hr hlk (ix_r2 (f := fun r => some (.int r)) (g := ix_w z) h) (ix_tb_at tb_X12_drop 13 rfl)
  · have h := ix_ift q_4 h
    refine ix_aload_n (i := 0) (j := 0) X (ix_tb_at tb_X12_drop 3 rfl) rfl rfl (pc1 := 8) rfl ?_
    refine ix_sipush (v := (-1001)) X (ix_tb_at tb_X12_drop 4 rfl) (by decide) (pc1 := 11) rfl ?_
    obtain ⟨k_13, h⟩ := ix_ck_some h
    obtain ⟨r_14, d_11, h_12, h⟩ := ix_bd2_ex h
    refine ix_callV (As := [.int ((-1001))]) (rest := []) (ci := 11) (T := TX12) (nf := 116) X mf_X12_fail mi_X12_fail ms_X12_fail rfl (Nat.le_of_ble_eq_true rfl) ml_RX12_242 ⟨Nat.le_of_ble_eq_true rfl, Nat.le_of_ble_eq_true rfl⟩ ⟨Nat.le_of_ble_eq_true rfl, Nat.le_of_ble_eq_true rfl⟩ rfl (Nat.le_of_ble_eq_true rfl) (ix_tb_at tb_X12_drop 5 rfl) ⟨k_13.1, List.mem_singleton.mp k_13.2⟩ (c_X12_fail hKp h_12) rfl (pc1 := 14) rfl ?_
    exact ix_iret X hr hlk (ix_r2 (f := fun r => some (.int r)) (g := ix_w z) h) (ix_tb_at tb_X12_drop 6 rfl)
def tab_X12_put : List (Nat × Instr × Nat) := [(0, .iload_n 1, 1), (1, .invokestatic 253, 3), (4, .ifCond .ne 11, 3), (7, .aload_n 0, 1), (8, .sipush (-1001), 3), (11, .invokevirtual 242, 3), (14, .ireturn, 1), (15, .aload_n 0, 1), (16, .getfield 17, 3), (19, .iload_n 1, 1), (20, .iaload, 1), (21, .ifCond .ge 11, 3), (24, .aload_n 0, 1), (25, .sipush (-1011), 3), (28, .invokevirtual 242, 3), (31, .ireturn, 1), (32, .iload_n 2, 1), (33, .iconst 0, 1), (34, .aload_n 0, 1), (35, .getfield 17, 3), (38, .iload_n 1, 1), (39, .iaload, 1), (40, .iconst 1, 1), (41, .isub, 1), (42, .invokestatic 238, 3), (45, .ifCond .ne 11, 3), (48, .aload_n 0, 1), (49, .sipush (-1012), 3), (52, .invokevirtual 242, 3), (55, .ireturn, 1), (56, .aload_n 0, 1), (57, .getfield 20, 3), (60, .bipush 12, 2), (62, .iload_n 1, 1), (63, .imul, 1), (64, .iload_n 2, 1), (65, .iadd, 1), (66, .iload_n 3, 1), (67, .iastore, 1), (68, .iconst 1, 1), (69, .ireturn, 1)]
theorem tb_X12_put : ix_tab cX12_put tab_X12_put := by
  unfold ix_tab
  decide +kernel
noncomputable def f_X12_put (n : Nat) (z : ix_Z) (a0 : Nat) (x1 : Int32) (x2 : Int32) (x3 : Int32) (d : ix_D2) : Option (Int32 × ix_D2) :=
  ix_bd2 (f_X12_isRow n z x1 d) (fun r_3 d_1 => ix_if (r_3 = 0) (ix_ck (ix_ok z [11] a0) (ix_bd2 (f_X12_fail n z a0 ((-1001)) d_1) (fun r_28 d_25 => some (r_28, d_25)))) (ix_ck (ix_ok z [11] a0) (ix_bd1 (z.1 a0 5) (fun b_6 => ix_ck (ix_ix z 20 b_6 x1) (ix_if (0 ≤ d_1.1 b_6 (ix_n x1)) (ix_bd2 (f_X12_in n z x2 0 ((d_1.1 b_6 (ix_n x1)) - 1) d_1) (fun r_12 d_10 => ix_if (r_12 = 0) (ix_bd2 (f_X12_fail n z a0 ((-1012)) d_10) (fun r_21 d_19 => some (r_21, d_19))) (ix_bd1 (z.1 a0 6) (fun b_14 => ix_ck (ix_ix z 20 b_14 ((12 * x1) + x2)) (ix_lt (ix_di d_10 b_14 (ix_n ((12 * x1) + x2)) x3) (fun d_17 => some (1, d_17))))))) (ix_bd2 (f_X12_fail n z a0 ((-1011)) d_1) (fun r_24 d_22 => some (r_24, d_22))))))))
set_option maxRecDepth 20000 in
theorem c_X12_put {l : Launch} {K : ix_Cx} (hKp : ix_Kp K) {n : Nat} {z : ix_Z} {a0 : Nat} {x1 : Int32} {x2 : Int32} {x3 : Int32} {d : ix_D2} {r : Int32} {d1 : ix_D2} (h : f_X12_put n z a0 x1 x2 x3 d = some (r, d1)) : ix_M l K yX12_put cX12_put 4 (some .int) 2 42 0 0 [.ref (K.2.2.1 + a0), .int x1, .int x2, .int x3] (ix_w z d) (some (.int r)) (ix_w z d1) := by
  refine ix_met mf_X12_put hKp (Nat.le_of_ble_eq_true rfl) ?_
  intro p e s m args below meth c hr hlk hnm X
  have X : ix_X p s m args c K cX12_put RX12 4 := X
  show ix_G p l e (ix_rm 2 42 0 0) s m args below meth c (MQ below (ix_Post K (some (.int r)) (ix_w z d1)) args s 0 0 (ix_A K)) K 4 0 0 0 [(0, .ref (K.2.2.1 + a0)), (1, .int x1), (2, .int x2), (3, .int x3)] [] (ix_w z d)
  unfold f_X12_put at h
  refine ix_iload_n (i := 1) (j := 1) X (ix_tb_at tb_X12_put 0 rfl) rfl rfl (pc1 := 1) rfl ?_
  obtain ⟨r_3, d_1, h_2, h⟩ := ix_bd2_ex h
  refine ix_callS (As := [.int x1]) (rest := []) X mf_X12_isRow st_X12_isRow ml_RX12_253 ⟨Nat.le_of_ble_eq_true rfl, Nat.le_of_ble_eq_true rfl⟩ ⟨Nat.le_of_ble_eq_true rfl, Nat.le_of_ble_eq_true rfl⟩ rfl (Nat.le_of_ble_eq_true rfl) (ix_tb_at tb_X12_put 1 rfl) (c_X12_isRow hKp h_2) rfl (pc1 := 4) rfl ?_
  refine ix_if_ne (tgt := 15) X (ix_tb_at tb_X12_put 2 rfl) (by decide) (pc1 := 7) rfl (fun q_4 => ?_) (fun q_4 => ?_)
  · have h := ix_iff q_4 h
    refine ix_aload_n (i := 0) (j := 0) X (ix_tb_at tb_X12_put 7 rfl) rfl rfl (pc1 := 16) rfl ?_
    obtain ⟨k_5, h⟩ := ix_ck_some h
    obtain ⟨b_6, q_7, h⟩ := ix_bd1_ex h
    refine iz_getR X fl_RX12_17 k_5 q_7 (ix_tb_at tb_X12_put 8 rfl) (pc1 := 19) rfl ?_
    refine ix_iload_n (i := 1) (j := 1) X (ix_tb_at tb_X12_put 9 rfl) rfl rfl (pc1 := 20) rfl ?_
    obtain ⟨k_8, h⟩ := ix_ck_some h
    refine iz_iald X k_8 (ix_tb_at tb_X12_put 10 rfl) (pc1 := 21) rfl ?_
    refine ix_if_ge (tgt := 32) X (ix_tb_at tb_X12_put 11 rfl) (by decide) (pc1 := 24) rfl (fun q_9 => ?_) (fun q_9 => ?_)
    · have h := ix_ift q_9 h
      refine ix_iload_n (i := 2) (j := 2) X (ix_tb_at tb_X12_put 16 rfl) rfl rfl (pc1 := 33) rfl ?_
      refine ix_iconst (v := 0) X (ix_tb_at tb_X12_put 17 rfl) (by decide) (pc1 := 34) rfl ?_
      refine ix_aload_n (i := 0) (j := 0) X (ix_tb_at tb_X12_put 18 rfl) rfl rfl (pc1 := 35) rfl ?_
      refine iz_getR X fl_RX12_17 k_5 q_7 (ix_tb_at tb_X12_put 19 rfl) (pc1 := 38) rfl ?_
      refine ix_iload_n (i := 1) (j := 1) X (ix_tb_at tb_X12_put 20 rfl) rfl rfl (pc1 := 39) rfl ?_
      refine iz_iald X k_8 (ix_tb_at tb_X12_put 21 rfl) (pc1 := 40) rfl ?_
      refine ix_iconst (v := 1) X (ix_tb_at tb_X12_put 22 rfl) (by decide) (pc1 := 41) rfl ?_
      refine ix_isub X (ix_tb_at tb_X12_put 23 rfl) (pc1 := 42) rfl ?_
      obtain ⟨r_12, d_10, h_11, h⟩ := ix_bd2_ex h
      refine ix_callS (As := [.int x2, .int 0, .int ((d_1.1 b_6 (ix_n x1)) - 1)]) (rest := []) X mf_X12_in st_X12_in ml_RX12_238 ⟨Nat.le_of_ble_eq_true rfl, Nat.le_of_ble_eq_true rfl⟩ ⟨Nat.le_of_ble_eq_true rfl, Nat.le_of_ble_eq_true rfl⟩ rfl (Nat.le_of_ble_eq_true rfl) (ix_tb_at tb_X12_put 24 rfl) (c_X12_in hKp h_11) rfl (pc1 := 45) rfl ?_
      refine ix_if_ne (tgt := 56) X (ix_tb_at tb_X12_put 25 rfl) (by decide) (pc1 := 48) rfl (fun q_13 => ?_) (fun q_13 => ?_)
      · have h := ix_iff q_13 h
        refine ix_aload_n (i := 0) (j := 0) X (ix_tb_at tb_X12_put 30 rfl) rfl rfl (pc1 := 57) rfl ?_
        obtain ⟨b_14, q_15, h⟩ := ix_bd1_ex h
        refine iz_getR X fl_RX12_20 k_5 q_15 (ix_tb_at tb_X12_put 31 rfl) (pc1 := 60) rfl ?_
        refine ix_bipush (v := 12) X (ix_tb_at tb_X12_put 32 rfl) (by decide) (pc1 := 62) rfl ?_
        refine ix_iload_n (i := 1) (j := 1) X (ix_tb_at tb_X12_put 33 rfl) rfl rfl (pc1 := 63) rfl ?_
        refine ix_imul X (ix_tb_at tb_X12_put 34 rfl) (pc1 := 64) rfl ?_
        refine ix_iload_n (i := 2) (j := 2) X (ix_tb_at tb_X12_put 35 rfl) rfl rfl (pc1 := 65) rfl ?_
        refine ix_iadd X (ix_tb_at tb_X12_put 36 rfl) (pc1 := 66) rfl ?_
        refine ix_iload_n (i := 3) (j := 3) X (ix_tb_at tb_X12_put 37 rfl) rfl rfl (pc1 := 67) rfl ?_
        obtain ⟨k_16, h⟩ := ix_ck_some h
        obtain ⟨d_17, e_18, h⟩ := ix_lt_ex h
        refine iz_iast X k_16 (ix_tb_at tb_X12_put 38 rfl) e_18 (pc1 := 68) rfl ?_
        refine ix_iconst (v := 1) X (ix_tb_at tb_X12_put 39 rfl) (by decide) (pc1 := 69) rfl ?_
        exact ix_iret X hr hlk (ix_r2 (f := fun r => some (.int r)) (g := ix_w z) h) (ix_tb_at tb_X12_put 40 rfl)
      · have h := ix_ift q_13 h
        refine ix_aload_n (i := 0) (j := 0) X (ix_tb_at tb_X12_put 26 rfl) rfl rfl (pc1 := 49) rfl ?_
        refine ix_sipush (v := (-1012)) X (ix_tb_at tb_X12_put 27 rfl) (by decide) (pc1 := 52) rfl ?_
        obtain ⟨r_21, d_19, h_20, h⟩ := ix_bd2_ex h
        refine ix_callV (As := [.int ((-1012))]) (rest := []) (ci := 11) (T := TX12) (nf := 116) X mf_X12_fail mi_X12_fail ms_X12_fail rfl (Nat.le_of_ble_eq_true rfl) ml_RX12_242 ⟨Nat.le_of_ble_eq_true rfl, Nat.le_of_ble_eq_true rfl⟩ ⟨Nat.le_of_ble_eq_true rfl, Nat.le_of_ble_eq_true rfl⟩ rfl (Nat.le_of_ble_eq_true rfl) (ix_tb_at tb_X12_put 28 rfl) ⟨k_5.1, List.mem_singleton.mp k_5.2⟩ (c_X12_fail hKp h_20) rfl (pc1 := 55) rfl ?_
        exact ix_iret X hr hlk (ix_r2 (f := fun r => some (.int r)) (g := ix_w z) h) (ix_tb_at tb_X12_put 29 rfl)
    · have h := ix_iff q_9 h
      refine ix_aload_n (i := 0) (j := 0) X (ix_tb_at tb_X12_put 12 rfl) rfl rfl (pc1 := 25) rfl ?_
      refine ix_sipush (v := (-1011)) X (ix_tb_at tb_X12_put 13 rfl) (by decide) (pc1 := 28) rfl ?_
      obtain ⟨r_24, d_22, h_23, h⟩ := ix_bd2_ex h
      refine ix_callV (As := [.int ((-1011))]) (rest := []) (ci := 11) (T := TX12) (nf := 116) X mf_X12_fail mi_X12_fail ms_X12_fail rfl (Nat.le_of_ble_eq_true rfl) ml_RX12_242 ⟨Nat.le_of_ble_eq_true rfl, Nat.le_of_ble_eq_true rfl⟩ ⟨Nat.le_of_ble_eq_true rfl, Nat.le_of_ble_eq_true rfl⟩ rfl (Nat.le_of_ble_eq_true rfl) (ix_tb_at tb_X12_put 14 rfl) ⟨k_5.1, List.mem_singleton.mp k_5.2⟩ (c_X12_fail hKp h_23) rfl (pc1 := 31) rfl ?_
      exact ix_iret X hr hlk (ix_r2 (f := fun r => some (.int r)) (g := ix_w z) h) (ix_tb_at tb_X12_put 15 rfl)
  · have h := ix_ift q_4 h
    refine ix_aload_n (i := 0) (j := 0) X (ix_tb_at tb_X12_put 3 rfl) rfl rfl (pc1 := 8) rfl ?_
    refine ix_sipush (v := (-1001)) X (ix_tb_at tb_X12_put 4 rfl) (by decide) (pc1 := 11) rfl ?_
    obtain ⟨k_27, h⟩ := ix_ck_some h
    obtain ⟨r_28, d_25, h_26, h⟩ := ix_bd2_ex h
    refine ix_callV (As := [.int ((-1001))]) (rest := []) (ci := 11) (T := TX12) (nf := 116) X mf_X12_fail mi_X12_fail ms_X12_fail rfl (Nat.le_of_ble_eq_true rfl) ml_RX12_242 ⟨Nat.le_of_ble_eq_true rfl, Nat.le_of_ble_eq_true rfl⟩ ⟨Nat.le_of_ble_eq_true rfl, Nat.le_of_ble_eq_true rfl⟩ rfl (Nat.le_of_ble_eq_true rfl) (ix_tb_at tb_X12_put 5 rfl) ⟨k_27.1, List.mem_singleton.mp k_27.2⟩ (c_X12_fail hKp h_26) rfl (pc1 := 14) rfl ?_
    exact ix_iret X hr hlk (ix_r2 (f := fun r => some (.int r)) (g := ix_w z) h) (ix_tb_at tb_X12_put 6 rfl)
def tab_X12_get : List (Nat × Instr × Nat) := [(0, .iload_n 1, 1), (1, .invokestatic 253, 3), (4, .ifCond .ne 9, 3), (7, .sipush (-1001), 3), (10, .goto 41, 3), (13, .aload_n 0, 1), (14, .getfield 17, 3), (17, .iload_n 1, 1), (18, .iaload, 1), (19, .ifCond .ge 9, 3), (22, .sipush (-1011), 3), (25, .goto 26, 3), (28, .iload_n 2, 1), (29, .iconst (-1), 1), (30, .aload_n 0, 1), (31, .getfield 17, 3), (34, .iload_n 1, 1), (35, .iaload, 1), (36, .iconst 1, 1), (37, .isub, 1), (38, .invokestatic 238, 3), (41, .ifCond .eq 7, 3), (44, .iconst 0, 1), (45, .goto 6, 3), (48, .sipush (-1012), 3), (51, .istore_n 3, 1), (52, .iload_n 3, 1), (53, .ifCond .ge 15, 3), (56, .aload_n 0, 1), (57, .iload_n 3, 1), (58, .putfield 235, 3), (61, .ldc2_w 257, 3), (64, .iload_n 3, 1), (65, .i2l, 1), (66, .lmul, 1), (67, .lreturn, 1), (68, .iload_n 2, 1), (69, .ifCond .ge 13, 3), (72, .aload_n 0, 1), (73, .getfield 17, 3), (76, .iload_n 1, 1), (77, .iaload, 1), (78, .i2l, 1), (79, .goto 15, 3), (82, .aload_n 0, 1), (83, .getfield 20, 3), (86, .bipush 12, 2), (88, .iload_n 1, 1), (89, .imul, 1), (90, .iload_n 2, 1), (91, .iadd, 1), (92, .iaload, 1), (93, .i2l, 1), (94, .lreturn, 1)]
theorem tb_X12_get : ix_tab cX12_get tab_X12_get := by
  unfold ix_tab
  decide +kernel
noncomputable def f_X12_get_51 (n : Nat) (z : ix_Z)  (a0 : Nat) (x1 : Int32) (x2 : Int32) (s0 : Int32) (d : ix_D2) : Option (Int64 × ix_D2) :=
  ix_if (0 ≤ s0) (ix_if (0 ≤ x2) (ix_ck (ix_ok z [11] a0) (ix_bd1 (z.1 a0 6) (fun b_17 => ix_ck (ix_ix z 20 b_17 ((12 * x1) + x2)) (some ((d.1 b_17 (ix_n ((12 * x1) + x2))).toInt64, d))))) (ix_ck (ix_ok z [11] a0) (ix_bd1 (z.1 a0 5) (fun b_21 => ix_ck (ix_ix z 20 b_21 x1) (some ((d.1 b_21 (ix_n x1)).toInt64, d)))))) (ix_ck (ix_ok z [11] a0) (ix_lt (ix_di d a0 0 s0) (fun d_25 => some (10000000000 * s0.toInt64, d_25))))
noncomputable def f_X12_get (n : Nat) (z : ix_Z) (a0 : Nat) (x1 : Int32) (x2 : Int32) (d : ix_D2) : Option (Int64 × ix_D2) :=
  ix_bd2 (f_X12_isRow n z x1 d) (fun r_3 d_1 => ix_if (r_3 = 0) (f_X12_get_51 n z  a0 x1 x2 ((-1001)) d_1) (ix_ck (ix_ok z [11] a0) (ix_bd1 (z.1 a0 5) (fun b_6 => ix_ck (ix_ix z 20 b_6 x1) (ix_if (0 ≤ d_1.1 b_6 (ix_n x1)) (ix_bd2 (f_X12_in n z x2 ((-1)) ((d_1.1 b_6 (ix_n x1)) - 1) d_1) (fun r_12 d_10 => ix_if (r_12 = 0) (f_X12_get_51 n z  a0 x1 x2 ((-1012)) d_10) (f_X12_get_51 n z  a0 x1 x2 0 d_10))) (f_X12_get_51 n z  a0 x1 x2 ((-1011)) d_1))))))
set_option maxRecDepth 20000 in
theorem t_X12_get_51 {l : Launch} {p : Program} {e : Env} {s : State} {m : MethodId} {args : Array Value} {below : List Frame} {meth : Method} {c : Code} {K : ix_Cx} (hKp : ix_Kp K) {n : Nat} {z : ix_Z} (X : ix_X p s m args c K cX12_get RX12 4) (hr : meth.sig.returnType = (some .long)) (hlk : meth.locks = false)  {a0 : Nat} {x1 : Int32} {x2 : Int32} {s0 : Int32} {r : Int64} {d1 : ix_D2}  {d : ix_D2} (h : f_X12_get_51 n z  a0 x1 x2 s0 d = some (r, d1)) : ix_G p l e (ix_rm 2 42 0 0) s m args below meth c (MQ below (ix_Post K (some (.long r)) (ix_w z d1)) args s 0 0 (ix_A K)) K 4 0 0 51 [(0, .ref (K.2.2.1 + a0)), (1, .int x1), (2, .int x2)] [.int s0] (ix_w z d) := by
  unfold f_X12_get_51 at h
  refine ix_istore_n (i := 3) (L1 := [(3, .int s0), (0, .ref (K.2.2.1 + a0)), (1, .int x1), (2, .int x2)]) X (ix_tb_at tb_X12_get 25 rfl) rfl (Nat.le_of_ble_eq_true rfl) rfl (pc1 := 52) rfl ?_
  refine ix_iload_n (i := 3) (j := 0) X (ix_tb_at tb_X12_get 26 rfl) rfl rfl (pc1 := 53) rfl ?_
  refine ix_if_ge (tgt := 68) X (ix_tb_at tb_X12_get 27 rfl) (by decide) (pc1 := 56) rfl (fun q_14 => ?_) (fun q_14 => ?_)
  · have h := ix_ift q_14 h
    refine ix_iload_n (i := 2) (j := 3) X (ix_tb_at tb_X12_get 36 rfl) rfl rfl (pc1 := 69) rfl ?_
    refine ix_if_ge (tgt := 82) X (ix_tb_at tb_X12_get 37 rfl) (by decide) (pc1 := 72) rfl (fun q_15 => ?_) (fun q_15 => ?_)
    · have h := ix_ift q_15 h
      refine ix_aload_n (i := 0) (j := 1) X (ix_tb_at tb_X12_get 44 rfl) rfl rfl (pc1 := 83) rfl ?_
      obtain ⟨k_16, h⟩ := ix_ck_some h
      obtain ⟨b_17, q_18, h⟩ := ix_bd1_ex h
      refine iz_getR X fl_RX12_20 k_16 q_18 (ix_tb_at tb_X12_get 45 rfl) (pc1 := 86) rfl ?_
      refine ix_bipush (v := 12) X (ix_tb_at tb_X12_get 46 rfl) (by decide) (pc1 := 88) rfl ?_
      refine ix_iload_n (i := 1) (j := 2) X (ix_tb_at tb_X12_get 47 rfl) rfl rfl (pc1 := 89) rfl ?_
      refine ix_imul X (ix_tb_at tb_X12_get 48 rfl) (pc1 := 90) rfl ?_
      refine ix_iload_n (i := 2) (j := 3) X (ix_tb_at tb_X12_get 49 rfl) rfl rfl (pc1 := 91) rfl ?_
      refine ix_iadd X (ix_tb_at tb_X12_get 50 rfl) (pc1 := 92) rfl ?_
      obtain ⟨k_19, h⟩ := ix_ck_some h
      refine iz_iald X k_19 (ix_tb_at tb_X12_get 51 rfl) (pc1 := 93) rfl ?_
      refine ix_i2l X (ix_tb_at tb_X12_get 52 rfl) (pc1 := 94) rfl ?_
      exact ix_lret X hr hlk (ix_r2 (f := fun r => some (.long r)) (g := ix_w z) h) (ix_tb_at tb_X12_get 53 rfl)
    · have h := ix_iff q_15 h
      refine ix_aload_n (i := 0) (j := 1) X (ix_tb_at tb_X12_get 38 rfl) rfl rfl (pc1 := 73) rfl ?_
      obtain ⟨k_20, h⟩ := ix_ck_some h
      obtain ⟨b_21, q_22, h⟩ := ix_bd1_ex h
      refine iz_getR X fl_RX12_17 k_20 q_22 (ix_tb_at tb_X12_get 39 rfl) (pc1 := 76) rfl ?_
      refine ix_iload_n (i := 1) (j := 2) X (ix_tb_at tb_X12_get 40 rfl) rfl rfl (pc1 := 77) rfl ?_
      obtain ⟨k_23, h⟩ := ix_ck_some h
      refine iz_iald X k_23 (ix_tb_at tb_X12_get 41 rfl) (pc1 := 78) rfl ?_
      refine ix_i2l X (ix_tb_at tb_X12_get 42 rfl) (pc1 := 79) rfl ?_
      refine ix_goto (tgt := 94) X (ix_tb_at tb_X12_get 43 rfl) (by decide) ?_
      exact ix_lret X hr hlk (ix_r2 (f := fun r => some (.long r)) (g := ix_w z) h) (ix_tb_at tb_X12_get 53 rfl)
  · have h := ix_iff q_14 h
    refine ix_aload_n (i := 0) (j := 1) X (ix_tb_at tb_X12_get 28 rfl) rfl rfl (pc1 := 57) rfl ?_
    refine ix_iload_n (i := 3) (j := 0) X (ix_tb_at tb_X12_get 29 rfl) rfl rfl (pc1 := 58) rfl ?_
    obtain ⟨k_24, h⟩ := ix_ck_some h
    obtain ⟨d_25, e_26, h⟩ := ix_lt_ex h
    refine iz_putI X fp_RX12_235 k_24 (ix_tb_at tb_X12_get 30 rfl) e_26 (pc1 := 61) rfl ?_
    refine ix_ldc2 (pl := 1943) (v := 10000000000) X (ix_tb_at tb_X12_get 31 rfl) (by decide +kernel) (pc1 := 64) rfl ?_
    refine ix_iload_n (i := 3) (j := 0) X (ix_tb_at tb_X12_get 32 rfl) rfl rfl (pc1 := 65) rfl ?_
    refine ix_i2l X (ix_tb_at tb_X12_get 33 rfl) (pc1 := 66) rfl ?_
    refine ix_lmul X (ix_tb_at tb_X12_get 34 rfl) (pc1 := 67) rfl ?_
    exact ix_lret X hr hlk (ix_r2 (f := fun r => some (.long r)) (g := ix_w z) h) (ix_tb_at tb_X12_get 35 rfl)
set_option maxRecDepth 20000 in
theorem c_X12_get {l : Launch} {K : ix_Cx} (hKp : ix_Kp K) {n : Nat} {z : ix_Z} {a0 : Nat} {x1 : Int32} {x2 : Int32} {d : ix_D2} {r : Int64} {d1 : ix_D2} (h : f_X12_get n z a0 x1 x2 d = some (r, d1)) : ix_M l K yX12_get cX12_get 4 (some .long) 2 42 0 0 [.ref (K.2.2.1 + a0), .int x1, .int x2] (ix_w z d) (some (.long r)) (ix_w z d1) := by
  refine ix_met mf_X12_get hKp (Nat.le_of_ble_eq_true rfl) ?_
  intro p e s m args below meth c hr hlk hnm X
  have X : ix_X p s m args c K cX12_get RX12 4 := X
  show ix_G p l e (ix_rm 2 42 0 0) s m args below meth c (MQ below (ix_Post K (some (.long r)) (ix_w z d1)) args s 0 0 (ix_A K)) K 4 0 0 0 [(0, .ref (K.2.2.1 + a0)), (1, .int x1), (2, .int x2)] [] (ix_w z d)
  unfold f_X12_get at h
  refine ix_iload_n (i := 1) (j := 1) X (ix_tb_at tb_X12_get 0 rfl) rfl rfl (pc1 := 1) rfl ?_
  obtain ⟨r_3, d_1, h_2, h⟩ := ix_bd2_ex h
  refine ix_callS (As := [.int x1]) (rest := []) X mf_X12_isRow st_X12_isRow ml_RX12_253 ⟨Nat.le_of_ble_eq_true rfl, Nat.le_of_ble_eq_true rfl⟩ ⟨Nat.le_of_ble_eq_true rfl, Nat.le_of_ble_eq_true rfl⟩ rfl (Nat.le_of_ble_eq_true rfl) (ix_tb_at tb_X12_get 1 rfl) (c_X12_isRow hKp h_2) rfl (pc1 := 4) rfl ?_
  refine ix_if_ne (tgt := 13) X (ix_tb_at tb_X12_get 2 rfl) (by decide) (pc1 := 7) rfl (fun q_4 => ?_) (fun q_4 => ?_)
  · have h := ix_iff q_4 h
    refine ix_aload_n (i := 0) (j := 0) X (ix_tb_at tb_X12_get 5 rfl) rfl rfl (pc1 := 14) rfl ?_
    obtain ⟨k_5, h⟩ := ix_ck_some h
    obtain ⟨b_6, q_7, h⟩ := ix_bd1_ex h
    refine iz_getR X fl_RX12_17 k_5 q_7 (ix_tb_at tb_X12_get 6 rfl) (pc1 := 17) rfl ?_
    refine ix_iload_n (i := 1) (j := 1) X (ix_tb_at tb_X12_get 7 rfl) rfl rfl (pc1 := 18) rfl ?_
    obtain ⟨k_8, h⟩ := ix_ck_some h
    refine iz_iald X k_8 (ix_tb_at tb_X12_get 8 rfl) (pc1 := 19) rfl ?_
    refine ix_if_ge (tgt := 28) X (ix_tb_at tb_X12_get 9 rfl) (by decide) (pc1 := 22) rfl (fun q_9 => ?_) (fun q_9 => ?_)
    · have h := ix_ift q_9 h
      refine ix_iload_n (i := 2) (j := 2) X (ix_tb_at tb_X12_get 12 rfl) rfl rfl (pc1 := 29) rfl ?_
      refine ix_iconst (v := (-1)) X (ix_tb_at tb_X12_get 13 rfl) (by decide) (pc1 := 30) rfl ?_
      refine ix_aload_n (i := 0) (j := 0) X (ix_tb_at tb_X12_get 14 rfl) rfl rfl (pc1 := 31) rfl ?_
      refine iz_getR X fl_RX12_17 k_5 q_7 (ix_tb_at tb_X12_get 15 rfl) (pc1 := 34) rfl ?_
      refine ix_iload_n (i := 1) (j := 1) X (ix_tb_at tb_X12_get 16 rfl) rfl rfl (pc1 := 35) rfl ?_
      refine iz_iald X k_8 (ix_tb_at tb_X12_get 17 rfl) (pc1 := 36) rfl ?_
      refine ix_iconst (v := 1) X (ix_tb_at tb_X12_get 18 rfl) (by decide) (pc1 := 37) rfl ?_
      refine ix_isub X (ix_tb_at tb_X12_get 19 rfl) (pc1 := 38) rfl ?_
      obtain ⟨r_12, d_10, h_11, h⟩ := ix_bd2_ex h
      refine ix_callS (As := [.int x2, .int ((-1)), .int ((d_1.1 b_6 (ix_n x1)) - 1)]) (rest := []) X mf_X12_in st_X12_in ml_RX12_238 ⟨Nat.le_of_ble_eq_true rfl, Nat.le_of_ble_eq_true rfl⟩ ⟨Nat.le_of_ble_eq_true rfl, Nat.le_of_ble_eq_true rfl⟩ rfl (Nat.le_of_ble_eq_true rfl) (ix_tb_at tb_X12_get 20 rfl) (c_X12_in hKp h_11) rfl (pc1 := 41) rfl ?_
      refine ix_if_eq (tgt := 48) X (ix_tb_at tb_X12_get 21 rfl) (by decide) (pc1 := 44) rfl (fun q_13 => ?_) (fun q_13 => ?_)
      · have h := ix_ift q_13 h
        refine ix_sipush (v := (-1012)) X (ix_tb_at tb_X12_get 24 rfl) (by decide) (pc1 := 51) rfl ?_
        refine ix_sub (L1 := [(0, .ref (K.2.2.1 + a0)), (1, .int x1), (2, .int x2)]) [0, 1, 2] rfl ?_
        exact t_X12_get_51 hKp X hr hlk  h
      · have h := ix_iff q_13 h
        refine ix_iconst (v := 0) X (ix_tb_at tb_X12_get 22 rfl) (by decide) (pc1 := 45) rfl ?_
        refine ix_goto (tgt := 51) X (ix_tb_at tb_X12_get 23 rfl) (by decide) ?_
        refine ix_sub (L1 := [(0, .ref (K.2.2.1 + a0)), (1, .int x1), (2, .int x2)]) [0, 1, 2] rfl ?_
        exact t_X12_get_51 hKp X hr hlk  h
    · have h := ix_iff q_9 h
      refine ix_sipush (v := (-1011)) X (ix_tb_at tb_X12_get 10 rfl) (by decide) (pc1 := 25) rfl ?_
      refine ix_goto (tgt := 51) X (ix_tb_at tb_X12_get 11 rfl) (by decide) ?_
      refine ix_sub (L1 := [(0, .ref (K.2.2.1 + a0)), (1, .int x1), (2, .int x2)]) [0, 1, 2] rfl ?_
      exact t_X12_get_51 hKp X hr hlk  h
  · have h := ix_ift q_4 h
    refine ix_sipush (v := (-1001)) X (ix_tb_at tb_X12_get 3 rfl) (by decide) (pc1 := 10) rfl ?_
    refine ix_goto (tgt := 51) X (ix_tb_at tb_X12_get 4 rfl) (by decide) ?_
    refine ix_sub (L1 := [(0, .ref (K.2.2.1 + a0)), (1, .int x1), (2, .int x2)]) [0, 1, 2] rfl ?_
    exact t_X12_get_51 hKp X hr hlk  h
def tab_X12_copy : List (Nat × Instr × Nat) := [(0, .iload_n 1, 1), (1, .invokestatic 253, 3), (4, .ifCond .eq 10, 3), (7, .iload_n 3, 1), (8, .invokestatic 253, 3), (11, .ifCond .ne 11, 3), (14, .aload_n 0, 1), (15, .sipush (-1001), 3), (18, .invokevirtual 242, 3), (21, .ireturn, 1), (22, .aload_n 0, 1), (23, .getfield 17, 3), (26, .iload_n 1, 1), (27, .iaload, 1), (28, .ifCond .lt 12, 3), (31, .aload_n 0, 1), (32, .getfield 17, 3), (35, .iload_n 3, 1), (36, .iaload, 1), (37, .ifCond .ge 11, 3), (40, .aload_n 0, 1), (41, .sipush (-1011), 3), (44, .invokevirtual 242, 3), (47, .ireturn, 1), (48, .iload_n 2, 1), (49, .iconst 0, 1), (50, .aload_n 0, 1), (51, .getfield 17, 3), (54, .iload_n 1, 1), (55, .iaload, 1), (56, .invokestatic 238, 3), (59, .ifCond .eq 50, 3), (62, .iload 4, 2), (64, .iconst 0, 1), (65, .aload_n 0, 1), (66, .getfield 17, 3), (69, .iload_n 3, 1), (70, .iaload, 1), (71, .invokestatic 238, 3), (74, .ifCond .eq 35, 3), (77, .iload 5, 2), (79, .ifCond .lt 30, 3), (82, .iload 5, 2), (84, .aload_n 0, 1), (85, .getfield 17, 3), (88, .iload_n 1, 1), (89, .iaload, 1), (90, .iload_n 2, 1), (91, .isub, 1), (92, .if_icmp .gt 17, 3), (95, .iload 5, 2), (97, .aload_n 0, 1), (98, .getfield 17, 3), (101, .iload_n 3, 1), (102, .iaload, 1), (103, .iload 4, 2), (105, .isub, 1), (106, .if_icmp .le 11, 3), (109, .aload_n 0, 1), (110, .sipush (-1012), 3), (113, .invokevirtual 242, 3), (116, .ireturn, 1), (117, .iconst 0, 1), (118, .istore 6, 2), (120, .iload 6, 2), (122, .iload 5, 2), (124, .if_icmp .ge 30, 3), (127, .aload_n 0, 1), (128, .getfield 80, 3), (131, .iload 6, 2), (133, .aload_n 0, 1), (134, .getfield 20, 3), (137, .bipush 12, 2), (139, .iload_n 1, 1), (140, .imul, 1), (141, .iload_n 2, 1), (142, .iadd, 1), (143, .iload 6, 2), (145, .iadd, 1), (146, .iaload, 1), (147, .iastore, 1), (148, .iinc 6 1, 3), (151, .goto (-31), 3), (154, .iconst 0, 1), (155, .istore 6, 2), (157, .iload 6, 2), (159, .iload 5, 2), (161, .if_icmp .ge 31, 3), (164, .aload_n 0, 1), (165, .getfield 20, 3), (168, .bipush 12, 2), (170, .iload_n 3, 1), (171, .imul, 1), (172, .iload 4, 2), (174, .iadd, 1), (175, .iload 6, 2), (177, .iadd, 1), (178, .aload_n 0, 1), (179, .getfield 80, 3), (182, .iload 6, 2), (184, .iaload, 1), (185, .iastore, 1), (186, .iinc 6 1, 3), (189, .goto (-32), 3), (192, .iload 5, 2), (194, .ireturn, 1)]
theorem tb_X12_copy : ix_tab cX12_copy tab_X12_copy := by
  unfold ix_tab
  decide +kernel
noncomputable def f_X12_copy_14 (n : Nat) (z : ix_Z)  (a0 : Nat) (d : ix_D2) : Option (Int32 × ix_D2) :=
  ix_ck (ix_ok z [11] a0) (ix_bd2 (f_X12_fail n z a0 ((-1001)) d) (fun r_8 d_5 => some (r_8, d_5)))
noncomputable def f_X12_copy_40 (n : Nat) (z : ix_Z)  (a0 : Nat) (d : ix_D2) : Option (Int32 × ix_D2) :=
  ix_ck (ix_ok z [11] a0) (ix_bd2 (f_X12_fail n z a0 ((-1011)) d) (fun r_21 d_18 => some (r_21, d_18)))
noncomputable def f_X12_copy_109 (n : Nat) (z : ix_Z)  (a0 : Nat) (d : ix_D2) : Option (Int32 × ix_D2) :=
  ix_ck (ix_ok z [11] a0) (ix_bd2 (f_X12_fail n z a0 ((-1012)) d) (fun r_31 d_28 => some (r_31, d_28)))
noncomputable def b_X12_copy_157 (n : Nat) (z : ix_Z)  (a0 : Nat) (x3 : Int32) (x4 : Int32) (x5 : Int32) (rec157 : Int32 → ix_D2 → Option (Int32 × ix_D2)) (x6 : Int32) (d : ix_D2) : Option (Int32 × ix_D2) :=
  ix_if (x5 ≤ x6) (some (x5, d)) (ix_ck (ix_ok z [11] a0) (ix_bd1 (z.1 a0 6) (fun b_42 => ix_bd1 (z.1 a0 35) (fun b_44 => ix_ck (ix_ix z 20 b_44 x6) (ix_ck (ix_ix z 20 b_42 (((12 * x3) + x4) + x6)) (ix_lt (ix_di d b_42 (ix_n (((12 * x3) + x4) + x6)) (d.1 b_44 (ix_n x6))) (fun d_48 => ix_lt (x6 + 1) (fun x6_50 => rec157 x6_50 d_48))))))))
noncomputable def f_X12_copy_157 (n : Nat) (z : ix_Z)  (a0 : Nat) (x3 : Int32) (x4 : Int32) (x5 : Int32) (x6 : Int32) (d : ix_D2) : Option (Int32 × ix_D2) := ix_fix (b_X12_copy_157 n z  a0 x3 x4 x5) (fun _ _ => none) n x6 d
noncomputable def b_X12_copy_120 (n : Nat) (z : ix_Z)  (a0 : Nat) (x1 : Int32) (x2 : Int32) (x3 : Int32) (x4 : Int32) (x5 : Int32) (rec120 : Int32 → ix_D2 → Option (Int32 × ix_D2)) (x6 : Int32) (d : ix_D2) : Option (Int32 × ix_D2) :=
  ix_if (x5 ≤ x6) (f_X12_copy_157 n z  a0 x3 x4 x5 0 d) (ix_ck (ix_ok z [11] a0) (ix_bd1 (z.1 a0 35) (fun b_53 => ix_bd1 (z.1 a0 6) (fun b_55 => ix_ck (ix_ix z 20 b_55 (((12 * x1) + x2) + x6)) (ix_ck (ix_ix z 20 b_53 x6) (ix_lt (ix_di d b_53 (ix_n x6) (d.1 b_55 (ix_n (((12 * x1) + x2) + x6)))) (fun d_59 => ix_lt (x6 + 1) (fun x6_61 => rec120 x6_61 d_59))))))))
noncomputable def f_X12_copy_120 (n : Nat) (z : ix_Z)  (a0 : Nat) (x1 : Int32) (x2 : Int32) (x3 : Int32) (x4 : Int32) (x5 : Int32) (x6 : Int32) (d : ix_D2) : Option (Int32 × ix_D2) := ix_fix (b_X12_copy_120 n z  a0 x1 x2 x3 x4 x5) (fun _ _ => none) n x6 d
noncomputable def f_X12_copy (n : Nat) (z : ix_Z) (a0 : Nat) (x1 : Int32) (x2 : Int32) (x3 : Int32) (x4 : Int32) (x5 : Int32) (d : ix_D2) : Option (Int32 × ix_D2) :=
  ix_bd2 (f_X12_isRow n z x1 d) (fun r_3 d_1 => ix_if (r_3 = 0) (f_X12_copy_14 n z  a0 d_1) (ix_bd2 (f_X12_isRow n z x3 d_1) (fun r_11 d_9 => ix_if (r_11 = 0) (f_X12_copy_14 n z  a0 d_9) (ix_ck (ix_ok z [11] a0) (ix_bd1 (z.1 a0 5) (fun b_14 => ix_ck (ix_ix z 20 b_14 x1) (ix_if (d_9.1 b_14 (ix_n x1) < 0) (f_X12_copy_40 n z  a0 d_9) (ix_ck (ix_ix z 20 b_14 x3) (ix_if (0 ≤ d_9.1 b_14 (ix_n x3)) (ix_bd2 (f_X12_in n z x2 0 (d_9.1 b_14 (ix_n x1)) d_9) (fun r_26 d_24 => ix_if (r_26 = 0) (f_X12_copy_109 n z  a0 d_24) (ix_bd2 (f_X12_in n z x4 0 (d_24.1 b_14 (ix_n x3)) d_24) (fun r_34 d_32 => ix_if (r_34 = 0) (f_X12_copy_109 n z  a0 d_32) (ix_if (x5 < 0) (f_X12_copy_109 n z  a0 d_32) (ix_if ((d_32.1 b_14 (ix_n x1)) - x2 < x5) (f_X12_copy_109 n z  a0 d_32) (ix_if (x5 ≤ (d_32.1 b_14 (ix_n x3)) - x4) (f_X12_copy_120 n z  a0 x1 x2 x3 x4 x5 0 d_32) (f_X12_copy_109 n z  a0 d_32)))))))) (f_X12_copy_40 n z  a0 d_9))))))))))
set_option maxRecDepth 20000 in
theorem t_X12_copy_14 {l : Launch} {p : Program} {e : Env} {s : State} {m : MethodId} {args : Array Value} {below : List Frame} {meth : Method} {c : Code} {K : ix_Cx} (hKp : ix_Kp K) {n : Nat} {z : ix_Z} (X : ix_X p s m args c K cX12_copy RX12 7) (hr : meth.sig.returnType = (some .int)) (hlk : meth.locks = false)  {a0 : Nat} {r : Int32} {d1 : ix_D2}  {d : ix_D2} (h : f_X12_copy_14 n z  a0 d = some (r, d1)) : ix_G p l e (ix_rm 2 42 0 0) s m args below meth c (MQ below (ix_Post K (some (.int r)) (ix_w z d1)) args s 0 0 (ix_A K)) K 7 0 0 14 [(0, .ref (K.2.2.1 + a0))] [] (ix_w z d) := by
  unfold f_X12_copy_14 at h
  refine ix_aload_n (i := 0) (j := 0) X (ix_tb_at tb_X12_copy 6 rfl) rfl rfl (pc1 := 15) rfl ?_
  refine ix_sipush (v := (-1001)) X (ix_tb_at tb_X12_copy 7 rfl) (by decide) (pc1 := 18) rfl ?_
  obtain ⟨k_7, h⟩ := ix_ck_some h
  obtain ⟨r_8, d_5, h_6, h⟩ := ix_bd2_ex h
  refine ix_callV (As := [.int ((-1001))]) (rest := []) (ci := 11) (T := TX12) (nf := 116) X mf_X12_fail mi_X12_fail ms_X12_fail rfl (Nat.le_of_ble_eq_true rfl) ml_RX12_242 ⟨Nat.le_of_ble_eq_true rfl, Nat.le_of_ble_eq_true rfl⟩ ⟨Nat.le_of_ble_eq_true rfl, Nat.le_of_ble_eq_true rfl⟩ rfl (Nat.le_of_ble_eq_true rfl) (ix_tb_at tb_X12_copy 8 rfl) ⟨k_7.1, List.mem_singleton.mp k_7.2⟩ (c_X12_fail hKp h_6) rfl (pc1 := 21) rfl ?_
  exact ix_iret X hr hlk (ix_r2 (f := fun r => some (.int r)) (g := ix_w z) h) (ix_tb_at tb_X12_copy 9 rfl)
set_option maxRecDepth 20000 in
theorem t_X12_copy_40 {l : Launch} {p : Program} {e : Env} {s : State} {m : MethodId} {args : Array Value} {below : List Frame} {meth : Method} {c : Code} {K : ix_Cx} (hKp : ix_Kp K) {n : Nat} {z : ix_Z} (X : ix_X p s m args c K cX12_copy RX12 7) (hr : meth.sig.returnType = (some .int)) (hlk : meth.locks = false)  {a0 : Nat} {r : Int32} {d1 : ix_D2}  {d : ix_D2} (h : f_X12_copy_40 n z  a0 d = some (r, d1)) : ix_G p l e (ix_rm 2 42 0 0) s m args below meth c (MQ below (ix_Post K (some (.int r)) (ix_w z d1)) args s 0 0 (ix_A K)) K 7 0 0 40 [(0, .ref (K.2.2.1 + a0))] [] (ix_w z d) := by
  unfold f_X12_copy_40 at h
  refine ix_aload_n (i := 0) (j := 0) X (ix_tb_at tb_X12_copy 20 rfl) rfl rfl (pc1 := 41) rfl ?_
  refine ix_sipush (v := (-1011)) X (ix_tb_at tb_X12_copy 21 rfl) (by decide) (pc1 := 44) rfl ?_
  obtain ⟨k_20, h⟩ := ix_ck_some h
  obtain ⟨r_21, d_18, h_19, h⟩ := ix_bd2_ex h
  refine ix_callV (As := [.int ((-1011))]) (rest := []) (ci := 11) (T := TX12) (nf := 116) X mf_X12_fail mi_X12_fail ms_X12_fail rfl (Nat.le_of_ble_eq_true rfl) ml_RX12_242 ⟨Nat.le_of_ble_eq_true rfl, Nat.le_of_ble_eq_true rfl⟩ ⟨Nat.le_of_ble_eq_true rfl, Nat.le_of_ble_eq_true rfl⟩ rfl (Nat.le_of_ble_eq_true rfl) (ix_tb_at tb_X12_copy 22 rfl) ⟨k_20.1, List.mem_singleton.mp k_20.2⟩ (c_X12_fail hKp h_19) rfl (pc1 := 47) rfl ?_
  exact ix_iret X hr hlk (ix_r2 (f := fun r => some (.int r)) (g := ix_w z) h) (ix_tb_at tb_X12_copy 23 rfl)
set_option maxRecDepth 20000 in
theorem t_X12_copy_109 {l : Launch} {p : Program} {e : Env} {s : State} {m : MethodId} {args : Array Value} {below : List Frame} {meth : Method} {c : Code} {K : ix_Cx} (hKp : ix_Kp K) {n : Nat} {z : ix_Z} (X : ix_X p s m args c K cX12_copy RX12 7) (hr : meth.sig.returnType = (some .int)) (hlk : meth.locks = false)  {a0 : Nat} {r : Int32} {d1 : ix_D2}  {d : ix_D2} (h : f_X12_copy_109 n z  a0 d = some (r, d1)) : ix_G p l e (ix_rm 2 42 0 0) s m args below meth c (MQ below (ix_Post K (some (.int r)) (ix_w z d1)) args s 0 0 (ix_A K)) K 7 0 0 109 [(0, .ref (K.2.2.1 + a0))] [] (ix_w z d) := by
  unfold f_X12_copy_109 at h
  refine ix_aload_n (i := 0) (j := 0) X (ix_tb_at tb_X12_copy 58 rfl) rfl rfl (pc1 := 110) rfl ?_
  refine ix_sipush (v := (-1012)) X (ix_tb_at tb_X12_copy 59 rfl) (by decide) (pc1 := 113) rfl ?_
  obtain ⟨k_30, h⟩ := ix_ck_some h
  obtain ⟨r_31, d_28, h_29, h⟩ := ix_bd2_ex h
  refine ix_callV (As := [.int ((-1012))]) (rest := []) (ci := 11) (T := TX12) (nf := 116) X mf_X12_fail mi_X12_fail ms_X12_fail rfl (Nat.le_of_ble_eq_true rfl) ml_RX12_242 ⟨Nat.le_of_ble_eq_true rfl, Nat.le_of_ble_eq_true rfl⟩ ⟨Nat.le_of_ble_eq_true rfl, Nat.le_of_ble_eq_true rfl⟩ rfl (Nat.le_of_ble_eq_true rfl) (ix_tb_at tb_X12_copy 60 rfl) ⟨k_30.1, List.mem_singleton.mp k_30.2⟩ (c_X12_fail hKp h_29) rfl (pc1 := 116) rfl ?_
  exact ix_iret X hr hlk (ix_r2 (f := fun r => some (.int r)) (g := ix_w z) h) (ix_tb_at tb_X12_copy 61 rfl)
set_option maxRecDepth 20000 in
theorem tb_X12_copy_157 {l : Launch} {p : Program} {e : Env} {s : State} {m : MethodId} {args : Array Value} {below : List Frame} {meth : Method} {c : Code} {K : ix_Cx} (hKp : ix_Kp K) {n : Nat} {z : ix_Z} (X : ix_X p s m args c K cX12_copy RX12 7) (hr : meth.sig.returnType = (some .int)) (hlk : meth.locks = false)  {a0 : Nat} {x3 : Int32} {x4 : Int32} {x5 : Int32} {rec157 : Int32 → ix_D2 → Option (Int32 × ix_D2)} {r : Int32} {d1 : ix_D2} (hrec157 : ∀ (x6 : Int32) (d : ix_D2), rec157 x6 d = some (r, d1) → ix_G p l e (ix_rm 2 42 0 0) s m args below meth c (MQ below (ix_Post K (some (.int r)) (ix_w z d1)) args s 0 0 (ix_A K)) K 7 0 0 157 [(0, .ref (K.2.2.1 + a0)), (3, .int x3), (4, .int x4), (5, .int x5), (6, .int x6)] [] (ix_w z d)) {x6 : Int32} {d : ix_D2} (h : b_X12_copy_157 n z  a0 x3 x4 x5 rec157 x6 d = some (r, d1)) : ix_G p l e (ix_rm 2 42 0 0) s m args below meth c (MQ below (ix_Post K (some (.int r)) (ix_w z d1)) args s 0 0 (ix_A K)) K 7 0 0 157 [(0, .ref (K.2.2.1 + a0)), (3, .int x3), (4, .int x4), (5, .int x5), (6, .int x6)] [] (ix_w z d) := by
  unfold b_X12_copy_157 at h
  refine ix_iload (i := 6) (j := 4) X (ix_tb_at tb_X12_copy 85 rfl) rfl (pc1 := 159) rfl ?_
  refine ix_iload (i := 5) (j := 3) X (ix_tb_at tb_X12_copy 86 rfl) rfl (pc1 := 161) rfl ?_
  refine ix_icmp_ge (tgt := 192) X (ix_tb_at tb_X12_copy 87 rfl) (by decide) (pc1 := 164) rfl (fun q_40 => ?_) (fun q_40 => ?_)
  · have h := ix_ift q_40 h
    refine ix_iload (i := 5) (j := 3) X (ix_tb_at tb_X12_copy 104 rfl) rfl (pc1 := 194) rfl ?_
    exact ix_iret X hr hlk (ix_r2 (f := fun r => some (.int r)) (g := ix_w z) h) (ix_tb_at tb_X12_copy 105 rfl)
  · have h := ix_iff q_40 h
    refine ix_aload_n (i := 0) (j := 0) X (ix_tb_at tb_X12_copy 88 rfl) rfl rfl (pc1 := 165) rfl ?_
    obtain ⟨k_41, h⟩ := ix_ck_some h
    obtain ⟨b_42, q_43, h⟩ := ix_bd1_ex h
    refine iz_getR X fl_RX12_20 k_41 q_43 (ix_tb_at tb_X12_copy 89 rfl) (pc1 := 168) rfl ?_
    refine ix_bipush (v := 12) X (ix_tb_at tb_X12_copy 90 rfl) (by decide) (pc1 := 170) rfl ?_
    refine ix_iload_n (i := 3) (j := 1) X (ix_tb_at tb_X12_copy 91 rfl) rfl rfl (pc1 := 171) rfl ?_
    refine ix_imul X (ix_tb_at tb_X12_copy 92 rfl) (pc1 := 172) rfl ?_
    refine ix_iload (i := 4) (j := 2) X (ix_tb_at tb_X12_copy 93 rfl) rfl (pc1 := 174) rfl ?_
    refine ix_iadd X (ix_tb_at tb_X12_copy 94 rfl) (pc1 := 175) rfl ?_
    refine ix_iload (i := 6) (j := 4) X (ix_tb_at tb_X12_copy 95 rfl) rfl (pc1 := 177) rfl ?_
    refine ix_iadd X (ix_tb_at tb_X12_copy 96 rfl) (pc1 := 178) rfl ?_
    refine ix_aload_n (i := 0) (j := 0) X (ix_tb_at tb_X12_copy 97 rfl) rfl rfl (pc1 := 179) rfl ?_
    obtain ⟨b_44, q_45, h⟩ := ix_bd1_ex h
    refine iz_getR X fl_RX12_80 k_41 q_45 (ix_tb_at tb_X12_copy 98 rfl) (pc1 := 182) rfl ?_
    refine ix_iload (i := 6) (j := 4) X (ix_tb_at tb_X12_copy 99 rfl) rfl (pc1 := 184) rfl ?_
    obtain ⟨k_46, h⟩ := ix_ck_some h
    refine iz_iald X k_46 (ix_tb_at tb_X12_copy 100 rfl) (pc1 := 185) rfl ?_
    obtain ⟨k_47, h⟩ := ix_ck_some h
    obtain ⟨d_48, e_49, h⟩ := ix_lt_ex h
    refine iz_iast X k_47 (ix_tb_at tb_X12_copy 101 rfl) e_49 (pc1 := 186) rfl ?_
    obtain ⟨x6_50, e_51, h⟩ := ix_lt_ex h
    refine ix_iinc (i := 6) (j := 4) (v := x6_50) (L1 := [(6, .int x6_50), (0, .ref (K.2.2.1 + a0)), (3, .int x3), (4, .int x4), (5, .int x5)]) X (ix_tb_at tb_X12_copy 102 rfl) rfl (by rw [oi_1]; exact e_51.symm) (Nat.le_of_ble_eq_true rfl) rfl (pc1 := 189) rfl ?_
    refine ix_goto (tgt := 157) X (ix_tb_at tb_X12_copy 103 rfl) (by decide) ?_
    refine ix_sub (L1 := [(0, .ref (K.2.2.1 + a0)), (3, .int x3), (4, .int x4), (5, .int x5), (6, .int x6_50)]) [1, 2, 3, 4, 0] rfl ?_
    exact hrec157 x6_50 d_48 h
theorem t_X12_copy_157 {l : Launch} {p : Program} {e : Env} {s : State} {m : MethodId} {args : Array Value} {below : List Frame} {meth : Method} {c : Code} {K : ix_Cx} (hKp : ix_Kp K) {n : Nat} {z : ix_Z} (X : ix_X p s m args c K cX12_copy RX12 7) (hr : meth.sig.returnType = (some .int)) (hlk : meth.locks = false)  {a0 : Nat} {x3 : Int32} {x4 : Int32} {x5 : Int32} {r : Int32} {d1 : ix_D2}  {x6 : Int32} {d : ix_D2} (h : f_X12_copy_157 n z  a0 x3 x4 x5 x6 d = some (r, d1)) : ix_G p l e (ix_rm 2 42 0 0) s m args below meth c (MQ below (ix_Post K (some (.int r)) (ix_w z d1)) args s 0 0 (ix_A K)) K 7 0 0 157 [(0, .ref (K.2.2.1 + a0)), (3, .int x3), (4, .int x4), (5, .int x5), (6, .int x6)] [] (ix_w z d) := by
  have key : ∀ (f : Nat) (x6 : Int32) (d : ix_D2), ix_fix (b_X12_copy_157 n z  a0 x3 x4 x5) (fun _ _ => none) f x6 d = some (r, d1) → ix_G p l e (ix_rm 2 42 0 0) s m args below meth c (MQ below (ix_Post K (some (.int r)) (ix_w z d1)) args s 0 0 (ix_A K)) K 7 0 0 157 [(0, .ref (K.2.2.1 + a0)), (3, .int x3), (4, .int x4), (5, .int x5), (6, .int x6)] [] (ix_w z d) := by
    intro f
    induction f with
    | zero =>
      intro x6 d h
      have h : (none : Option (Int32 × ix_D2)) = some (r, d1) := h
      cases h
    | succ f ih =>
      intro x6 d h
      exact tb_X12_copy_157 hKp X hr hlk (rec157 := ix_fix (b_X12_copy_157 n z  a0 x3 x4 x5) (fun _ _ => none) f)  ih h
  exact key n x6 d h
set_option maxRecDepth 20000 in
theorem tb_X12_copy_120 {l : Launch} {p : Program} {e : Env} {s : State} {m : MethodId} {args : Array Value} {below : List Frame} {meth : Method} {c : Code} {K : ix_Cx} (hKp : ix_Kp K) {n : Nat} {z : ix_Z} (X : ix_X p s m args c K cX12_copy RX12 7) (hr : meth.sig.returnType = (some .int)) (hlk : meth.locks = false)  {a0 : Nat} {x1 : Int32} {x2 : Int32} {x3 : Int32} {x4 : Int32} {x5 : Int32} {rec120 : Int32 → ix_D2 → Option (Int32 × ix_D2)} {r : Int32} {d1 : ix_D2} (hrec120 : ∀ (x6 : Int32) (d : ix_D2), rec120 x6 d = some (r, d1) → ix_G p l e (ix_rm 2 42 0 0) s m args below meth c (MQ below (ix_Post K (some (.int r)) (ix_w z d1)) args s 0 0 (ix_A K)) K 7 0 0 120 [(0, .ref (K.2.2.1 + a0)), (1, .int x1), (2, .int x2), (3, .int x3), (4, .int x4), (5, .int x5), (6, .int x6)] [] (ix_w z d)) {x6 : Int32} {d : ix_D2} (h : b_X12_copy_120 n z  a0 x1 x2 x3 x4 x5 rec120 x6 d = some (r, d1)) : ix_G p l e (ix_rm 2 42 0 0) s m args below meth c (MQ below (ix_Post K (some (.int r)) (ix_w z d1)) args s 0 0 (ix_A K)) K 7 0 0 120 [(0, .ref (K.2.2.1 + a0)), (1, .int x1), (2, .int x2), (3, .int x3), (4, .int x4), (5, .int x5), (6, .int x6)] [] (ix_w z d) := by
  unfold b_X12_copy_120 at h
  refine ix_iload (i := 6) (j := 6) X (ix_tb_at tb_X12_copy 64 rfl) rfl (pc1 := 122) rfl ?_
  refine ix_iload (i := 5) (j := 5) X (ix_tb_at tb_X12_copy 65 rfl) rfl (pc1 := 124) rfl ?_
  refine ix_icmp_ge (tgt := 154) X (ix_tb_at tb_X12_copy 66 rfl) (by decide) (pc1 := 127) rfl (fun q_39 => ?_) (fun q_39 => ?_)
  · have h := ix_ift q_39 h
    refine ix_iconst (v := 0) X (ix_tb_at tb_X12_copy 83 rfl) (by decide) (pc1 := 155) rfl ?_
    refine ix_istore (i := 6) (L1 := [(6, .int 0), (0, .ref (K.2.2.1 + a0)), (1, .int x1), (2, .int x2), (3, .int x3), (4, .int x4), (5, .int x5)]) X (ix_tb_at tb_X12_copy 84 rfl) (Nat.le_of_ble_eq_true rfl) rfl (pc1 := 157) rfl ?_
    refine ix_sub (L1 := [(0, .ref (K.2.2.1 + a0)), (3, .int x3), (4, .int x4), (5, .int x5), (6, .int 0)]) [1, 4, 5, 6, 0] rfl ?_
    exact t_X12_copy_157 hKp X hr hlk  h
  · have h := ix_iff q_39 h
    refine ix_aload_n (i := 0) (j := 0) X (ix_tb_at tb_X12_copy 67 rfl) rfl rfl (pc1 := 128) rfl ?_
    obtain ⟨k_52, h⟩ := ix_ck_some h
    obtain ⟨b_53, q_54, h⟩ := ix_bd1_ex h
    refine iz_getR X fl_RX12_80 k_52 q_54 (ix_tb_at tb_X12_copy 68 rfl) (pc1 := 131) rfl ?_
    refine ix_iload (i := 6) (j := 6) X (ix_tb_at tb_X12_copy 69 rfl) rfl (pc1 := 133) rfl ?_
    refine ix_aload_n (i := 0) (j := 0) X (ix_tb_at tb_X12_copy 70 rfl) rfl rfl (pc1 := 134) rfl ?_
    obtain ⟨b_55, q_56, h⟩ := ix_bd1_ex h
    refine iz_getR X fl_RX12_20 k_52 q_56 (ix_tb_at tb_X12_copy 71 rfl) (pc1 := 137) rfl ?_
    refine ix_bipush (v := 12) X (ix_tb_at tb_X12_copy 72 rfl) (by decide) (pc1 := 139) rfl ?_
    refine ix_iload_n (i := 1) (j := 1) X (ix_tb_at tb_X12_copy 73 rfl) rfl rfl (pc1 := 140) rfl ?_
    refine ix_imul X (ix_tb_at tb_X12_copy 74 rfl) (pc1 := 141) rfl ?_
    refine ix_iload_n (i := 2) (j := 2) X (ix_tb_at tb_X12_copy 75 rfl) rfl rfl (pc1 := 142) rfl ?_
    refine ix_iadd X (ix_tb_at tb_X12_copy 76 rfl) (pc1 := 143) rfl ?_
    refine ix_iload (i := 6) (j := 6) X (ix_tb_at tb_X12_copy 77 rfl) rfl (pc1 := 145) rfl ?_
    refine ix_iadd X (ix_tb_at tb_X12_copy 78 rfl) (pc1 := 146) rfl ?_
    obtain ⟨k_57, h⟩ := ix_ck_some h
    refine iz_iald X k_57 (ix_tb_at tb_X12_copy 79 rfl) (pc1 := 147) rfl ?_
    obtain ⟨k_58, h⟩ := ix_ck_some h
    obtain ⟨d_59, e_60, h⟩ := ix_lt_ex h
    refine iz_iast X k_58 (ix_tb_at tb_X12_copy 80 rfl) e_60 (pc1 := 148) rfl ?_
    obtain ⟨x6_61, e_62, h⟩ := ix_lt_ex h
    refine ix_iinc (i := 6) (j := 6) (v := x6_61) (L1 := [(6, .int x6_61), (0, .ref (K.2.2.1 + a0)), (1, .int x1), (2, .int x2), (3, .int x3), (4, .int x4), (5, .int x5)]) X (ix_tb_at tb_X12_copy 81 rfl) rfl (by rw [oi_1]; exact e_62.symm) (Nat.le_of_ble_eq_true rfl) rfl (pc1 := 151) rfl ?_
    refine ix_goto (tgt := 120) X (ix_tb_at tb_X12_copy 82 rfl) (by decide) ?_
    refine ix_sub (L1 := [(0, .ref (K.2.2.1 + a0)), (1, .int x1), (2, .int x2), (3, .int x3), (4, .int x4), (5, .int x5), (6, .int x6_61)]) [1, 2, 3, 4, 5, 6, 0] rfl ?_
    exact hrec120 x6_61 d_59 h
theorem t_X12_copy_120 {l : Launch} {p : Program} {e : Env} {s : State} {m : MethodId} {args : Array Value} {below : List Frame} {meth : Method} {c : Code} {K : ix_Cx} (hKp : ix_Kp K) {n : Nat} {z : ix_Z} (X : ix_X p s m args c K cX12_copy RX12 7) (hr : meth.sig.returnType = (some .int)) (hlk : meth.locks = false)  {a0 : Nat} {x1 : Int32} {x2 : Int32} {x3 : Int32} {x4 : Int32} {x5 : Int32} {r : Int32} {d1 : ix_D2}  {x6 : Int32} {d : ix_D2} (h : f_X12_copy_120 n z  a0 x1 x2 x3 x4 x5 x6 d = some (r, d1)) : ix_G p l e (ix_rm 2 42 0 0) s m args below meth c (MQ below (ix_Post K (some (.int r)) (ix_w z d1)) args s 0 0 (ix_A K)) K 7 0 0 120 [(0, .ref (K.2.2.1 + a0)), (1, .int x1), (2, .int x2), (3, .int x3), (4, .int x4), (5, .int x5), (6, .int x6)] [] (ix_w z d) := by
  have key : ∀ (f : Nat) (x6 : Int32) (d : ix_D2), ix_fix (b_X12_copy_120 n z  a0 x1 x2 x3 x4 x5) (fun _ _ => none) f x6 d = some (r, d1) → ix_G p l e (ix_rm 2 42 0 0) s m args below meth c (MQ below (ix_Post K (some (.int r)) (ix_w z d1)) args s 0 0 (ix_A K)) K 7 0 0 120 [(0, .ref (K.2.2.1 + a0)), (1, .int x1), (2, .int x2), (3, .int x3), (4, .int x4), (5, .int x5), (6, .int x6)] [] (ix_w z d) := by
    intro f
    induction f with
    | zero =>
      intro x6 d h
      have h : (none : Option (Int32 × ix_D2)) = some (r, d1) := h
      cases h
    | succ f ih =>
      intro x6 d h
      exact tb_X12_copy_120 hKp X hr hlk (rec120 := ix_fix (b_X12_copy_120 n z  a0 x1 x2 x3 x4 x5) (fun _ _ => none) f)  ih h
  exact key n x6 d h
set_option maxRecDepth 20000 in
theorem c_X12_copy {l : Launch} {K : ix_Cx} (hKp : ix_Kp K) {n : Nat} {z : ix_Z} {a0 : Nat} {x1 : Int32} {x2 : Int32} {x3 : Int32} {x4 : Int32} {x5 : Int32} {d : ix_D2} {r : Int32} {d1 : ix_D2} (h : f_X12_copy n z a0 x1 x2 x3 x4 x5 d = some (r, d1)) : ix_M l K yX12_copy cX12_copy 7 (some .int) 2 42 0 0 [.ref (K.2.2.1 + a0), .int x1, .int x2, .int x3, .int x4, .int x5] (ix_w z d) (some (.int r)) (ix_w z d1) := by
  refine ix_met mf_X12_copy hKp (Nat.le_of_ble_eq_true rfl) ?_
  intro p e s m args below meth c hr hlk hnm X
  have X : ix_X p s m args c K cX12_copy RX12 7 := X
  show ix_G p l e (ix_rm 2 42 0 0) s m args below meth c (MQ below (ix_Post K (some (.int r)) (ix_w z d1)) args s 0 0 (ix_A K)) K 7 0 0 0 [(0, .ref (K.2.2.1 + a0)), (1, .int x1), (2, .int x2), (3, .int x3), (4, .int x4), (5, .int x5)] [] (ix_w z d)
  unfold f_X12_copy at h
  refine ix_iload_n (i := 1) (j := 1) X (ix_tb_at tb_X12_copy 0 rfl) rfl rfl (pc1 := 1) rfl ?_
  obtain ⟨r_3, d_1, h_2, h⟩ := ix_bd2_ex h
  refine ix_callS (As := [.int x1]) (rest := []) X mf_X12_isRow st_X12_isRow ml_RX12_253 ⟨Nat.le_of_ble_eq_true rfl, Nat.le_of_ble_eq_true rfl⟩ ⟨Nat.le_of_ble_eq_true rfl, Nat.le_of_ble_eq_true rfl⟩ rfl (Nat.le_of_ble_eq_true rfl) (ix_tb_at tb_X12_copy 1 rfl) (c_X12_isRow hKp h_2) rfl (pc1 := 4) rfl ?_
  refine ix_if_eq (tgt := 14) X (ix_tb_at tb_X12_copy 2 rfl) (by decide) (pc1 := 7) rfl (fun q_4 => ?_) (fun q_4 => ?_)
  · have h := ix_ift q_4 h
    refine ix_sub (L1 := [(0, .ref (K.2.2.1 + a0))]) [0] rfl ?_
    exact t_X12_copy_14 hKp X hr hlk  h
  · have h := ix_iff q_4 h
    refine ix_iload_n (i := 3) (j := 3) X (ix_tb_at tb_X12_copy 3 rfl) rfl rfl (pc1 := 8) rfl ?_
    obtain ⟨r_11, d_9, h_10, h⟩ := ix_bd2_ex h
    refine ix_callS (As := [.int x3]) (rest := []) X mf_X12_isRow st_X12_isRow ml_RX12_253 ⟨Nat.le_of_ble_eq_true rfl, Nat.le_of_ble_eq_true rfl⟩ ⟨Nat.le_of_ble_eq_true rfl, Nat.le_of_ble_eq_true rfl⟩ rfl (Nat.le_of_ble_eq_true rfl) (ix_tb_at tb_X12_copy 4 rfl) (c_X12_isRow hKp h_10) rfl (pc1 := 11) rfl ?_
    refine ix_if_ne (tgt := 22) X (ix_tb_at tb_X12_copy 5 rfl) (by decide) (pc1 := 14) rfl (fun q_12 => ?_) (fun q_12 => ?_)
    · have h := ix_iff q_12 h
      refine ix_aload_n (i := 0) (j := 0) X (ix_tb_at tb_X12_copy 10 rfl) rfl rfl (pc1 := 23) rfl ?_
      obtain ⟨k_13, h⟩ := ix_ck_some h
      obtain ⟨b_14, q_15, h⟩ := ix_bd1_ex h
      refine iz_getR X fl_RX12_17 k_13 q_15 (ix_tb_at tb_X12_copy 11 rfl) (pc1 := 26) rfl ?_
      refine ix_iload_n (i := 1) (j := 1) X (ix_tb_at tb_X12_copy 12 rfl) rfl rfl (pc1 := 27) rfl ?_
      obtain ⟨k_16, h⟩ := ix_ck_some h
      refine iz_iald X k_16 (ix_tb_at tb_X12_copy 13 rfl) (pc1 := 28) rfl ?_
      refine ix_if_lt (tgt := 40) X (ix_tb_at tb_X12_copy 14 rfl) (by decide) (pc1 := 31) rfl (fun q_17 => ?_) (fun q_17 => ?_)
      · have h := ix_ift q_17 h
        refine ix_sub (L1 := [(0, .ref (K.2.2.1 + a0))]) [0] rfl ?_
        exact t_X12_copy_40 hKp X hr hlk  h
      · have h := ix_iff q_17 h
        refine ix_aload_n (i := 0) (j := 0) X (ix_tb_at tb_X12_copy 15 rfl) rfl rfl (pc1 := 32) rfl ?_
        refine iz_getR X fl_RX12_17 k_13 q_15 (ix_tb_at tb_X12_copy 16 rfl) (pc1 := 35) rfl ?_
        refine ix_iload_n (i := 3) (j := 3) X (ix_tb_at tb_X12_copy 17 rfl) rfl rfl (pc1 := 36) rfl ?_
        obtain ⟨k_22, h⟩ := ix_ck_some h
        refine iz_iald X k_22 (ix_tb_at tb_X12_copy 18 rfl) (pc1 := 37) rfl ?_
        refine ix_if_ge (tgt := 48) X (ix_tb_at tb_X12_copy 19 rfl) (by decide) (pc1 := 40) rfl (fun q_23 => ?_) (fun q_23 => ?_)
        · have h := ix_ift q_23 h
          refine ix_iload_n (i := 2) (j := 2) X (ix_tb_at tb_X12_copy 24 rfl) rfl rfl (pc1 := 49) rfl ?_
          refine ix_iconst (v := 0) X (ix_tb_at tb_X12_copy 25 rfl) (by decide) (pc1 := 50) rfl ?_
          refine ix_aload_n (i := 0) (j := 0) X (ix_tb_at tb_X12_copy 26 rfl) rfl rfl (pc1 := 51) rfl ?_
          refine iz_getR X fl_RX12_17 k_13 q_15 (ix_tb_at tb_X12_copy 27 rfl) (pc1 := 54) rfl ?_
          refine ix_iload_n (i := 1) (j := 1) X (ix_tb_at tb_X12_copy 28 rfl) rfl rfl (pc1 := 55) rfl ?_
          refine iz_iald X k_16 (ix_tb_at tb_X12_copy 29 rfl) (pc1 := 56) rfl ?_
          obtain ⟨r_26, d_24, h_25, h⟩ := ix_bd2_ex h
          refine ix_callS (As := [.int x2, .int 0, .int (d_9.1 b_14 (ix_n x1))]) (rest := []) X mf_X12_in st_X12_in ml_RX12_238 ⟨Nat.le_of_ble_eq_true rfl, Nat.le_of_ble_eq_true rfl⟩ ⟨Nat.le_of_ble_eq_true rfl, Nat.le_of_ble_eq_true rfl⟩ rfl (Nat.le_of_ble_eq_true rfl) (ix_tb_at tb_X12_copy 30 rfl) (c_X12_in hKp h_25) rfl (pc1 := 59) rfl ?_
          refine ix_if_eq (tgt := 109) X (ix_tb_at tb_X12_copy 31 rfl) (by decide) (pc1 := 62) rfl (fun q_27 => ?_) (fun q_27 => ?_)
          · have h := ix_ift q_27 h
            refine ix_sub (L1 := [(0, .ref (K.2.2.1 + a0))]) [0] rfl ?_
            exact t_X12_copy_109 hKp X hr hlk  h
          · have h := ix_iff q_27 h
            refine ix_iload (i := 4) (j := 4) X (ix_tb_at tb_X12_copy 32 rfl) rfl (pc1 := 64) rfl ?_
            refine ix_iconst (v := 0) X (ix_tb_at tb_X12_copy 33 rfl) (by decide) (pc1 := 65) rfl ?_
            refine ix_aload_n (i := 0) (j := 0) X (ix_tb_at tb_X12_copy 34 rfl) rfl rfl (pc1 := 66) rfl ?_
            refine iz_getR X fl_RX12_17 k_13 q_15 (ix_tb_at tb_X12_copy 35 rfl) (pc1 := 69) rfl ?_
            refine ix_iload_n (i := 3) (j := 3) X (ix_tb_at tb_X12_copy 36 rfl) rfl rfl (pc1 := 70) rfl ?_
            refine iz_iald X k_22 (ix_tb_at tb_X12_copy 37 rfl) (pc1 := 71) rfl ?_
            obtain ⟨r_34, d_32, h_33, h⟩ := ix_bd2_ex h
            refine ix_callS (As := [.int x4, .int 0, .int (d_24.1 b_14 (ix_n x3))]) (rest := []) X mf_X12_in st_X12_in ml_RX12_238 ⟨Nat.le_of_ble_eq_true rfl, Nat.le_of_ble_eq_true rfl⟩ ⟨Nat.le_of_ble_eq_true rfl, Nat.le_of_ble_eq_true rfl⟩ rfl (Nat.le_of_ble_eq_true rfl) (ix_tb_at tb_X12_copy 38 rfl) (c_X12_in hKp h_33) rfl (pc1 := 74) rfl ?_
            refine ix_if_eq (tgt := 109) X (ix_tb_at tb_X12_copy 39 rfl) (by decide) (pc1 := 77) rfl (fun q_35 => ?_) (fun q_35 => ?_)
            · have h := ix_ift q_35 h
              refine ix_sub (L1 := [(0, .ref (K.2.2.1 + a0))]) [0] rfl ?_
              exact t_X12_copy_109 hKp X hr hlk  h
            · have h := ix_iff q_35 h
              refine ix_iload (i := 5) (j := 5) X (ix_tb_at tb_X12_copy 40 rfl) rfl (pc1 := 79) rfl ?_
              refine ix_if_lt (tgt := 109) X (ix_tb_at tb_X12_copy 41 rfl) (by decide) (pc1 := 82) rfl (fun q_36 => ?_) (fun q_36 => ?_)
              · have h := ix_ift q_36 h
                refine ix_sub (L1 := [(0, .ref (K.2.2.1 + a0))]) [0] rfl ?_
                exact t_X12_copy_109 hKp X hr hlk  h
              · have h := ix_iff q_36 h
                refine ix_iload (i := 5) (j := 5) X (ix_tb_at tb_X12_copy 42 rfl) rfl (pc1 := 84) rfl ?_
                refine ix_aload_n (i := 0) (j := 0) X (ix_tb_at tb_X12_copy 43 rfl) rfl rfl (pc1 := 85) rfl ?_
                refine iz_getR X fl_RX12_17 k_13 q_15 (ix_tb_at tb_X12_copy 44 rfl) (pc1 := 88) rfl ?_
                refine ix_iload_n (i := 1) (j := 1) X (ix_tb_at tb_X12_copy 45 rfl) rfl rfl (pc1 := 89) rfl ?_
                refine iz_iald X k_16 (ix_tb_at tb_X12_copy 46 rfl) (pc1 := 90) rfl ?_
                refine ix_iload_n (i := 2) (j := 2) X (ix_tb_at tb_X12_copy 47 rfl) rfl rfl (pc1 := 91) rfl ?_
                refine ix_isub X (ix_tb_at tb_X12_copy 48 rfl) (pc1 := 92) rfl ?_
                refine ix_icmp_gt (tgt := 109) X (ix_tb_at tb_X12_copy 49 rfl) (by decide) (pc1 := 95) rfl (fun q_37 => ?_) (fun q_37 => ?_)
                · have h := ix_ift q_37 h
                  refine ix_sub (L1 := [(0, .ref (K.2.2.1 + a0))]) [0] rfl ?_
                  exact t_X12_copy_109 hKp X hr hlk  h
                · have h := ix_iff q_37 h
                  refine ix_iload (i := 5) (j := 5) X (ix_tb_at tb_X12_copy 50 rfl) rfl (pc1 := 97) rfl ?_
                  refine ix_aload_n (i := 0) (j := 0) X (ix_tb_at tb_X12_copy 51 rfl) rfl rfl (pc1 := 98) rfl ?_
                  refine iz_getR X fl_RX12_17 k_13 q_15 (ix_tb_at tb_X12_copy 52 rfl) (pc1 := 101) rfl ?_
                  refine ix_iload_n (i := 3) (j := 3) X (ix_tb_at tb_X12_copy 53 rfl) rfl rfl (pc1 := 102) rfl ?_
                  refine iz_iald X k_22 (ix_tb_at tb_X12_copy 54 rfl) (pc1 := 103) rfl ?_
                  refine ix_iload (i := 4) (j := 4) X (ix_tb_at tb_X12_copy 55 rfl) rfl (pc1 := 105) rfl ?_
                  refine ix_isub X (ix_tb_at tb_X12_copy 56 rfl) (pc1 := 106) rfl ?_
                  refine ix_icmp_le (tgt := 117) X (ix_tb_at tb_X12_copy 57 rfl) (by decide) (pc1 := 109) rfl (fun q_38 => ?_) (fun q_38 => ?_)
                  · have h := ix_ift q_38 h
                    refine ix_iconst (v := 0) X (ix_tb_at tb_X12_copy 62 rfl) (by decide) (pc1 := 118) rfl ?_
                    refine ix_istore (i := 6) (L1 := [(6, .int 0), (0, .ref (K.2.2.1 + a0)), (1, .int x1), (2, .int x2), (3, .int x3), (4, .int x4), (5, .int x5)]) X (ix_tb_at tb_X12_copy 63 rfl) (Nat.le_of_ble_eq_true rfl) rfl (pc1 := 120) rfl ?_
                    refine ix_sub (L1 := [(0, .ref (K.2.2.1 + a0)), (1, .int x1), (2, .int x2), (3, .int x3), (4, .int x4), (5, .int x5), (6, .int 0)]) [1, 2, 3, 4, 5, 6, 0] rfl ?_
                    exact t_X12_copy_120 hKp X hr hlk  h
                  · have h := ix_iff q_38 h
                    refine ix_sub (L1 := [(0, .ref (K.2.2.1 + a0))]) [0] rfl ?_
                    exact t_X12_copy_109 hKp X hr hlk  h
        · have h := ix_iff q_23 h
          refine ix_sub (L1 := [(0, .ref (K.2.2.1 + a0))]) [0] rfl ?_
          exact t_X12_copy_40 hKp X hr hlk  h
    · have h := ix_ift q_12 h
      refine ix_sub (L1 := [(0, .ref (K.2.2.1 + a0))]) [0] rfl ?_
      exact t_X12_copy_14 hKp X hr hlk  h
def tab_X12_cut : List (Nat × Instr × Nat) := [(0, .iload_n 1, 1), (1, .invokestatic 253, 3), (4, .ifCond .eq 9, 3), (7, .iload_n 2, 1), (8, .bipush 12, 2), (10, .if_icmp .le 11, 3), (13, .aload_n 0, 1), (14, .sipush (-1001), 3), (17, .invokevirtual 242, 3), (20, .ireturn, 1), (21, .iload_n 2, 1), (22, .ifCond .ge 11, 3), (25, .aload_n 0, 1), (26, .sipush (-1014), 3), (29, .invokevirtual 242, 3), (32, .ireturn, 1), (33, .aload_n 0, 1), (34, .getfield 17, 3), (37, .iload_n 1, 1), (38, .iaload, 1), (39, .ifCond .ge 11, 3), (42, .aload_n 0, 1), (43, .sipush (-1011), 3), (46, .invokevirtual 242, 3), (49, .ireturn, 1), (50, .iload_n 2, 1), (51, .aload_n 0, 1), (52, .getfield 17, 3), (55, .iload_n 1, 1), (56, .iaload, 1), (57, .if_icmp .le 11, 3), (60, .aload_n 0, 1), (61, .sipush (-1012), 3), (64, .invokevirtual 242, 3), (67, .ireturn, 1), (68, .aload_n 0, 1), (69, .getfield 17, 3), (72, .iload_n 1, 1), (73, .iload_n 2, 1), (74, .iastore, 1), (75, .iload_n 2, 1), (76, .ireturn, 1)]
theorem tb_X12_cut : ix_tab cX12_cut tab_X12_cut := by
  unfold ix_tab
  decide +kernel
noncomputable def f_X12_cut_13 (n : Nat) (z : ix_Z)  (a0 : Nat) (d : ix_D2) : Option (Int32 × ix_D2) :=
  ix_ck (ix_ok z [11] a0) (ix_bd2 (f_X12_fail n z a0 ((-1001)) d) (fun r_8 d_5 => some (r_8, d_5)))
noncomputable def f_X12_cut (n : Nat) (z : ix_Z) (a0 : Nat) (x1 : Int32) (x2 : Int32) (d : ix_D2) : Option (Int32 × ix_D2) :=
  ix_bd2 (f_X12_isRow n z x1 d) (fun r_3 d_1 => ix_if (r_3 = 0) (f_X12_cut_13 n z  a0 d_1) (ix_if (x2 ≤ 12) (ix_if (0 ≤ x2) (ix_ck (ix_ok z [11] a0) (ix_bd1 (z.1 a0 5) (fun b_12 => ix_ck (ix_ix z 20 b_12 x1) (ix_if (0 ≤ d_1.1 b_12 (ix_n x1)) (ix_if (x2 ≤ d_1.1 b_12 (ix_n x1)) (ix_lt (ix_di d_1 b_12 (ix_n x1) x2) (fun d_17 => some (x2, d_17))) (ix_bd2 (f_X12_fail n z a0 ((-1012)) d_1) (fun r_21 d_19 => some (r_21, d_19)))) (ix_bd2 (f_X12_fail n z a0 ((-1011)) d_1) (fun r_24 d_22 => some (r_24, d_22))))))) (ix_ck (ix_ok z [11] a0) (ix_bd2 (f_X12_fail n z a0 ((-1014)) d_1) (fun r_28 d_25 => some (r_28, d_25))))) (f_X12_cut_13 n z  a0 d_1)))
set_option maxRecDepth 20000 in
theorem t_X12_cut_13 {l : Launch} {p : Program} {e : Env} {s : State} {m : MethodId} {args : Array Value} {below : List Frame} {meth : Method} {c : Code} {K : ix_Cx} (hKp : ix_Kp K) {n : Nat} {z : ix_Z} (X : ix_X p s m args c K cX12_cut RX12 3) (hr : meth.sig.returnType = (some .int)) (hlk : meth.locks = false)  {a0 : Nat} {r : Int32} {d1 : ix_D2}  {d : ix_D2} (h : f_X12_cut_13 n z  a0 d = some (r, d1)) : ix_G p l e (ix_rm 2 42 0 0) s m args below meth c (MQ below (ix_Post K (some (.int r)) (ix_w z d1)) args s 0 0 (ix_A K)) K 3 0 0 13 [(0, .ref (K.2.2.1 + a0))] [] (ix_w z d) := by
  unfold f_X12_cut_13 at h
  refine ix_aload_n (i := 0) (j := 0) X (ix_tb_at tb_X12_cut 6 rfl) rfl rfl (pc1 := 14) rfl ?_
  refine ix_sipush (v := (-1001)) X (ix_tb_at tb_X12_cut 7 rfl) (by decide) (pc1 := 17) rfl ?_
  obtain ⟨k_7, h⟩ := ix_ck_some h
  obtain ⟨r_8, d_5, h_6, h⟩ := ix_bd2_ex h
  refine ix_callV (As := [.int ((-1001))]) (rest := []) (ci := 11) (T := TX12) (nf := 116) X mf_X12_fail mi_X12_fail ms_X12_fail rfl (Nat.le_of_ble_eq_true rfl) ml_RX12_242 ⟨Nat.le_of_ble_eq_true rfl, Nat.le_of_ble_eq_true rfl⟩ ⟨Nat.le_of_ble_eq_true rfl, Nat.le_of_ble_eq_true rfl⟩ rfl (Nat.le_of_ble_eq_true rfl) (ix_tb_at tb_X12_cut 8 rfl) ⟨k_7.1, List.mem_singleton.mp k_7.2⟩ (c_X12_fail hKp h_6) rfl (pc1 := 20) rfl ?_
  exact ix_iret X hr hlk (ix_r2 (f := fun r => some (.int r)) (g := ix_w z) h) (ix_tb_at tb_X12_cut 9 rfl)
set_option maxRecDepth 20000 in
theorem c_X12_cut {l : Launch} {K : ix_Cx} (hKp : ix_Kp K) {n : Nat} {z : ix_Z} {a0 : Nat} {x1 : Int32} {x2 : Int32} {d : ix_D2} {r : Int32} {d1 : ix_D2} (h : f_X12_cut n z a0 x1 x2 d = some (r, d1)) : ix_M l K yX12_cut cX12_cut 3 (some .int) 2 42 0 0 [.ref (K.2.2.1 + a0), .int x1, .int x2] (ix_w z d) (some (.int r)) (ix_w z d1) := by
  refine ix_met mf_X12_cut hKp (Nat.le_of_ble_eq_true rfl) ?_
  intro p e s m args below meth c hr hlk hnm X
  have X : ix_X p s m args c K cX12_cut RX12 3 := X
  show ix_G p l e (ix_rm 2 42 0 0) s m args below meth c (MQ below (ix_Post K (some (.int r)) (ix_w z d1)) args s 0 0 (ix_A K)) K 3 0 0 0 [(0, .ref (K.2.2.1 + a0)), (1, .int x1), (2, .int x2)] [] (ix_w z d)
  unfold f_X12_cut at h
  refine ix_iload_n (i := 1) (j := 1) X (ix_tb_at tb_X12_cut 0 rfl) rfl rfl (pc1 := 1) rfl ?_
  obtain ⟨r_3, d_1, h_2, h⟩ := ix_bd2_ex h
  refine ix_callS (As := [.int x1]) (rest := []) X mf_X12_isRow st_X12_isRow ml_RX12_253 ⟨Nat.le_of_ble_eq_true rfl, Nat.le_of_ble_eq_true rfl⟩ ⟨Nat.le_of_ble_eq_true rfl, Nat.le_of_ble_eq_true rfl⟩ rfl (Nat.le_of_ble_eq_true rfl) (ix_tb_at tb_X12_cut 1 rfl) (c_X12_isRow hKp h_2) rfl (pc1 := 4) rfl ?_
  refine ix_if_eq (tgt := 13) X (ix_tb_at tb_X12_cut 2 rfl) (by decide) (pc1 := 7) rfl (fun q_4 => ?_) (fun q_4 => ?_)
  · have h := ix_ift q_4 h
    refine ix_sub (L1 := [(0, .ref (K.2.2.1 + a0))]) [0] rfl ?_
    exact t_X12_cut_13 hKp X hr hlk  h
  · have h := ix_iff q_4 h
    refine ix_iload_n (i := 2) (j := 2) X (ix_tb_at tb_X12_cut 3 rfl) rfl rfl (pc1 := 8) rfl ?_
    refine ix_bipush (v := 12) X (ix_tb_at tb_X12_cut 4 rfl) (by decide) (pc1 := 10) rfl ?_
    refine ix_icmp_le (tgt := 21) X (ix_tb_at tb_X12_cut 5 rfl) (by decide) (pc1 := 13) rfl (fun q_9 => ?_) (fun q_9 => ?_)
    · have h := ix_ift q_9 h
      refine ix_iload_n (i := 2) (j := 2) X (ix_tb_at tb_X12_cut 10 rfl) rfl rfl (pc1 := 22) rfl ?_
      refine ix_if_ge (tgt := 33) X (ix_tb_at tb_X12_cut 11 rfl) (by decide) (pc1 := 25) rfl (fun q_10 => ?_) (fun q_10 => ?_)
      · have h := ix_ift q_10 h
        refine ix_aload_n (i := 0) (j := 0) X (ix_tb_at tb_X12_cut 16 rfl) rfl rfl (pc1 := 34) rfl ?_
        obtain ⟨k_11, h⟩ := ix_ck_some h
        obtain ⟨b_12, q_13, h⟩ := ix_bd1_ex h
        refine iz_getR X fl_RX12_17 k_11 q_13 (ix_tb_at tb_X12_cut 17 rfl) (pc1 := 37) rfl ?_
        refine ix_iload_n (i := 1) (j := 1) X (ix_tb_at tb_X12_cut 18 rfl) rfl rfl (pc1 := 38) rfl ?_
        obtain ⟨k_14, h⟩ := ix_ck_some h
        refine iz_iald X k_14 (ix_tb_at tb_X12_cut 19 rfl) (pc1 := 39) rfl ?_
        refine ix_if_ge (tgt := 50) X (ix_tb_at tb_X12_cut 20 rfl) (by decide) (pc1 := 42) rfl (fun q_15 => ?_) (fun q_15 => ?_)
        · have h := ix_ift q_15 h
          refine ix_iload_n (i := 2) (j := 2) X (ix_tb_at tb_X12_cut 25 rfl) rfl rfl (pc1 := 51) rfl ?_
          refine ix_aload_n (i := 0) (j := 0) X (ix_tb_at tb_X12_cut 26 rfl) rfl rfl (pc1 := 52) rfl ?_
          refine iz_getR X fl_RX12_17 k_11 q_13 (ix_tb_at tb_X12_cut 27 rfl) (pc1 := 55) rfl ?_
          refine ix_iload_n (i := 1) (j := 1) X (ix_tb_at tb_X12_cut 28 rfl) rfl rfl (pc1 := 56) rfl ?_
          refine iz_iald X k_14 (ix_tb_at tb_X12_cut 29 rfl) (pc1 := 57) rfl ?_
          refine ix_icmp_le (tgt := 68) X (ix_tb_at tb_X12_cut 30 rfl) (by decide) (pc1 := 60) rfl (fun q_16 => ?_) (fun q_16 => ?_)
          · have h := ix_ift q_16 h
            refine ix_aload_n (i := 0) (j := 0) X (ix_tb_at tb_X12_cut 35 rfl) rfl rfl (pc1 := 69) rfl ?_
            refine iz_getR X fl_RX12_17 k_11 q_13 (ix_tb_at tb_X12_cut 36 rfl) (pc1 := 72) rfl ?_
            refine ix_iload_n (i := 1) (j := 1) X (ix_tb_at tb_X12_cut 37 rfl) rfl rfl (pc1 := 73) rfl ?_
            refine ix_iload_n (i := 2) (j := 2) X (ix_tb_at tb_X12_cut 38 rfl) rfl rfl (pc1 := 74) rfl ?_
            obtain ⟨d_17, e_18, h⟩ := ix_lt_ex h
            refine iz_iast X k_14 (ix_tb_at tb_X12_cut 39 rfl) e_18 (pc1 := 75) rfl ?_
            refine ix_iload_n (i := 2) (j := 2) X (ix_tb_at tb_X12_cut 40 rfl) rfl rfl (pc1 := 76) rfl ?_
            exact ix_iret X hr hlk (ix_r2 (f := fun r => some (.int r)) (g := ix_w z) h) (ix_tb_at tb_X12_cut 41 rfl)
          · have h := ix_iff q_16 h
            refine ix_aload_n (i := 0) (j := 0) X (ix_tb_at tb_X12_cut 31 rfl) rfl rfl (pc1 := 61) rfl ?_
            refine ix_sipush (v := (-1012)) X (ix_tb_at tb_X12_cut 32 rfl) (by decide) (pc1 := 64) rfl ?_
            obtain ⟨r_21, d_19, h_20, h⟩ := ix_bd2_ex h
            refine ix_callV (As := [.int ((-1012))]) (rest := []) (ci := 11) (T := TX12) (nf := 116) X mf_X12_fail mi_X12_fail ms_X12_fail rfl (Nat.le_of_ble_eq_true rfl) ml_RX12_242 ⟨Nat.le_of_ble_eq_true rfl, Nat.le_of_ble_eq_true rfl⟩ ⟨Nat.le_of_ble_eq_true rfl, Nat.le_of_ble_eq_true rfl⟩ rfl (Nat.le_of_ble_eq_true rfl) (ix_tb_at tb_X12_cut 33 rfl) ⟨k_11.1, List.mem_singleton.mp k_11.2⟩ (c_X12_fail hKp h_20) rfl (pc1 := 67) rfl ?_
            exact ix_iret X hr hlk (ix_r2 (f := fun r => some (.int r)) (g := ix_w z) h) (ix_tb_at tb_X12_cut 34 rfl)
        · have h := ix_iff q_15 h
          refine ix_aload_n (i := 0) (j := 0) X (ix_tb_at tb_X12_cut 21 rfl) rfl rfl (pc1 := 43) rfl ?_
          refine ix_sipush (v := (-1011)) X (ix_tb_at tb_X12_cut 22 rfl) (by decide) (pc1 := 46) rfl ?_
          obtain ⟨r_24, d_22, h_23, h⟩ := ix_bd2_ex h
          refine ix_callV (As := [.int ((-1011))]) (rest := []) (ci := 11) (T := TX12) (nf := 116) X mf_X12_fail mi_X12_fail ms_X12_fail rfl (Nat.le_of_ble_eq_true rfl) ml_RX12_242 ⟨Nat.le_of_ble_eq_true rfl, Nat.le_of_ble_eq_true rfl⟩ ⟨Nat.le_of_ble_eq_true rfl, Nat.le_of_ble_eq_true rfl⟩ rfl (Nat.le_of_ble_eq_true rfl) (ix_tb_at tb_X12_cut 23 rfl) ⟨k_11.1, List.mem_singleton.mp k_11.2⟩ (c_X12_fail hKp h_23) rfl (pc1 := 49) rfl ?_
          exact ix_iret X hr hlk (ix_r2 (f := fun r => some (.int r)) (g := ix_w z) h) (ix_tb_at tb_X12_cut 24 rfl)
      · have h := ix_iff q_10 h
        refine ix_aload_n (i := 0) (j := 0) X (ix_tb_at tb_X12_cut 12 rfl) rfl rfl (pc1 := 26) rfl ?_
        refine ix_sipush (v := (-1014)) X (ix_tb_at tb_X12_cut 13 rfl) (by decide) (pc1 := 29) rfl ?_
        obtain ⟨k_27, h⟩ := ix_ck_some h
        obtain ⟨r_28, d_25, h_26, h⟩ := ix_bd2_ex h
        refine ix_callV (As := [.int ((-1014))]) (rest := []) (ci := 11) (T := TX12) (nf := 116) X mf_X12_fail mi_X12_fail ms_X12_fail rfl (Nat.le_of_ble_eq_true rfl) ml_RX12_242 ⟨Nat.le_of_ble_eq_true rfl, Nat.le_of_ble_eq_true rfl⟩ ⟨Nat.le_of_ble_eq_true rfl, Nat.le_of_ble_eq_true rfl⟩ rfl (Nat.le_of_ble_eq_true rfl) (ix_tb_at tb_X12_cut 14 rfl) ⟨k_27.1, List.mem_singleton.mp k_27.2⟩ (c_X12_fail hKp h_26) rfl (pc1 := 32) rfl ?_
        exact ix_iret X hr hlk (ix_r2 (f := fun r => some (.int r)) (g := ix_w z) h) (ix_tb_at tb_X12_cut 15 rfl)
    · have h := ix_iff q_9 h
      refine ix_sub (L1 := [(0, .ref (K.2.2.1 + a0))]) [0] rfl ?_
      exact t_X12_cut_13 hKp X hr hlk  h
def tab_X12_feed : List (Nat × Instr × Nat) := [(0, .iload_n 3, 1), (1, .iconst 1, 1), (2, .bipush 8, 2), (4, .invokestatic 238, 3), (7, .ifCond .ne 11, 3), (10, .aload_n 0, 1), (11, .sipush (-1001), 3), (14, .invokevirtual 242, 3), (17, .ireturn, 1), (18, .aload_n 0, 1), (19, .getfield 259, 3), (22, .iload_n 3, 1), (23, .iadd, 1), (24, .bipush 60, 2), (26, .if_icmp .le 11, 3), (29, .aload_n 0, 1), (30, .sipush (-1003), 3), (33, .invokevirtual 242, 3), (36, .ireturn, 1), (37, .iload_n 3, 1), (38, .iconst 1, 1), (39, .isub, 1), (40, .istore 4, 2), (42, .iload 4, 2), (44, .ifCond .lt 40, 3), (47, .aload_n 0, 1), (48, .getfield 23, 3), (51, .aload_n 0, 1), (52, .getfield 259, 3), (55, .lload_n 1, 1), (56, .bipush 8, 2), (58, .iload 4, 2), (60, .imul, 1), (61, .lshr, 1), (62, .ldc2_w 262, 3), (65, .land, 1), (66, .l2i, 1), (67, .iastore, 1), (68, .aload_n 0, 1), (69, .dup, 1), (70, .getfield 259, 3), (73, .iconst 1, 1), (74, .iadd, 1), (75, .putfield 259, 3), (78, .iinc 4 (-1), 3), (81, .goto (-39), 3), (84, .aload_n 0, 1), (85, .getfield 259, 3), (88, .ireturn, 1)]
theorem tb_X12_feed : ix_tab cX12_feed tab_X12_feed := by
  unfold ix_tab
  decide +kernel
noncomputable def b_X12_feed_42 (n : Nat) (z : ix_Z)  (a0 : Nat) (y1 : Int64) (rec42 : Int32 → ix_D2 → Option (Int32 × ix_D2)) (x4 : Int32) (d : ix_D2) : Option (Int32 × ix_D2) :=
  ix_if (x4 < 0) (ix_ck (ix_ok z [11] a0) (some (d.1 a0 8, d))) (ix_ck (ix_ok z [11] a0) (ix_bd1 (z.1 a0 7) (fun b_12 => ix_ck (ix_ix z 20 b_12 (d.1 a0 8)) (ix_lt (ix_di d b_12 (ix_n (d.1 a0 8)) (((y1 >>> ((8 * x4).toInt64 &&& 63)) &&& 255).toInt32)) (fun d_15 => ix_lt (ix_di d_15 a0 8 ((d_15.1 a0 8) + 1)) (fun d_17 => ix_lt (x4 + (-1)) (fun x4_19 => rec42 x4_19 d_17)))))))
noncomputable def f_X12_feed_42 (n : Nat) (z : ix_Z)  (a0 : Nat) (y1 : Int64) (x4 : Int32) (d : ix_D2) : Option (Int32 × ix_D2) := ix_fix (b_X12_feed_42 n z  a0 y1) (fun _ _ => none) n x4 d
noncomputable def f_X12_feed (n : Nat) (z : ix_Z) (a0 : Nat) (y1 : Int64) (x3 : Int32) (d : ix_D2) : Option (Int32 × ix_D2) :=
  ix_bd2 (f_X12_in n z x3 1 8 d) (fun r_3 d_1 => ix_if (r_3 = 0) (ix_ck (ix_ok z [11] a0) (ix_bd2 (f_X12_fail n z a0 ((-1001)) d_1) (fun r_27 d_24 => some (r_27, d_24)))) (ix_ck (ix_ok z [11] a0) (ix_if ((d_1.1 a0 8) + x3 ≤ 60) (ix_lt (x3 - 1) (fun x4_7 => f_X12_feed_42 n z  a0 y1 x4_7 d_1)) (ix_bd2 (f_X12_fail n z a0 ((-1003)) d_1) (fun r_23 d_21 => some (r_23, d_21))))))
set_option maxRecDepth 20000 in
theorem tb_X12_feed_42 {l : Launch} {p : Program} {e : Env} {s : State} {m : MethodId} {args : Array Value} {below : List Frame} {meth : Method} {c : Code} {K : ix_Cx} (hKp : ix_Kp K) {n : Nat} {z : ix_Z} (X : ix_X p s m args c K cX12_feed RX12 5) (hr : meth.sig.returnType = (some .int)) (hlk : meth.locks = false)  {a0 : Nat} {y1 : Int64} {rec42 : Int32 → ix_D2 → Option (Int32 × ix_D2)} {r : Int32} {d1 : ix_D2} (hrec42 : ∀ (x4 : Int32) (d : ix_D2), rec42 x4 d = some (r, d1) → ix_G p l e (ix_rm 1 22 0 0) s m args below meth c (MQ below (ix_Post K (some (.int r)) (ix_w z d1)) args s 0 0 (ix_A K)) K 5 0 0 42 [(0, .ref (K.2.2.1 + a0)), (1, .long y1), (4, .int x4)] [] (ix_w z d)) {x4 : Int32} {d : ix_D2} (h : b_X12_feed_42 n z  a0 y1 rec42 x4 d = some (r, d1)) : ix_G p l e (ix_rm 1 22 0 0) s m args below meth c (MQ below (ix_Post K (some (.int r)) (ix_w z d1)) args s 0 0 (ix_A K)) K 5 0 0 42 [(0, .ref (K.2.2.1 + a0)), (1, .long y1), (4, .int x4)] [] (ix_w z d) := by
  unfold b_X12_feed_42 at h
  refine ix_iload (i := 4) (j := 2) X (ix_tb_at tb_X12_feed 23 rfl) rfl (pc1 := 44) rfl ?_
  refine ix_if_lt (tgt := 84) X (ix_tb_at tb_X12_feed 24 rfl) (by decide) (pc1 := 47) rfl (fun q_9 => ?_) (fun q_9 => ?_)
  · have h := ix_ift q_9 h
    refine ix_aload_n (i := 0) (j := 0) X (ix_tb_at tb_X12_feed 46 rfl) rfl rfl (pc1 := 85) rfl ?_
    obtain ⟨k_10, h⟩ := ix_ck_some h
    refine iz_getI X fl_RX12_259 k_10 (ix_tb_at tb_X12_feed 47 rfl) (pc1 := 88) rfl ?_
    exact ix_iret X hr hlk (ix_r2 (f := fun r => some (.int r)) (g := ix_w z) h) (ix_tb_at tb_X12_feed 48 rfl)
  · have h := ix_iff q_9 h
    refine ix_aload_n (i := 0) (j := 0) X (ix_tb_at tb_X12_feed 25 rfl) rfl rfl (pc1 := 48) rfl ?_
    obtain ⟨k_11, h⟩ := ix_ck_some h
    obtain ⟨b_12, q_13, h⟩ := ix_bd1_ex h
    refine iz_getR X fl_RX12_23 k_11 q_13 (ix_tb_at tb_X12_feed 26 rfl) (pc1 := 51) rfl ?_
    refine ix_aload_n (i := 0) (j := 0) X (ix_tb_at tb_X12_feed 27 rfl) rfl rfl (pc1 := 52) rfl ?_
    refine iz_getI X fl_RX12_259 k_11 (ix_tb_at tb_X12_feed 28 rfl) (pc1 := 55) rfl ?_
    refine ix_lload_n (i := 1) (j := 1) X (ix_tb_at tb_X12_feed 29 rfl) rfl rfl (pc1 := 56) rfl ?_
    refine ix_bipush (v := 8) X (ix_tb_at tb_X12_feed 30 rfl) (by decide) (pc1 := 58) rfl ?_
    refine ix_iload (i := 4) (j := 2) X (ix_tb_at tb_X12_feed 31 rfl) rfl (pc1 := 60) rfl ?_
    refine ix_imul X (ix_tb_at tb_X12_feed 32 rfl) (pc1 := 61) rfl ?_
    refine ix_lshr X (ix_tb_at tb_X12_feed 33 rfl) (pc1 := 62) rfl ?_
    refine ix_ldc2 (pl := 1956) (v := 255) X (ix_tb_at tb_X12_feed 34 rfl) (by decide +kernel) (pc1 := 65) rfl ?_
    refine ix_land X (ix_tb_at tb_X12_feed 35 rfl) (pc1 := 66) rfl ?_
    refine ix_l2i X (ix_tb_at tb_X12_feed 36 rfl) (pc1 := 67) rfl ?_
    obtain ⟨k_14, h⟩ := ix_ck_some h
    obtain ⟨d_15, e_16, h⟩ := ix_lt_ex h
    refine iz_iast X k_14 (ix_tb_at tb_X12_feed 37 rfl) e_16 (pc1 := 68) rfl ?_
    refine ix_aload_n (i := 0) (j := 0) X (ix_tb_at tb_X12_feed 38 rfl) rfl rfl (pc1 := 69) rfl ?_
    refine ix_dup X (ix_tb_at tb_X12_feed 39 rfl) rfl (pc1 := 70) rfl ?_
    refine iz_getI X fl_RX12_259 k_11 (ix_tb_at tb_X12_feed 40 rfl) (pc1 := 73) rfl ?_
    refine ix_iconst (v := 1) X (ix_tb_at tb_X12_feed 41 rfl) (by decide) (pc1 := 74) rfl ?_
    refine ix_iadd X (ix_tb_at tb_X12_feed 42 rfl) (pc1 := 75) rfl ?_
    obtain ⟨d_17, e_18, h⟩ := ix_lt_ex h
    refine iz_putI X fp_RX12_259 k_11 (ix_tb_at tb_X12_feed 43 rfl) e_18 (pc1 := 78) rfl ?_
    obtain ⟨x4_19, e_20, h⟩ := ix_lt_ex h
    refine ix_iinc (i := 4) (j := 2) (v := x4_19) (L1 := [(4, .int x4_19), (0, .ref (K.2.2.1 + a0)), (1, .long y1)]) X (ix_tb_at tb_X12_feed 44 rfl) rfl (by rw [oi_m1]; exact e_20.symm) (Nat.le_of_ble_eq_true rfl) rfl (pc1 := 81) rfl ?_
    refine ix_goto (tgt := 42) X (ix_tb_at tb_X12_feed 45 rfl) (by decide) ?_
    refine ix_sub (L1 := [(0, .ref (K.2.2.1 + a0)), (1, .long y1), (4, .int x4_19)]) [1, 2, 0] rfl ?_
    exact hrec42 x4_19 d_17 h
theorem t_X12_feed_42 {l : Launch} {p : Program} {e : Env} {s : State} {m : MethodId} {args : Array Value} {below : List Frame} {meth : Method} {c : Code} {K : ix_Cx} (hKp : ix_Kp K) {n : Nat} {z : ix_Z} (X : ix_X p s m args c K cX12_feed RX12 5) (hr : meth.sig.returnType = (some .int)) (hlk : meth.locks = false)  {a0 : Nat} {y1 : Int64} {r : Int32} {d1 : ix_D2}  {x4 : Int32} {d : ix_D2} (h : f_X12_feed_42 n z  a0 y1 x4 d = some (r, d1)) : ix_G p l e (ix_rm 1 22 0 0) s m args below meth c (MQ below (ix_Post K (some (.int r)) (ix_w z d1)) args s 0 0 (ix_A K)) K 5 0 0 42 [(0, .ref (K.2.2.1 + a0)), (1, .long y1), (4, .int x4)] [] (ix_w z d) := by
  have key : ∀ (f : Nat) (x4 : Int32) (d : ix_D2), ix_fix (b_X12_feed_42 n z  a0 y1) (fun _ _ => none) f x4 d = some (r, d1) → ix_G p l e (ix_rm 1 22 0 0) s m args below meth c (MQ below (ix_Post K (some (.int r)) (ix_w z d1)) args s 0 0 (ix_A K)) K 5 0 0 42 [(0, .ref (K.2.2.1 + a0)), (1, .long y1), (4, .int x4)] [] (ix_w z d) := by
    intro f
    induction f with
    | zero =>
      intro x4 d h
      have h : (none : Option (Int32 × ix_D2)) = some (r, d1) := h
      cases h
    | succ f ih =>
      intro x4 d h
      exact tb_X12_feed_42 hKp X hr hlk (rec42 := ix_fix (b_X12_feed_42 n z  a0 y1) (fun _ _ => none) f)  ih h
  exact key n x4 d h
set_option maxRecDepth 20000 in
theorem c_X12_feed {l : Launch} {K : ix_Cx} (hKp : ix_Kp K) {n : Nat} {z : ix_Z} {a0 : Nat} {y1 : Int64} {x3 : Int32} {d : ix_D2} {r : Int32} {d1 : ix_D2} (h : f_X12_feed n z a0 y1 x3 d = some (r, d1)) : ix_M l K yX12_feed cX12_feed 5 (some .int) 1 22 0 0 [.ref (K.2.2.1 + a0), .long y1, .int x3] (ix_w z d) (some (.int r)) (ix_w z d1) := by
  refine ix_met mf_X12_feed hKp (Nat.le_of_ble_eq_true rfl) ?_
  intro p e s m args below meth c hr hlk hnm X
  have X : ix_X p s m args c K cX12_feed RX12 5 := X
  show ix_G p l e (ix_rm 1 22 0 0) s m args below meth c (MQ below (ix_Post K (some (.int r)) (ix_w z d1)) args s 0 0 (ix_A K)) K 5 0 0 0 [(0, .ref (K.2.2.1 + a0)), (1, .long y1), (3, .int x3)] [] (ix_w z d)
  unfold f_X12_feed at h
  refine ix_iload_n (i := 3) (j := 2) X (ix_tb_at tb_X12_feed 0 rfl) rfl rfl (pc1 := 1) rfl ?_
  refine ix_iconst (v := 1) X (ix_tb_at tb_X12_feed 1 rfl) (by decide) (pc1 := 2) rfl ?_
  refine ix_bipush (v := 8) X (ix_tb_at tb_X12_feed 2 rfl) (by decide) (pc1 := 4) rfl ?_
  obtain ⟨r_3, d_1, h_2, h⟩ := ix_bd2_ex h
  refine ix_callS (As := [.int x3, .int 1, .int 8]) (rest := []) X mf_X12_in st_X12_in ml_RX12_238 ⟨Nat.le_of_ble_eq_true rfl, Nat.le_of_ble_eq_true rfl⟩ ⟨Nat.le_of_ble_eq_true rfl, Nat.le_of_ble_eq_true rfl⟩ rfl (Nat.le_of_ble_eq_true rfl) (ix_tb_at tb_X12_feed 3 rfl) (c_X12_in hKp h_2) rfl (pc1 := 7) rfl ?_
  refine ix_if_ne (tgt := 18) X (ix_tb_at tb_X12_feed 4 rfl) (by decide) (pc1 := 10) rfl (fun q_4 => ?_) (fun q_4 => ?_)
  · have h := ix_iff q_4 h
    refine ix_aload_n (i := 0) (j := 0) X (ix_tb_at tb_X12_feed 9 rfl) rfl rfl (pc1 := 19) rfl ?_
    obtain ⟨k_5, h⟩ := ix_ck_some h
    refine iz_getI X fl_RX12_259 k_5 (ix_tb_at tb_X12_feed 10 rfl) (pc1 := 22) rfl ?_
    refine ix_iload_n (i := 3) (j := 2) X (ix_tb_at tb_X12_feed 11 rfl) rfl rfl (pc1 := 23) rfl ?_
    refine ix_iadd X (ix_tb_at tb_X12_feed 12 rfl) (pc1 := 24) rfl ?_
    refine ix_bipush (v := 60) X (ix_tb_at tb_X12_feed 13 rfl) (by decide) (pc1 := 26) rfl ?_
    refine ix_icmp_le (tgt := 37) X (ix_tb_at tb_X12_feed 14 rfl) (by decide) (pc1 := 29) rfl (fun q_6 => ?_) (fun q_6 => ?_)
    · have h := ix_ift q_6 h
      refine ix_iload_n (i := 3) (j := 2) X (ix_tb_at tb_X12_feed 19 rfl) rfl rfl (pc1 := 38) rfl ?_
      refine ix_iconst (v := 1) X (ix_tb_at tb_X12_feed 20 rfl) (by decide) (pc1 := 39) rfl ?_
      refine ix_isub X (ix_tb_at tb_X12_feed 21 rfl) (pc1 := 40) rfl ?_
      obtain ⟨x4_7, e_8, h⟩ := ix_lt_ex h
      refine ix_nmi e_8 ?_
      refine ix_istore (i := 4) (L1 := [(4, .int x4_7), (0, .ref (K.2.2.1 + a0)), (1, .long y1), (3, .int x3)]) X (ix_tb_at tb_X12_feed 22 rfl) (Nat.le_of_ble_eq_true rfl) rfl (pc1 := 42) rfl ?_
      refine ix_sub (L1 := [(0, .ref (K.2.2.1 + a0)), (1, .long y1), (4, .int x4_7)]) [1, 2, 0] rfl ?_
      exact t_X12_feed_42 hKp X hr hlk  h
    · have h := ix_iff q_6 h
      refine ix_aload_n (i := 0) (j := 0) X (ix_tb_at tb_X12_feed 15 rfl) rfl rfl (pc1 := 30) rfl ?_
      refine ix_sipush (v := (-1003)) X (ix_tb_at tb_X12_feed 16 rfl) (by decide) (pc1 := 33) rfl ?_
      obtain ⟨r_23, d_21, h_22, h⟩ := ix_bd2_ex h
      refine ix_callV (As := [.int ((-1003))]) (rest := []) (ci := 11) (T := TX12) (nf := 116) X mf_X12_fail mi_X12_fail ms_X12_fail rfl (Nat.le_of_ble_eq_true rfl) ml_RX12_242 ⟨Nat.le_of_ble_eq_true rfl, Nat.le_of_ble_eq_true rfl⟩ ⟨Nat.le_of_ble_eq_true rfl, Nat.le_of_ble_eq_true rfl⟩ rfl (Nat.le_of_ble_eq_true rfl) (ix_tb_at tb_X12_feed 17 rfl) ⟨k_5.1, List.mem_singleton.mp k_5.2⟩ (c_X12_fail hKp h_22) rfl (pc1 := 36) rfl ?_
      exact ix_iret X hr hlk (ix_r2 (f := fun r => some (.int r)) (g := ix_w z) h) (ix_tb_at tb_X12_feed 18 rfl)
  · have h := ix_ift q_4 h
    refine ix_aload_n (i := 0) (j := 0) X (ix_tb_at tb_X12_feed 5 rfl) rfl rfl (pc1 := 11) rfl ?_
    refine ix_sipush (v := (-1001)) X (ix_tb_at tb_X12_feed 6 rfl) (by decide) (pc1 := 14) rfl ?_
    obtain ⟨k_26, h⟩ := ix_ck_some h
    obtain ⟨r_27, d_24, h_25, h⟩ := ix_bd2_ex h
    refine ix_callV (As := [.int ((-1001))]) (rest := []) (ci := 11) (T := TX12) (nf := 116) X mf_X12_fail mi_X12_fail ms_X12_fail rfl (Nat.le_of_ble_eq_true rfl) ml_RX12_242 ⟨Nat.le_of_ble_eq_true rfl, Nat.le_of_ble_eq_true rfl⟩ ⟨Nat.le_of_ble_eq_true rfl, Nat.le_of_ble_eq_true rfl⟩ rfl (Nat.le_of_ble_eq_true rfl) (ix_tb_at tb_X12_feed 7 rfl) ⟨k_26.1, List.mem_singleton.mp k_26.2⟩ (c_X12_fail hKp h_25) rfl (pc1 := 17) rfl ?_
    exact ix_iret X hr hlk (ix_r2 (f := fun r => some (.int r)) (g := ix_w z) h) (ix_tb_at tb_X12_feed 8 rfl)
def tab_X12_wipe : List (Nat × Instr × Nat) := [(0, .aload_n 0, 1), (1, .getfield 259, 3), (4, .istore_n 1, 1), (5, .aload_n 0, 1), (6, .iconst 0, 1), (7, .putfield 259, 3), (10, .iload_n 1, 1), (11, .ireturn, 1)]
theorem tb_X12_wipe : ix_tab cX12_wipe tab_X12_wipe := by
  unfold ix_tab
  decide +kernel
noncomputable def f_X12_wipe (n : Nat) (z : ix_Z) (a0 : Nat) (d : ix_D2) : Option (Int32 × ix_D2) :=
  ix_ck (ix_ok z [11] a0) (ix_lt (d.1 a0 8) (fun x1_2 => ix_lt (ix_di d a0 8 0) (fun d_4 => some (x1_2, d_4))))
set_option maxRecDepth 20000 in
theorem c_X12_wipe {l : Launch} {K : ix_Cx} (hKp : ix_Kp K) {n : Nat} {z : ix_Z} {a0 : Nat} {d : ix_D2} {r : Int32} {d1 : ix_D2} (h : f_X12_wipe n z a0 d = some (r, d1)) : ix_M l K yX12_wipe cX12_wipe 2 (some .int) 0 0 0 0 [.ref (K.2.2.1 + a0)] (ix_w z d) (some (.int r)) (ix_w z d1) := by
  refine ix_met mf_X12_wipe hKp (Nat.le_of_ble_eq_true rfl) ?_
  intro p e s m args below meth c hr hlk hnm X
  have X : ix_X p s m args c K cX12_wipe RX12 2 := X
  show ix_G p l e (ix_rm 0 0 0 0) s m args below meth c (MQ below (ix_Post K (some (.int r)) (ix_w z d1)) args s 0 0 (ix_A K)) K 2 0 0 0 [(0, .ref (K.2.2.1 + a0))] [] (ix_w z d)
  unfold f_X12_wipe at h
  refine ix_aload_n (i := 0) (j := 0) X (ix_tb_at tb_X12_wipe 0 rfl) rfl rfl (pc1 := 1) rfl ?_
  obtain ⟨k_1, h⟩ := ix_ck_some h
  refine iz_getI X fl_RX12_259 k_1 (ix_tb_at tb_X12_wipe 1 rfl) (pc1 := 4) rfl ?_
  obtain ⟨x1_2, e_3, h⟩ := ix_lt_ex h
  refine ix_nmi e_3 ?_
  refine ix_istore_n (i := 1) (L1 := [(1, .int x1_2), (0, .ref (K.2.2.1 + a0))]) X (ix_tb_at tb_X12_wipe 2 rfl) rfl (Nat.le_of_ble_eq_true rfl) rfl (pc1 := 5) rfl ?_
  refine ix_aload_n (i := 0) (j := 1) X (ix_tb_at tb_X12_wipe 3 rfl) rfl rfl (pc1 := 6) rfl ?_
  refine ix_iconst (v := 0) X (ix_tb_at tb_X12_wipe 4 rfl) (by decide) (pc1 := 7) rfl ?_
  obtain ⟨d_4, e_5, h⟩ := ix_lt_ex h
  refine iz_putI X fp_RX12_259 k_1 (ix_tb_at tb_X12_wipe 5 rfl) e_5 (pc1 := 10) rfl ?_
  refine ix_iload_n (i := 1) (j := 0) X (ix_tb_at tb_X12_wipe 6 rfl) rfl rfl (pc1 := 11) rfl ?_
  exact ix_iret X hr hlk (ix_r2 (f := fun r => some (.int r)) (g := ix_w z) h) (ix_tb_at tb_X12_wipe 7 rfl)
def tab_X12_beginLaying : List (Nat × Instr × Nat) := [(0, .aload_n 0, 1), (1, .aload_n 0, 1), (2, .getfield 264, 3), (5, .bipush 60, 2), (7, .if_icmp .ne 7, 3), (10, .iconst 1, 1), (11, .goto 4, 3), (14, .iconst 0, 1), (15, .putfield 267, 3), (18, .aload_n 0, 1), (19, .aload_n 0, 1), (20, .getfield 246, 3), (23, .putfield 270, 3), (26, .aload_n 0, 1), (27, .aload_n 0, 1), (28, .getfield 273, 3), (31, .putfield 276, 3), (34, .aload_n 0, 1), (35, .iconst 0, 1), (36, .putfield 279, 3), (39, .return_, 1)]
theorem tb_X12_beginLaying : ix_tab cX12_beginLaying tab_X12_beginLaying := by
  unfold ix_tab
  decide +kernel
noncomputable def f_X12_beginLaying_15 (n : Nat) (z : ix_Z)  (a0 : Nat) (s0 : Int32) (s1 : Nat) (d : ix_D2) : Option (ix_D2) :=
  ix_ck (ix_ok z [11] s1) (ix_ck (s0 = 0 ∨ s0 = 1) (ix_lt (ix_di d s1 36 s0) (fun d_5 => ix_ck (ix_ok z [11] a0) (ix_lt (ix_di d_5 a0 37 (d_5.1 a0 1)) (fun d_8 => ix_lt (ix_di d_8 a0 38 (d_8.1 a0 23)) (fun d_10 => ix_lt (ix_di d_10 a0 40 0) (fun d_12 => some d_12)))))))
noncomputable def f_X12_beginLaying (n : Nat) (z : ix_Z) (a0 : Nat) (d : ix_D2) : Option (ix_D2) :=
  ix_ck (ix_ok z [11] a0) (ix_if (d.1 a0 11 = 60) (f_X12_beginLaying_15 n z  a0 1 a0 d) (f_X12_beginLaying_15 n z  a0 0 a0 d))
set_option maxRecDepth 20000 in
theorem t_X12_beginLaying_15 {l : Launch} {p : Program} {e : Env} {s : State} {m : MethodId} {args : Array Value} {below : List Frame} {meth : Method} {c : Code} {K : ix_Cx} (hKp : ix_Kp K) {n : Nat} {z : ix_Z} (X : ix_X p s m args c K cX12_beginLaying RX12 1) (hr : meth.sig.returnType = (none : Option Jvm.ClassFile.FieldType)) (hlk : meth.locks = false)  {a0 : Nat} {s0 : Int32} {s1 : Nat} {d1 : ix_D2}  {d : ix_D2} (h : f_X12_beginLaying_15 n z  a0 s0 s1 d = some d1) : ix_G p l e (ix_rm 0 0 0 0) s m args below meth c (MQ below (ix_Post K none (ix_w z d1)) args s 0 0 (ix_A K)) K 1 0 0 15 [(0, .ref (K.2.2.1 + a0))] [.int s0, .ref (K.2.2.1 + s1)] (ix_w z d) := by
  unfold f_X12_beginLaying_15 at h
  obtain ⟨k_3, h⟩ := ix_ck_some h
  obtain ⟨k_4, h⟩ := ix_ck_some h
  obtain ⟨d_5, e_6, h⟩ := ix_lt_ex h
  refine iz_putZ X fp_RX12_267 k_3 (ix_tb_at tb_X12_beginLaying 8 rfl) k_4 e_6 (pc1 := 18) rfl ?_
  refine ix_aload_n (i := 0) (j := 0) X (ix_tb_at tb_X12_beginLaying 9 rfl) rfl rfl (pc1 := 19) rfl ?_
  refine ix_aload_n (i := 0) (j := 0) X (ix_tb_at tb_X12_beginLaying 10 rfl) rfl rfl (pc1 := 20) rfl ?_
  obtain ⟨k_7, h⟩ := ix_ck_some h
  refine iz_getI X fl_RX12_246 k_7 (ix_tb_at tb_X12_beginLaying 11 rfl) (pc1 := 23) rfl ?_
  obtain ⟨d_8, e_9, h⟩ := ix_lt_ex h
  refine iz_putI X fp_RX12_270 k_7 (ix_tb_at tb_X12_beginLaying 12 rfl) e_9 (pc1 := 26) rfl ?_
  refine ix_aload_n (i := 0) (j := 0) X (ix_tb_at tb_X12_beginLaying 13 rfl) rfl rfl (pc1 := 27) rfl ?_
  refine ix_aload_n (i := 0) (j := 0) X (ix_tb_at tb_X12_beginLaying 14 rfl) rfl rfl (pc1 := 28) rfl ?_
  refine iz_getI X fl_RX12_273 k_7 (ix_tb_at tb_X12_beginLaying 15 rfl) (pc1 := 31) rfl ?_
  obtain ⟨d_10, e_11, h⟩ := ix_lt_ex h
  refine iz_putI X fp_RX12_276 k_7 (ix_tb_at tb_X12_beginLaying 16 rfl) e_11 (pc1 := 34) rfl ?_
  refine ix_aload_n (i := 0) (j := 0) X (ix_tb_at tb_X12_beginLaying 17 rfl) rfl rfl (pc1 := 35) rfl ?_
  refine ix_iconst (v := 0) X (ix_tb_at tb_X12_beginLaying 18 rfl) (by decide) (pc1 := 36) rfl ?_
  obtain ⟨d_12, e_13, h⟩ := ix_lt_ex h
  refine iz_putI X fp_RX12_279 k_7 (ix_tb_at tb_X12_beginLaying 19 rfl) e_13 (pc1 := 39) rfl ?_
  exact ix_vret X hr hlk (ix_r1 (g := ix_w z) h) (ix_tb_at tb_X12_beginLaying 20 rfl)
set_option maxRecDepth 20000 in
theorem c_X12_beginLaying {l : Launch} {K : ix_Cx} (hKp : ix_Kp K) {n : Nat} {z : ix_Z} {a0 : Nat} {d : ix_D2} {d1 : ix_D2} (h : f_X12_beginLaying n z a0 d = some d1) : ix_M l K yX12_beginLaying cX12_beginLaying 1 (none : Option Jvm.ClassFile.FieldType) 0 0 0 0 [.ref (K.2.2.1 + a0)] (ix_w z d) none (ix_w z d1) := by
  refine ix_met mf_X12_beginLaying hKp (Nat.le_of_ble_eq_true rfl) ?_
  intro p e s m args below meth c hr hlk hnm X
  have X : ix_X p s m args c K cX12_beginLaying RX12 1 := X
  show ix_G p l e (ix_rm 0 0 0 0) s m args below meth c (MQ below (ix_Post K none (ix_w z d1)) args s 0 0 (ix_A K)) K 1 0 0 0 [(0, .ref (K.2.2.1 + a0))] [] (ix_w z d)
  unfold f_X12_beginLaying at h
  refine ix_aload_n (i := 0) (j := 0) X (ix_tb_at tb_X12_beginLaying 0 rfl) rfl rfl (pc1 := 1) rfl ?_
  refine ix_aload_n (i := 0) (j := 0) X (ix_tb_at tb_X12_beginLaying 1 rfl) rfl rfl (pc1 := 2) rfl ?_
  obtain ⟨k_1, h⟩ := ix_ck_some h
  refine iz_getI X fl_RX12_264 k_1 (ix_tb_at tb_X12_beginLaying 2 rfl) (pc1 := 5) rfl ?_
  refine ix_bipush (v := 60) X (ix_tb_at tb_X12_beginLaying 3 rfl) (by decide) (pc1 := 7) rfl ?_
  refine ix_icmp_ne (tgt := 14) X (ix_tb_at tb_X12_beginLaying 4 rfl) (by decide) (pc1 := 10) rfl (fun q_2 => ?_) (fun q_2 => ?_)
  · have h := ix_iff q_2 h
    refine ix_iconst (v := 0) X (ix_tb_at tb_X12_beginLaying 7 rfl) (by decide) (pc1 := 15) rfl ?_
    refine ix_sub (L1 := [(0, .ref (K.2.2.1 + a0))]) [0] rfl ?_
    exact t_X12_beginLaying_15 hKp X hr hlk  h
  · have h := ix_ift q_2 h
    refine ix_iconst (v := 1) X (ix_tb_at tb_X12_beginLaying 5 rfl) (by decide) (pc1 := 11) rfl ?_
    refine ix_goto (tgt := 15) X (ix_tb_at tb_X12_beginLaying 6 rfl) (by decide) ?_
    refine ix_sub (L1 := [(0, .ref (K.2.2.1 + a0))]) [0] rfl ?_
    exact t_X12_beginLaying_15 hKp X hr hlk  h
def tab_X12_lay : List (Nat × Instr × Nat) := [(0, .iconst 0, 1), (1, .istore_n 2, 1), (2, .iconst 0, 1), (3, .istore_n 3, 1), (4, .iload_n 3, 1), (5, .aload_n 0, 1), (6, .getfield 279, 3), (9, .if_icmp .ge 29, 3), (12, .iload_n 2, 1), (13, .ifCond .ne 13, 3), (16, .aload_n 0, 1), (17, .getfield 83, 3), (20, .iload_n 3, 1), (21, .iaload, 1), (22, .iload_n 1, 1), (23, .if_icmp .ne 7, 3), (26, .iconst 1, 1), (27, .goto 4, 3), (30, .iconst 0, 1), (31, .istore_n 2, 1), (32, .iinc 3 1, 3), (35, .goto (-31), 3), (38, .iload_n 2, 1), (39, .ifCond .ne 23, 3), (42, .aload_n 0, 1), (43, .getfield 83, 3), (46, .aload_n 0, 1), (47, .getfield 279, 3), (50, .iload_n 1, 1), (51, .iastore, 1), (52, .aload_n 0, 1), (53, .dup, 1), (54, .getfield 279, 3), (57, .iconst 1, 1), (58, .iadd, 1), (59, .putfield 279, 3), (62, .return_, 1)]
theorem tb_X12_lay : ix_tab cX12_lay tab_X12_lay := by
  unfold ix_tab
  decide +kernel
noncomputable def f_X12_lay_31 (n : Nat) (z : ix_Z) (rec4 : Int32 → Int32 → ix_D2 → Option (ix_D2)) (a0 : Nat) (x1 : Int32) (x3 : Int32) (s0 : Int32) (d : ix_D2) : Option (ix_D2) :=
  ix_lt (x3 + 1) (fun x3_12 => rec4 s0 x3_12 d)
noncomputable def f_X12_lay_26 (n : Nat) (z : ix_Z) (rec4 : Int32 → Int32 → ix_D2 → Option (ix_D2)) (a0 : Nat) (x1 : Int32) (x3 : Int32) (d : ix_D2) : Option (ix_D2) :=
  f_X12_lay_31 n z rec4 a0 x1 x3 1 d
noncomputable def b_X12_lay_4 (n : Nat) (z : ix_Z)  (a0 : Nat) (x1 : Int32) (rec4 : Int32 → Int32 → ix_D2 → Option (ix_D2)) (x2 : Int32) (x3 : Int32) (d : ix_D2) : Option (ix_D2) :=
  ix_ck (ix_ok z [11] a0) (ix_if (d.1 a0 40 ≤ x3) (ix_if (x2 = 0) (ix_bd1 (z.1 a0 39) (fun b_4 => ix_ck (ix_ix z 20 b_4 (d.1 a0 40)) (ix_lt (ix_di d b_4 (ix_n (d.1 a0 40)) x1) (fun d_7 => ix_lt (ix_di d_7 a0 40 ((d_7.1 a0 40) + 1)) (fun d_9 => some d_9))))) (some d)) (ix_if (x2 = 0) (ix_bd1 (z.1 a0 39) (fun b_14 => ix_ck (ix_ix z 20 b_14 x3) (ix_if (d.1 b_14 (ix_n x3) = x1) (f_X12_lay_26 n z rec4 a0 x1 x3 d) (f_X12_lay_31 n z rec4 a0 x1 x3 0 d)))) (f_X12_lay_26 n z rec4 a0 x1 x3 d)))
noncomputable def f_X12_lay_4 (n : Nat) (z : ix_Z)  (a0 : Nat) (x1 : Int32) (x2 : Int32) (x3 : Int32) (d : ix_D2) : Option (ix_D2) := ix_fix (b_X12_lay_4 n z  a0 x1) (fun _ _ _ => none) n x2 x3 d
noncomputable def f_X12_lay (n : Nat) (z : ix_Z) (a0 : Nat) (x1 : Int32) (d : ix_D2) : Option (ix_D2) :=
  f_X12_lay_4 n z  a0 x1 0 0 d
set_option maxRecDepth 20000 in
theorem t_X12_lay_31 {l : Launch} {p : Program} {e : Env} {s : State} {m : MethodId} {args : Array Value} {below : List Frame} {meth : Method} {c : Code} {K : ix_Cx} (hKp : ix_Kp K) {n : Nat} {z : ix_Z} (X : ix_X p s m args c K cX12_lay RX12 4) (hr : meth.sig.returnType = (none : Option Jvm.ClassFile.FieldType)) (hlk : meth.locks = false) {rec4 : Int32 → Int32 → ix_D2 → Option (ix_D2)} {a0 : Nat} {x1 : Int32} {x3 : Int32} {s0 : Int32} {d1 : ix_D2} (hrec4 : ∀ (x2 : Int32) (x3 : Int32) (d : ix_D2), rec4 x2 x3 d = some d1 → ix_G p l e (ix_rm 0 0 0 0) s m args below meth c (MQ below (ix_Post K none (ix_w z d1)) args s 0 0 (ix_A K)) K 4 0 0 4 [(0, .ref (K.2.2.1 + a0)), (1, .int x1), (2, .int x2), (3, .int x3)] [] (ix_w z d)) {d : ix_D2} (h : f_X12_lay_31 n z rec4 a0 x1 x3 s0 d = some d1) : ix_G p l e (ix_rm 0 0 0 0) s m args below meth c (MQ below (ix_Post K none (ix_w z d1)) args s 0 0 (ix_A K)) K 4 0 0 31 [(0, .ref (K.2.2.1 + a0)), (1, .int x1), (3, .int x3)] [.int s0] (ix_w z d) := by
  unfold f_X12_lay_31 at h
  refine ix_istore_n (i := 2) (L1 := [(2, .int s0), (0, .ref (K.2.2.1 + a0)), (1, .int x1), (3, .int x3)]) X (ix_tb_at tb_X12_lay 19 rfl) rfl (Nat.le_of_ble_eq_true rfl) rfl (pc1 := 32) rfl ?_
  obtain ⟨x3_12, e_13, h⟩ := ix_lt_ex h
  refine ix_iinc (i := 3) (j := 3) (v := x3_12) (L1 := [(3, .int x3_12), (2, .int s0), (0, .ref (K.2.2.1 + a0)), (1, .int x1)]) X (ix_tb_at tb_X12_lay 20 rfl) rfl (by rw [oi_1]; exact e_13.symm) (Nat.le_of_ble_eq_true rfl) rfl (pc1 := 35) rfl ?_
  refine ix_goto (tgt := 4) X (ix_tb_at tb_X12_lay 21 rfl) (by decide) ?_
  refine ix_sub (L1 := [(0, .ref (K.2.2.1 + a0)), (1, .int x1), (2, .int s0), (3, .int x3_12)]) [2, 3, 1, 0] rfl ?_
  exact hrec4 s0 x3_12 d h
set_option maxRecDepth 20000 in
theorem t_X12_lay_26 {l : Launch} {p : Program} {e : Env} {s : State} {m : MethodId} {args : Array Value} {below : List Frame} {meth : Method} {c : Code} {K : ix_Cx} (hKp : ix_Kp K) {n : Nat} {z : ix_Z} (X : ix_X p s m args c K cX12_lay RX12 4) (hr : meth.sig.returnType = (none : Option Jvm.ClassFile.FieldType)) (hlk : meth.locks = false) {rec4 : Int32 → Int32 → ix_D2 → Option (ix_D2)} {a0 : Nat} {x1 : Int32} {x3 : Int32} {d1 : ix_D2} (hrec4 : ∀ (x2 : Int32) (x3 : Int32) (d : ix_D2), rec4 x2 x3 d = some d1 → ix_G p l e (ix_rm 0 0 0 0) s m args below meth c (MQ below (ix_Post K none (ix_w z d1)) args s 0 0 (ix_A K)) K 4 0 0 4 [(0, .ref (K.2.2.1 + a0)), (1, .int x1), (2, .int x2), (3, .int x3)] [] (ix_w z d)) {d : ix_D2} (h : f_X12_lay_26 n z rec4 a0 x1 x3 d = some d1) : ix_G p l e (ix_rm 0 0 0 0) s m args below meth c (MQ below (ix_Post K none (ix_w z d1)) args s 0 0 (ix_A K)) K 4 0 0 26 [(0, .ref (K.2.2.1 + a0)), (1, .int x1), (3, .int x3)] [] (ix_w z d) := by
  unfold f_X12_lay_26 at h
  refine ix_iconst (v := 1) X (ix_tb_at tb_X12_lay 16 rfl) (by decide) (pc1 := 27) rfl ?_
  refine ix_goto (tgt := 31) X (ix_tb_at tb_X12_lay 17 rfl) (by decide) ?_
  refine ix_sub (L1 := [(0, .ref (K.2.2.1 + a0)), (1, .int x1), (3, .int x3)]) [0, 1, 2] rfl ?_
  exact t_X12_lay_31 hKp X hr hlk hrec4 h
set_option maxRecDepth 20000 in
theorem tb_X12_lay_4 {l : Launch} {p : Program} {e : Env} {s : State} {m : MethodId} {args : Array Value} {below : List Frame} {meth : Method} {c : Code} {K : ix_Cx} (hKp : ix_Kp K) {n : Nat} {z : ix_Z} (X : ix_X p s m args c K cX12_lay RX12 4) (hr : meth.sig.returnType = (none : Option Jvm.ClassFile.FieldType)) (hlk : meth.locks = false)  {a0 : Nat} {x1 : Int32} {rec4 : Int32 → Int32 → ix_D2 → Option (ix_D2)} {d1 : ix_D2} (hrec4 : ∀ (x2 : Int32) (x3 : Int32) (d : ix_D2), rec4 x2 x3 d = some d1 → ix_G p l e (ix_rm 0 0 0 0) s m args below meth c (MQ below (ix_Post K none (ix_w z d1)) args s 0 0 (ix_A K)) K 4 0 0 4 [(0, .ref (K.2.2.1 + a0)), (1, .int x1), (2, .int x2), (3, .int x3)] [] (ix_w z d)) {x2 : Int32} {x3 : Int32} {d : ix_D2} (h : b_X12_lay_4 n z  a0 x1 rec4 x2 x3 d = some d1) : ix_G p l e (ix_rm 0 0 0 0) s m args below meth c (MQ below (ix_Post K none (ix_w z d1)) args s 0 0 (ix_A K)) K 4 0 0 4 [(0, .ref (K.2.2.1 + a0)), (1, .int x1), (2, .int x2), (3, .int x3)] [] (ix_w z d) := by
  unfold b_X12_lay_4 at h
  refine ix_iload_n (i := 3) (j := 3) X (ix_tb_at tb_X12_lay 4 rfl) rfl rfl (pc1 := 5) rfl ?_
  refine ix_aload_n (i := 0) (j := 0) X (ix_tb_at tb_X12_lay 5 rfl) rfl rfl (pc1 := 6) rfl ?_
  obtain ⟨k_1, h⟩ := ix_ck_some h
  refine iz_getI X fl_RX12_279 k_1 (ix_tb_at tb_X12_lay 6 rfl) (pc1 := 9) rfl ?_
  refine ix_icmp_ge (tgt := 38) X (ix_tb_at tb_X12_lay 7 rfl) (by decide) (pc1 := 12) rfl (fun q_2 => ?_) (fun q_2 => ?_)
  · have h := ix_ift q_2 h
    refine ix_iload_n (i := 2) (j := 2) X (ix_tb_at tb_X12_lay 22 rfl) rfl rfl (pc1 := 39) rfl ?_
    refine ix_if_ne (tgt := 62) X (ix_tb_at tb_X12_lay 23 rfl) (by decide) (pc1 := 42) rfl (fun q_3 => ?_) (fun q_3 => ?_)
    · have h := ix_iff q_3 h
      exact ix_vret X hr hlk (ix_r1 (g := ix_w z) h) (ix_tb_at tb_X12_lay 36 rfl)
    · have h := ix_ift q_3 h
      refine ix_aload_n (i := 0) (j := 0) X (ix_tb_at tb_X12_lay 24 rfl) rfl rfl (pc1 := 43) rfl ?_
      obtain ⟨b_4, q_5, h⟩ := ix_bd1_ex h
      refine iz_getR X fl_RX12_83 k_1 q_5 (ix_tb_at tb_X12_lay 25 rfl) (pc1 := 46) rfl ?_
      refine ix_aload_n (i := 0) (j := 0) X (ix_tb_at tb_X12_lay 26 rfl) rfl rfl (pc1 := 47) rfl ?_
      refine iz_getI X fl_RX12_279 k_1 (ix_tb_at tb_X12_lay 27 rfl) (pc1 := 50) rfl ?_
      refine ix_iload_n (i := 1) (j := 1) X (ix_tb_at tb_X12_lay 28 rfl) rfl rfl (pc1 := 51) rfl ?_
      obtain ⟨k_6, h⟩ := ix_ck_some h
      obtain ⟨d_7, e_8, h⟩ := ix_lt_ex h
      refine iz_iast X k_6 (ix_tb_at tb_X12_lay 29 rfl) e_8 (pc1 := 52) rfl ?_
      refine ix_aload_n (i := 0) (j := 0) X (ix_tb_at tb_X12_lay 30 rfl) rfl rfl (pc1 := 53) rfl ?_
      refine ix_dup X (ix_tb_at tb_X12_lay 31 rfl) rfl (pc1 := 54) rfl ?_
      refine iz_getI X fl_RX12_279 k_1 (ix_tb_at tb_X12_lay 32 rfl) (pc1 := 57) rfl ?_
      refine ix_iconst (v := 1) X (ix_tb_at tb_X12_lay 33 rfl) (by decide) (pc1 := 58) rfl ?_
      refine ix_iadd X (ix_tb_at tb_X12_lay 34 rfl) (pc1 := 59) rfl ?_
      obtain ⟨d_9, e_10, h⟩ := ix_lt_ex h
      refine iz_putI X fp_RX12_279 k_1 (ix_tb_at tb_X12_lay 35 rfl) e_10 (pc1 := 62) rfl ?_
      exact ix_vret X hr hlk (ix_r1 (g := ix_w z) h) (ix_tb_at tb_X12_lay 36 rfl)
  · have h := ix_iff q_2 h
    refine ix_iload_n (i := 2) (j := 2) X (ix_tb_at tb_X12_lay 8 rfl) rfl rfl (pc1 := 13) rfl ?_
    refine ix_if_ne (tgt := 26) X (ix_tb_at tb_X12_lay 9 rfl) (by decide) (pc1 := 16) rfl (fun q_11 => ?_) (fun q_11 => ?_)
    · have h := ix_iff q_11 h
      refine ix_sub (L1 := [(0, .ref (K.2.2.1 + a0)), (1, .int x1), (3, .int x3)]) [0, 1, 3] rfl ?_
      exact t_X12_lay_26 hKp X hr hlk hrec4 h
    · have h := ix_ift q_11 h
      refine ix_aload_n (i := 0) (j := 0) X (ix_tb_at tb_X12_lay 10 rfl) rfl rfl (pc1 := 17) rfl ?_
      obtain ⟨b_14, q_15, h⟩ := ix_bd1_ex h
      refine iz_getR X fl_RX12_83 k_1 q_15 (ix_tb_at tb_X12_lay 11 rfl) (pc1 := 20) rfl ?_
      refine ix_iload_n (i := 3) (j := 3) X (ix_tb_at tb_X12_lay 12 rfl) rfl rfl (pc1 := 21) rfl ?_
      obtain ⟨k_16, h⟩ := ix_ck_some h
      refine iz_iald X k_16 (ix_tb_at tb_X12_lay 13 rfl) (pc1 := 22) rfl ?_
      refine ix_iload_n (i := 1) (j := 1) X (ix_tb_at tb_X12_lay 14 rfl) rfl rfl (pc1 := 23) rfl ?_
      refine ix_icmp_ne (tgt := 30) X (ix_tb_at tb_X12_lay 15 rfl) (by decide) (pc1 := 26) rfl (fun q_17 => ?_) (fun q_17 => ?_)
      · have h := ix_iff q_17 h
        refine ix_iconst (v := 0) X (ix_tb_at tb_X12_lay 18 rfl) (by decide) (pc1 := 31) rfl ?_
        refine ix_sub (L1 := [(0, .ref (K.2.2.1 + a0)), (1, .int x1), (3, .int x3)]) [0, 1, 3] rfl ?_
        exact t_X12_lay_31 hKp X hr hlk hrec4 h
      · have h := ix_ift q_17 h
        refine ix_sub (L1 := [(0, .ref (K.2.2.1 + a0)), (1, .int x1), (3, .int x3)]) [0, 1, 3] rfl ?_
        exact t_X12_lay_26 hKp X hr hlk hrec4 h
theorem t_X12_lay_4 {l : Launch} {p : Program} {e : Env} {s : State} {m : MethodId} {args : Array Value} {below : List Frame} {meth : Method} {c : Code} {K : ix_Cx} (hKp : ix_Kp K) {n : Nat} {z : ix_Z} (X : ix_X p s m args c K cX12_lay RX12 4) (hr : meth.sig.returnType = (none : Option Jvm.ClassFile.FieldType)) (hlk : meth.locks = false)  {a0 : Nat} {x1 : Int32} {d1 : ix_D2}  {x2 : Int32} {x3 : Int32} {d : ix_D2} (h : f_X12_lay_4 n z  a0 x1 x2 x3 d = some d1) : ix_G p l e (ix_rm 0 0 0 0) s m args below meth c (MQ below (ix_Post K none (ix_w z d1)) args s 0 0 (ix_A K)) K 4 0 0 4 [(0, .ref (K.2.2.1 + a0)), (1, .int x1), (2, .int x2), (3, .int x3)] [] (ix_w z d) := by
  have key : ∀ (f : Nat) (x2 : Int32) (x3 : Int32) (d : ix_D2), ix_fix (b_X12_lay_4 n z  a0 x1) (fun _ _ _ => none) f x2 x3 d = some d1 → ix_G p l e (ix_rm 0 0 0 0) s m args below meth c (MQ below (ix_Post K none (ix_w z d1)) args s 0 0 (ix_A K)) K 4 0 0 4 [(0, .ref (K.2.2.1 + a0)), (1, .int x1), (2, .int x2), (3, .int x3)] [] (ix_w z d) := by
    intro f
    induction f with
    | zero =>
      intro x2 x3 d h
      have h : (none : Option (ix_D2)) = some d1 := h
      cases h
    | succ f ih =>
      intro x2 x3 d h
      exact tb_X12_lay_4 hKp X hr hlk (rec4 := ix_fix (b_X12_lay_4 n z  a0 x1) (fun _ _ _ => none) f)  ih h
  exact key n x2 x3 d h
set_option maxRecDepth 20000 in
theorem c_X12_lay {l : Launch} {K : ix_Cx} (hKp : ix_Kp K) {n : Nat} {z : ix_Z} {a0 : Nat} {x1 : Int32} {d : ix_D2} {d1 : ix_D2} (h : f_X12_lay n z a0 x1 d = some d1) : ix_M l K yX12_lay cX12_lay 4 (none : Option Jvm.ClassFile.FieldType) 0 0 0 0 [.ref (K.2.2.1 + a0), .int x1] (ix_w z d) none (ix_w z d1) := by
  refine ix_met mf_X12_lay hKp (Nat.le_of_ble_eq_true rfl) ?_
  intro p e s m args below meth c hr hlk hnm X
  have X : ix_X p s m args c K cX12_lay RX12 4 := X
  show ix_G p l e (ix_rm 0 0 0 0) s m args below meth c (MQ below (ix_Post K none (ix_w z d1)) args s 0 0 (ix_A K)) K 4 0 0 0 [(0, .ref (K.2.2.1 + a0)), (1, .int x1)] [] (ix_w z d)
  unfold f_X12_lay at h
  refine ix_iconst (v := 0) X (ix_tb_at tb_X12_lay 0 rfl) (by decide) (pc1 := 1) rfl ?_
  refine ix_istore_n (i := 2) (L1 := [(2, .int 0), (0, .ref (K.2.2.1 + a0)), (1, .int x1)]) X (ix_tb_at tb_X12_lay 1 rfl) rfl (Nat.le_of_ble_eq_true rfl) rfl (pc1 := 2) rfl ?_
  refine ix_iconst (v := 0) X (ix_tb_at tb_X12_lay 2 rfl) (by decide) (pc1 := 3) rfl ?_
  refine ix_istore_n (i := 3) (L1 := [(3, .int 0), (2, .int 0), (0, .ref (K.2.2.1 + a0)), (1, .int x1)]) X (ix_tb_at tb_X12_lay 3 rfl) rfl (Nat.le_of_ble_eq_true rfl) rfl (pc1 := 4) rfl ?_
  refine ix_sub (L1 := [(0, .ref (K.2.2.1 + a0)), (1, .int x1), (2, .int 0), (3, .int 0)]) [2, 3, 1, 0] rfl ?_
  exact t_X12_lay_4 hKp X hr hlk  h
def tab_X12_endRow : List (Nat × Instr × Nat) := [(0, .aload_n 0, 1), (1, .aload_n 0, 1), (2, .getfield 267, 3), (5, .ifCond .ne 33, 3), (8, .aload_n 0, 1), (9, .getfield 273, 3), (12, .sipush 500, 3), (15, .if_icmp .eq 23, 3), (18, .aload_n 0, 1), (19, .getfield 62, 3), (22, .aload_n 0, 1), (23, .getfield 273, 3), (26, .iaload, 1), (27, .aload_n 0, 1), (28, .getfield 279, 3), (31, .iadd, 1), (32, .sipush 2500, 3), (35, .if_icmp .le 7, 3), (38, .iconst 1, 1), (39, .goto 4, 3), (42, .iconst 0, 1), (43, .putfield 267, 3), (46, .aload_n 0, 1), (47, .getfield 267, 3), (50, .ifCond .ne 76, 3), (53, .iconst 0, 1), (54, .istore_n 1, 1), (55, .iload_n 1, 1), (56, .aload_n 0, 1), (57, .getfield 279, 3), (60, .if_icmp .ge 31, 3), (63, .aload_n 0, 1), (64, .getfield 65, 3), (67, .aload_n 0, 1), (68, .getfield 62, 3), (71, .aload_n 0, 1), (72, .getfield 273, 3), (75, .iaload, 1), (76, .iload_n 1, 1), (77, .iadd, 1), (78, .aload_n 0, 1), (79, .getfield 83, 3), (82, .iload_n 1, 1), (83, .iaload, 1), (84, .iastore, 1), (85, .iinc 1 1, 3), (88, .goto (-33), 3), (91, .aload_n 0, 1), (92, .getfield 62, 3), (95, .aload_n 0, 1), (96, .getfield 273, 3), (99, .iconst 1, 1), (100, .iadd, 1), (101, .aload_n 0, 1), (102, .getfield 62, 3), (105, .aload_n 0, 1), (106, .getfield 273, 3), (109, .iaload, 1), (110, .aload_n 0, 1), (111, .getfield 279, 3), (114, .iadd, 1), (115, .iastore, 1), (116, .aload_n 0, 1), (117, .dup, 1), (118, .getfield 273, 3), (121, .iconst 1, 1), (122, .iadd, 1), (123, .putfield 273, 3), (126, .aload_n 0, 1), (127, .iconst 0, 1), (128, .putfield 279, 3), (131, .return_, 1)]
theorem tb_X12_endRow : ix_tab cX12_endRow tab_X12_endRow := by
  unfold ix_tab
  decide +kernel
noncomputable def f_X12_endRow_126 (n : Nat) (z : ix_Z)  (a0 : Nat) (d : ix_D2) : Option (ix_D2) :=
  ix_ck (ix_ok z [11] a0) (ix_lt (ix_di d a0 40 0) (fun d_10 => some d_10))
noncomputable def b_X12_endRow_55 (n : Nat) (z : ix_Z)  (a0 : Nat) (rec55 : Int32 → ix_D2 → Option (ix_D2)) (x1 : Int32) (d : ix_D2) : Option (ix_D2) :=
  ix_ck (ix_ok z [11] a0) (ix_if (d.1 a0 40 ≤ x1) (ix_bd1 (z.1 a0 24) (fun b_14 => ix_ck (ix_ix z 20 b_14 (d.1 a0 23)) (ix_ck (ix_ix z 20 b_14 ((d.1 a0 23) + 1)) (ix_lt (ix_di d b_14 (ix_n ((d.1 a0 23) + 1)) ((d.1 b_14 (ix_n (d.1 a0 23))) + (d.1 a0 40))) (fun d_18 => ix_lt (ix_di d_18 a0 23 ((d_18.1 a0 23) + 1)) (fun d_20 => f_X12_endRow_126 n z  a0 d_20)))))) (ix_bd1 (z.1 a0 25) (fun b_22 => ix_bd1 (z.1 a0 24) (fun b_24 => ix_ck (ix_ix z 20 b_24 (d.1 a0 23)) (ix_bd1 (z.1 a0 39) (fun b_27 => ix_ck (ix_ix z 20 b_27 x1) (ix_ck (ix_ix z 20 b_22 ((d.1 b_24 (ix_n (d.1 a0 23))) + x1)) (ix_lt (ix_di d b_22 (ix_n ((d.1 b_24 (ix_n (d.1 a0 23))) + x1)) (d.1 b_27 (ix_n x1))) (fun d_31 => ix_lt (x1 + 1) (fun x1_33 => rec55 x1_33 d_31))))))))))
noncomputable def f_X12_endRow_55 (n : Nat) (z : ix_Z)  (a0 : Nat) (x1 : Int32) (d : ix_D2) : Option (ix_D2) := ix_fix (b_X12_endRow_55 n z  a0) (fun _ _ => none) n x1 d
noncomputable def f_X12_endRow_43 (n : Nat) (z : ix_Z)  (a0 : Nat) (s0 : Int32) (s1 : Nat) (d : ix_D2) : Option (ix_D2) :=
  ix_ck (ix_ok z [11] s1) (ix_ck (s0 = 0 ∨ s0 = 1) (ix_lt (ix_di d s1 36 s0) (fun d_5 => ix_ck (ix_ok z [11] a0) (ix_if (d_5.1 a0 36 = 0) (f_X12_endRow_55 n z  a0 0 d_5) (f_X12_endRow_126 n z  a0 d_5)))))
noncomputable def f_X12_endRow_38 (n : Nat) (z : ix_Z)  (a0 : Nat) (s0 : Nat) (d : ix_D2) : Option (ix_D2) :=
  f_X12_endRow_43 n z  a0 1 s0 d
noncomputable def f_X12_endRow (n : Nat) (z : ix_Z) (a0 : Nat) (d : ix_D2) : Option (ix_D2) :=
  ix_ck (ix_ok z [11] a0) (ix_if (d.1 a0 36 = 0) (ix_if (d.1 a0 23 = 500) (f_X12_endRow_38 n z  a0 a0 d) (ix_bd1 (z.1 a0 24) (fun b_36 => ix_ck (ix_ix z 20 b_36 (d.1 a0 23)) (ix_if ((d.1 b_36 (ix_n (d.1 a0 23))) + (d.1 a0 40) ≤ 2500) (f_X12_endRow_43 n z  a0 0 a0 d) (f_X12_endRow_38 n z  a0 a0 d))))) (f_X12_endRow_38 n z  a0 a0 d))
set_option maxRecDepth 20000 in
theorem t_X12_endRow_126 {l : Launch} {p : Program} {e : Env} {s : State} {m : MethodId} {args : Array Value} {below : List Frame} {meth : Method} {c : Code} {K : ix_Cx} (hKp : ix_Kp K) {n : Nat} {z : ix_Z} (X : ix_X p s m args c K cX12_endRow RX12 2) (hr : meth.sig.returnType = (none : Option Jvm.ClassFile.FieldType)) (hlk : meth.locks = false)  {a0 : Nat} {d1 : ix_D2}  {d : ix_D2} (h : f_X12_endRow_126 n z  a0 d = some d1) : ix_G p l e (ix_rm 0 0 0 0) s m args below meth c (MQ below (ix_Post K none (ix_w z d1)) args s 0 0 (ix_A K)) K 2 0 0 126 [(0, .ref (K.2.2.1 + a0))] [] (ix_w z d) := by
  unfold f_X12_endRow_126 at h
  refine ix_aload_n (i := 0) (j := 0) X (ix_tb_at tb_X12_endRow 68 rfl) rfl rfl (pc1 := 127) rfl ?_
  refine ix_iconst (v := 0) X (ix_tb_at tb_X12_endRow 69 rfl) (by decide) (pc1 := 128) rfl ?_
  obtain ⟨k_9, h⟩ := ix_ck_some h
  obtain ⟨d_10, e_11, h⟩ := ix_lt_ex h
  refine iz_putI X fp_RX12_279 k_9 (ix_tb_at tb_X12_endRow 70 rfl) e_11 (pc1 := 131) rfl ?_
  exact ix_vret X hr hlk (ix_r1 (g := ix_w z) h) (ix_tb_at tb_X12_endRow 71 rfl)
set_option maxRecDepth 20000 in
theorem tb_X12_endRow_55 {l : Launch} {p : Program} {e : Env} {s : State} {m : MethodId} {args : Array Value} {below : List Frame} {meth : Method} {c : Code} {K : ix_Cx} (hKp : ix_Kp K) {n : Nat} {z : ix_Z} (X : ix_X p s m args c K cX12_endRow RX12 2) (hr : meth.sig.returnType = (none : Option Jvm.ClassFile.FieldType)) (hlk : meth.locks = false)  {a0 : Nat} {rec55 : Int32 → ix_D2 → Option (ix_D2)} {d1 : ix_D2} (hrec55 : ∀ (x1 : Int32) (d : ix_D2), rec55 x1 d = some d1 → ix_G p l e (ix_rm 0 0 0 0) s m args below meth c (MQ below (ix_Post K none (ix_w z d1)) args s 0 0 (ix_A K)) K 2 0 0 55 [(0, .ref (K.2.2.1 + a0)), (1, .int x1)] [] (ix_w z d)) {x1 : Int32} {d : ix_D2} (h : b_X12_endRow_55 n z  a0 rec55 x1 d = some d1) : ix_G p l e (ix_rm 0 0 0 0) s m args below meth c (MQ below (ix_Post K none (ix_w z d1)) args s 0 0 (ix_A K)) K 2 0 0 55 [(0, .ref (K.2.2.1 + a0)), (1, .int x1)] [] (ix_w z d) := by
  unfold b_X12_endRow_55 at h
  refine ix_iload_n (i := 1) (j := 1) X (ix_tb_at tb_X12_endRow 27 rfl) rfl rfl (pc1 := 56) rfl ?_
  refine ix_aload_n (i := 0) (j := 0) X (ix_tb_at tb_X12_endRow 28 rfl) rfl rfl (pc1 := 57) rfl ?_
  obtain ⟨k_12, h⟩ := ix_ck_some h
  refine iz_getI X fl_RX12_279 k_12 (ix_tb_at tb_X12_endRow 29 rfl) (pc1 := 60) rfl ?_
  refine ix_icmp_ge (tgt := 91) X (ix_tb_at tb_X12_endRow 30 rfl) (by decide) (pc1 := 63) rfl (fun q_13 => ?_) (fun q_13 => ?_)
  · have h := ix_ift q_13 h
    refine ix_aload_n (i := 0) (j := 0) X (ix_tb_at tb_X12_endRow 47 rfl) rfl rfl (pc1 := 92) rfl ?_
    obtain ⟨b_14, q_15, h⟩ := ix_bd1_ex h
    refine iz_getR X fl_RX12_62 k_12 q_15 (ix_tb_at tb_X12_endRow 48 rfl) (pc1 := 95) rfl ?_
    refine ix_aload_n (i := 0) (j := 0) X (ix_tb_at tb_X12_endRow 49 rfl) rfl rfl (pc1 := 96) rfl ?_
    refine iz_getI X fl_RX12_273 k_12 (ix_tb_at tb_X12_endRow 50 rfl) (pc1 := 99) rfl ?_
    refine ix_iconst (v := 1) X (ix_tb_at tb_X12_endRow 51 rfl) (by decide) (pc1 := 100) rfl ?_
    refine ix_iadd X (ix_tb_at tb_X12_endRow 52 rfl) (pc1 := 101) rfl ?_
    refine ix_aload_n (i := 0) (j := 0) X (ix_tb_at tb_X12_endRow 53 rfl) rfl rfl (pc1 := 102) rfl ?_
    refine iz_getR X fl_RX12_62 k_12 q_15 (ix_tb_at tb_X12_endRow 54 rfl) (pc1 := 105) rfl ?_
    refine ix_aload_n (i := 0) (j := 0) X (ix_tb_at tb_X12_endRow 55 rfl) rfl rfl (pc1 := 106) rfl ?_
    refine iz_getI X fl_RX12_273 k_12 (ix_tb_at tb_X12_endRow 56 rfl) (pc1 := 109) rfl ?_
    obtain ⟨k_16, h⟩ := ix_ck_some h
    refine iz_iald X k_16 (ix_tb_at tb_X12_endRow 57 rfl) (pc1 := 110) rfl ?_
    refine ix_aload_n (i := 0) (j := 0) X (ix_tb_at tb_X12_endRow 58 rfl) rfl rfl (pc1 := 111) rfl ?_
    refine iz_getI X fl_RX12_279 k_12 (ix_tb_at tb_X12_endRow 59 rfl) (pc1 := 114) rfl ?_
    refine ix_iadd X (ix_tb_at tb_X12_endRow 60 rfl) (pc1 := 115) rfl ?_
    obtain ⟨k_17, h⟩ := ix_ck_some h
    obtain ⟨d_18, e_19, h⟩ := ix_lt_ex h
    refine iz_iast X k_17 (ix_tb_at tb_X12_endRow 61 rfl) e_19 (pc1 := 116) rfl ?_
    refine ix_aload_n (i := 0) (j := 0) X (ix_tb_at tb_X12_endRow 62 rfl) rfl rfl (pc1 := 117) rfl ?_
    refine ix_dup X (ix_tb_at tb_X12_endRow 63 rfl) rfl (pc1 := 118) rfl ?_
    refine iz_getI X fl_RX12_273 k_12 (ix_tb_at tb_X12_endRow 64 rfl) (pc1 := 121) rfl ?_
    refine ix_iconst (v := 1) X (ix_tb_at tb_X12_endRow 65 rfl) (by decide) (pc1 := 122) rfl ?_
    refine ix_iadd X (ix_tb_at tb_X12_endRow 66 rfl) (pc1 := 123) rfl ?_
    obtain ⟨d_20, e_21, h⟩ := ix_lt_ex h
    refine iz_putI X fp_RX12_273 k_12 (ix_tb_at tb_X12_endRow 67 rfl) e_21 (pc1 := 126) rfl ?_
    refine ix_sub (L1 := [(0, .ref (K.2.2.1 + a0))]) [0] rfl ?_
    exact t_X12_endRow_126 hKp X hr hlk  h
  · have h := ix_iff q_13 h
    refine ix_aload_n (i := 0) (j := 0) X (ix_tb_at tb_X12_endRow 31 rfl) rfl rfl (pc1 := 64) rfl ?_
    obtain ⟨b_22, q_23, h⟩ := ix_bd1_ex h
    refine iz_getR X fl_RX12_65 k_12 q_23 (ix_tb_at tb_X12_endRow 32 rfl) (pc1 := 67) rfl ?_
    refine ix_aload_n (i := 0) (j := 0) X (ix_tb_at tb_X12_endRow 33 rfl) rfl rfl (pc1 := 68) rfl ?_
    obtain ⟨b_24, q_25, h⟩ := ix_bd1_ex h
    refine iz_getR X fl_RX12_62 k_12 q_25 (ix_tb_at tb_X12_endRow 34 rfl) (pc1 := 71) rfl ?_
    refine ix_aload_n (i := 0) (j := 0) X (ix_tb_at tb_X12_endRow 35 rfl) rfl rfl (pc1 := 72) rfl ?_
    refine iz_getI X fl_RX12_273 k_12 (ix_tb_at tb_X12_endRow 36 rfl) (pc1 := 75) rfl ?_
    obtain ⟨k_26, h⟩ := ix_ck_some h
    refine iz_iald X k_26 (ix_tb_at tb_X12_endRow 37 rfl) (pc1 := 76) rfl ?_
    refine ix_iload_n (i := 1) (j := 1) X (ix_tb_at tb_X12_endRow 38 rfl) rfl rfl (pc1 := 77) rfl ?_
    refine ix_iadd X (ix_tb_at tb_X12_endRow 39 rfl) (pc1 := 78) rfl ?_
    refine ix_aload_n (i := 0) (j := 0) X (ix_tb_at tb_X12_endRow 40 rfl) rfl rfl (pc1 := 79) rfl ?_
    obtain ⟨b_27, q_28, h⟩ := ix_bd1_ex h
    refine iz_getR X fl_RX12_83 k_12 q_28 (ix_tb_at tb_X12_endRow 41 rfl) (pc1 := 82) rfl ?_
    refine ix_iload_n (i := 1) (j := 1) X (ix_tb_at tb_X12_endRow 42 rfl) rfl rfl (pc1 := 83) rfl ?_
    obtain ⟨k_29, h⟩ := ix_ck_some h
    refine iz_iald X k_29 (ix_tb_at tb_X12_endRow 43 rfl) (pc1 := 84) rfl ?_
    obtain ⟨k_30, h⟩ := ix_ck_some h
    obtain ⟨d_31, e_32, h⟩ := ix_lt_ex h
    refine iz_iast X k_30 (ix_tb_at tb_X12_endRow 44 rfl) e_32 (pc1 := 85) rfl ?_
    obtain ⟨x1_33, e_34, h⟩ := ix_lt_ex h
    refine ix_iinc (i := 1) (j := 1) (v := x1_33) (L1 := [(1, .int x1_33), (0, .ref (K.2.2.1 + a0))]) X (ix_tb_at tb_X12_endRow 45 rfl) rfl (by rw [oi_1]; exact e_34.symm) (Nat.le_of_ble_eq_true rfl) rfl (pc1 := 88) rfl ?_
    refine ix_goto (tgt := 55) X (ix_tb_at tb_X12_endRow 46 rfl) (by decide) ?_
    refine ix_sub (L1 := [(0, .ref (K.2.2.1 + a0)), (1, .int x1_33)]) [1, 0] rfl ?_
    exact hrec55 x1_33 d_31 h
theorem t_X12_endRow_55 {l : Launch} {p : Program} {e : Env} {s : State} {m : MethodId} {args : Array Value} {below : List Frame} {meth : Method} {c : Code} {K : ix_Cx} (hKp : ix_Kp K) {n : Nat} {z : ix_Z} (X : ix_X p s m args c K cX12_endRow RX12 2) (hr : meth.sig.returnType = (none : Option Jvm.ClassFile.FieldType)) (hlk : meth.locks = false)  {a0 : Nat} {d1 : ix_D2}  {x1 : Int32} {d : ix_D2} (h : f_X12_endRow_55 n z  a0 x1 d = some d1) : ix_G p l e (ix_rm 0 0 0 0) s m args below meth c (MQ below (ix_Post K none (ix_w z d1)) args s 0 0 (ix_A K)) K 2 0 0 55 [(0, .ref (K.2.2.1 + a0)), (1, .int x1)] [] (ix_w z d) := by
  have key : ∀ (f : Nat) (x1 : Int32) (d : ix_D2), ix_fix (b_X12_endRow_55 n z  a0) (fun _ _ => none) f x1 d = some d1 → ix_G p l e (ix_rm 0 0 0 0) s m args below meth c (MQ below (ix_Post K none (ix_w z d1)) args s 0 0 (ix_A K)) K 2 0 0 55 [(0, .ref (K.2.2.1 + a0)), (1, .int x1)] [] (ix_w z d) := by
    intro f
    induction f with
    | zero =>
      intro x1 d h
      have h : (none : Option (ix_D2)) = some d1 := h
      cases h
    | succ f ih =>
      intro x1 d h
      exact tb_X12_endRow_55 hKp X hr hlk (rec55 := ix_fix (b_X12_endRow_55 n z  a0) (fun _ _ => none) f)  ih h
  exact key n x1 d h
set_option maxRecDepth 20000 in
theorem t_X12_endRow_43 {l : Launch} {p : Program} {e : Env} {s : State} {m : MethodId} {args : Array Value} {below : List Frame} {meth : Method} {c : Code} {K : ix_Cx} (hKp : ix_Kp K) {n : Nat} {z : ix_Z} (X : ix_X p s m args c K cX12_endRow RX12 2) (hr : meth.sig.returnType = (none : Option Jvm.ClassFile.FieldType)) (hlk : meth.locks = false)  {a0 : Nat} {s0 : Int32} {s1 : Nat} {d1 : ix_D2}  {d : ix_D2} (h : f_X12_endRow_43 n z  a0 s0 s1 d = some d1) : ix_G p l e (ix_rm 0 0 0 0) s m args below meth c (MQ below (ix_Post K none (ix_w z d1)) args s 0 0 (ix_A K)) K 2 0 0 43 [(0, .ref (K.2.2.1 + a0))] [.int s0, .ref (K.2.2.1 + s1)] (ix_w z d) := by
  unfold f_X12_endRow_43 at h
  obtain ⟨k_3, h⟩ := ix_ck_some h
  obtain ⟨k_4, h⟩ := ix_ck_some h
  obtain ⟨d_5, e_6, h⟩ := ix_lt_ex h
  refine iz_putZ X fp_RX12_267 k_3 (ix_tb_at tb_X12_endRow 21 rfl) k_4 e_6 (pc1 := 46) rfl ?_
  refine ix_aload_n (i := 0) (j := 0) X (ix_tb_at tb_X12_endRow 22 rfl) rfl rfl (pc1 := 47) rfl ?_
  obtain ⟨k_7, h⟩ := ix_ck_some h
  refine iz_getI X fl_RX12_267 k_7 (ix_tb_at tb_X12_endRow 23 rfl) (pc1 := 50) rfl ?_
  refine ix_if_ne (tgt := 126) X (ix_tb_at tb_X12_endRow 24 rfl) (by decide) (pc1 := 53) rfl (fun q_8 => ?_) (fun q_8 => ?_)
  · have h := ix_iff q_8 h
    refine ix_sub (L1 := [(0, .ref (K.2.2.1 + a0))]) [0] rfl ?_
    exact t_X12_endRow_126 hKp X hr hlk  h
  · have h := ix_ift q_8 h
    refine ix_iconst (v := 0) X (ix_tb_at tb_X12_endRow 25 rfl) (by decide) (pc1 := 54) rfl ?_
    refine ix_istore_n (i := 1) (L1 := [(1, .int 0), (0, .ref (K.2.2.1 + a0))]) X (ix_tb_at tb_X12_endRow 26 rfl) rfl (Nat.le_of_ble_eq_true rfl) rfl (pc1 := 55) rfl ?_
    refine ix_sub (L1 := [(0, .ref (K.2.2.1 + a0)), (1, .int 0)]) [1, 0] rfl ?_
    exact t_X12_endRow_55 hKp X hr hlk  h
set_option maxRecDepth 20000 in
theorem t_X12_endRow_38 {l : Launch} {p : Program} {e : Env} {s : State} {m : MethodId} {args : Array Value} {below : List Frame} {meth : Method} {c : Code} {K : ix_Cx} (hKp : ix_Kp K) {n : Nat} {z : ix_Z} (X : ix_X p s m args c K cX12_endRow RX12 2) (hr : meth.sig.returnType = (none : Option Jvm.ClassFile.FieldType)) (hlk : meth.locks = false)  {a0 : Nat} {s0 : Nat} {d1 : ix_D2}  {d : ix_D2} (h : f_X12_endRow_38 n z  a0 s0 d = some d1) : ix_G p l e (ix_rm 0 0 0 0) s m args below meth c (MQ below (ix_Post K none (ix_w z d1)) args s 0 0 (ix_A K)) K 2 0 0 38 [(0, .ref (K.2.2.1 + a0))] [.ref (K.2.2.1 + s0)] (ix_w z d) := by
  unfold f_X12_endRow_38 at h
  refine ix_iconst (v := 1) X (ix_tb_at tb_X12_endRow 18 rfl) (by decide) (pc1 := 39) rfl ?_
  refine ix_goto (tgt := 43) X (ix_tb_at tb_X12_endRow 19 rfl) (by decide) ?_
  refine ix_sub (L1 := [(0, .ref (K.2.2.1 + a0))]) [0] rfl ?_
  exact t_X12_endRow_43 hKp X hr hlk  h
set_option maxRecDepth 20000 in
theorem c_X12_endRow {l : Launch} {K : ix_Cx} (hKp : ix_Kp K) {n : Nat} {z : ix_Z} {a0 : Nat} {d : ix_D2} {d1 : ix_D2} (h : f_X12_endRow n z a0 d = some d1) : ix_M l K yX12_endRow cX12_endRow 2 (none : Option Jvm.ClassFile.FieldType) 0 0 0 0 [.ref (K.2.2.1 + a0)] (ix_w z d) none (ix_w z d1) := by
  refine ix_met mf_X12_endRow hKp (Nat.le_of_ble_eq_true rfl) ?_
  intro p e s m args below meth c hr hlk hnm X
  have X : ix_X p s m args c K cX12_endRow RX12 2 := X
  show ix_G p l e (ix_rm 0 0 0 0) s m args below meth c (MQ below (ix_Post K none (ix_w z d1)) args s 0 0 (ix_A K)) K 2 0 0 0 [(0, .ref (K.2.2.1 + a0))] [] (ix_w z d)
  unfold f_X12_endRow at h
  refine ix_aload_n (i := 0) (j := 0) X (ix_tb_at tb_X12_endRow 0 rfl) rfl rfl (pc1 := 1) rfl ?_
  refine ix_aload_n (i := 0) (j := 0) X (ix_tb_at tb_X12_endRow 1 rfl) rfl rfl (pc1 := 2) rfl ?_
  obtain ⟨k_1, h⟩ := ix_ck_some h
  refine iz_getI X fl_RX12_267 k_1 (ix_tb_at tb_X12_endRow 2 rfl) (pc1 := 5) rfl ?_
  refine ix_if_ne (tgt := 38) X (ix_tb_at tb_X12_endRow 3 rfl) (by decide) (pc1 := 8) rfl (fun q_2 => ?_) (fun q_2 => ?_)
  · have h := ix_iff q_2 h
    refine ix_sub (L1 := [(0, .ref (K.2.2.1 + a0))]) [0] rfl ?_
    exact t_X12_endRow_38 hKp X hr hlk  h
  · have h := ix_ift q_2 h
    refine ix_aload_n (i := 0) (j := 0) X (ix_tb_at tb_X12_endRow 4 rfl) rfl rfl (pc1 := 9) rfl ?_
    refine iz_getI X fl_RX12_273 k_1 (ix_tb_at tb_X12_endRow 5 rfl) (pc1 := 12) rfl ?_
    refine ix_sipush (v := 500) X (ix_tb_at tb_X12_endRow 6 rfl) (by decide) (pc1 := 15) rfl ?_
    refine ix_icmp_eq (tgt := 38) X (ix_tb_at tb_X12_endRow 7 rfl) (by decide) (pc1 := 18) rfl (fun q_35 => ?_) (fun q_35 => ?_)
    · have h := ix_ift q_35 h
      refine ix_sub (L1 := [(0, .ref (K.2.2.1 + a0))]) [0] rfl ?_
      exact t_X12_endRow_38 hKp X hr hlk  h
    · have h := ix_iff q_35 h
      refine ix_aload_n (i := 0) (j := 0) X (ix_tb_at tb_X12_endRow 8 rfl) rfl rfl (pc1 := 19) rfl ?_
      obtain ⟨b_36, q_37, h⟩ := ix_bd1_ex h
      refine iz_getR X fl_RX12_62 k_1 q_37 (ix_tb_at tb_X12_endRow 9 rfl) (pc1 := 22) rfl ?_
      refine ix_aload_n (i := 0) (j := 0) X (ix_tb_at tb_X12_endRow 10 rfl) rfl rfl (pc1 := 23) rfl ?_
      refine iz_getI X fl_RX12_273 k_1 (ix_tb_at tb_X12_endRow 11 rfl) (pc1 := 26) rfl ?_
      obtain ⟨k_38, h⟩ := ix_ck_some h
      refine iz_iald X k_38 (ix_tb_at tb_X12_endRow 12 rfl) (pc1 := 27) rfl ?_
      refine ix_aload_n (i := 0) (j := 0) X (ix_tb_at tb_X12_endRow 13 rfl) rfl rfl (pc1 := 28) rfl ?_
      refine iz_getI X fl_RX12_279 k_1 (ix_tb_at tb_X12_endRow 14 rfl) (pc1 := 31) rfl ?_
      refine ix_iadd X (ix_tb_at tb_X12_endRow 15 rfl) (pc1 := 32) rfl ?_
      refine ix_sipush (v := 2500) X (ix_tb_at tb_X12_endRow 16 rfl) (by decide) (pc1 := 35) rfl ?_
      refine ix_icmp_le (tgt := 42) X (ix_tb_at tb_X12_endRow 17 rfl) (by decide) (pc1 := 38) rfl (fun q_39 => ?_) (fun q_39 => ?_)
      · have h := ix_ift q_39 h
        refine ix_iconst (v := 0) X (ix_tb_at tb_X12_endRow 20 rfl) (by decide) (pc1 := 43) rfl ?_
        refine ix_sub (L1 := [(0, .ref (K.2.2.1 + a0))]) [0] rfl ?_
        exact t_X12_endRow_43 hKp X hr hlk  h
      · have h := ix_iff q_39 h
        refine ix_sub (L1 := [(0, .ref (K.2.2.1 + a0))]) [0] rfl ?_
        exact t_X12_endRow_38 hKp X hr hlk  h
def tab_X12_layTwo : List (Nat × Instr × Nat) := [(0, .aload_n 0, 1), (1, .iload_n 1, 1), (2, .invokevirtual 282, 3), (5, .aload_n 0, 1), (6, .iload_n 2, 1), (7, .invokevirtual 282, 3), (10, .aload_n 0, 1), (11, .invokevirtual 286, 3), (14, .return_, 1)]
theorem tb_X12_layTwo : ix_tab cX12_layTwo tab_X12_layTwo := by
  unfold ix_tab
  decide +kernel
noncomputable def f_X12_layTwo (n : Nat) (z : ix_Z) (a0 : Nat) (x1 : Int32) (x2 : Int32) (d : ix_D2) : Option (ix_D2) :=
  ix_ck (ix_ok z [11] a0) (ix_bd1 (f_X12_lay n z a0 x1 d) (fun d_1 => ix_bd1 (f_X12_lay n z a0 x2 d_1) (fun d_4 => ix_bd1 (f_X12_endRow n z a0 d_4) (fun d_6 => some d_6))))
set_option maxRecDepth 20000 in
theorem c_X12_layTwo {l : Launch} {K : ix_Cx} (hKp : ix_Kp K) {n : Nat} {z : ix_Z} {a0 : Nat} {x1 : Int32} {x2 : Int32} {d : ix_D2} {d1 : ix_D2} (h : f_X12_layTwo n z a0 x1 x2 d = some d1) : ix_M l K yX12_layTwo cX12_layTwo 3 (none : Option Jvm.ClassFile.FieldType) 1 23 0 0 [.ref (K.2.2.1 + a0), .int x1, .int x2] (ix_w z d) none (ix_w z d1) := by
  refine ix_met mf_X12_layTwo hKp (Nat.le_of_ble_eq_true rfl) ?_
  intro p e s m args below meth c hr hlk hnm X
  have X : ix_X p s m args c K cX12_layTwo RX12 3 := X
  show ix_G p l e (ix_rm 1 23 0 0) s m args below meth c (MQ below (ix_Post K none (ix_w z d1)) args s 0 0 (ix_A K)) K 3 0 0 0 [(0, .ref (K.2.2.1 + a0)), (1, .int x1), (2, .int x2)] [] (ix_w z d)
  unfold f_X12_layTwo at h
  refine ix_aload_n (i := 0) (j := 0) X (ix_tb_at tb_X12_layTwo 0 rfl) rfl rfl (pc1 := 1) rfl ?_
  refine ix_iload_n (i := 1) (j := 1) X (ix_tb_at tb_X12_layTwo 1 rfl) rfl rfl (pc1 := 2) rfl ?_
  obtain ⟨k_3, h⟩ := ix_ck_some h
  obtain ⟨d_1, h_2, h⟩ := ix_bd1_ex h
  refine ix_callV (As := [.int x1]) (rest := []) (ci := 11) (T := TX12) (nf := 116) X mf_X12_lay mi_X12_lay ms_X12_lay rfl (Nat.le_of_ble_eq_true rfl) ml_RX12_282 ⟨Nat.le_of_ble_eq_true rfl, Nat.le_of_ble_eq_true rfl⟩ ⟨Nat.le_of_ble_eq_true rfl, Nat.le_of_ble_eq_true rfl⟩ rfl (Nat.le_of_ble_eq_true rfl) (ix_tb_at tb_X12_layTwo 2 rfl) ⟨k_3.1, List.mem_singleton.mp k_3.2⟩ (c_X12_lay hKp h_2) rfl (pc1 := 5) rfl ?_
  refine ix_aload_n (i := 0) (j := 0) X (ix_tb_at tb_X12_layTwo 3 rfl) rfl rfl (pc1 := 6) rfl ?_
  refine ix_iload_n (i := 2) (j := 2) X (ix_tb_at tb_X12_layTwo 4 rfl) rfl rfl (pc1 := 7) rfl ?_
  obtain ⟨d_4, h_5, h⟩ := ix_bd1_ex h
  refine ix_callV (As := [.int x2]) (rest := []) (ci := 11) (T := TX12) (nf := 116) X mf_X12_lay mi_X12_lay ms_X12_lay rfl (Nat.le_of_ble_eq_true rfl) ml_RX12_282 ⟨Nat.le_of_ble_eq_true rfl, Nat.le_of_ble_eq_true rfl⟩ ⟨Nat.le_of_ble_eq_true rfl, Nat.le_of_ble_eq_true rfl⟩ rfl (Nat.le_of_ble_eq_true rfl) (ix_tb_at tb_X12_layTwo 5 rfl) ⟨k_3.1, List.mem_singleton.mp k_3.2⟩ (c_X12_lay hKp h_5) rfl (pc1 := 10) rfl ?_
  refine ix_aload_n (i := 0) (j := 0) X (ix_tb_at tb_X12_layTwo 6 rfl) rfl rfl (pc1 := 11) rfl ?_
  obtain ⟨d_6, h_7, h⟩ := ix_bd1_ex h
  refine ix_callV (As := []) (rest := []) (ci := 11) (T := TX12) (nf := 116) X mf_X12_endRow mi_X12_endRow ms_X12_endRow rfl (Nat.le_of_ble_eq_true rfl) ml_RX12_286 ⟨Nat.le_of_ble_eq_true rfl, Nat.le_of_ble_eq_true rfl⟩ ⟨Nat.le_of_ble_eq_true rfl, Nat.le_of_ble_eq_true rfl⟩ rfl (Nat.le_of_ble_eq_true rfl) (ix_tb_at tb_X12_layTwo 7 rfl) ⟨k_3.1, List.mem_singleton.mp k_3.2⟩ (c_X12_endRow hKp h_7) rfl (pc1 := 14) rfl ?_
  exact ix_vret X hr hlk (ix_r1 (g := ix_w z) h) (ix_tb_at tb_X12_layTwo 8 rfl)
def tab_X12_layThree : List (Nat × Instr × Nat) := [(0, .aload_n 0, 1), (1, .iload_n 1, 1), (2, .invokevirtual 282, 3), (5, .aload_n 0, 1), (6, .iload_n 2, 1), (7, .invokevirtual 282, 3), (10, .aload_n 0, 1), (11, .iload_n 3, 1), (12, .invokevirtual 282, 3), (15, .aload_n 0, 1), (16, .invokevirtual 286, 3), (19, .return_, 1)]
theorem tb_X12_layThree : ix_tab cX12_layThree tab_X12_layThree := by
  unfold ix_tab
  decide +kernel
noncomputable def f_X12_layThree (n : Nat) (z : ix_Z) (a0 : Nat) (x1 : Int32) (x2 : Int32) (x3 : Int32) (d : ix_D2) : Option (ix_D2) :=
  ix_ck (ix_ok z [11] a0) (ix_bd1 (f_X12_lay n z a0 x1 d) (fun d_1 => ix_bd1 (f_X12_lay n z a0 x2 d_1) (fun d_4 => ix_bd1 (f_X12_lay n z a0 x3 d_4) (fun d_6 => ix_bd1 (f_X12_endRow n z a0 d_6) (fun d_8 => some d_8)))))
set_option maxRecDepth 20000 in
theorem c_X12_layThree {l : Launch} {K : ix_Cx} (hKp : ix_Kp K) {n : Nat} {z : ix_Z} {a0 : Nat} {x1 : Int32} {x2 : Int32} {x3 : Int32} {d : ix_D2} {d1 : ix_D2} (h : f_X12_layThree n z a0 x1 x2 x3 d = some d1) : ix_M l K yX12_layThree cX12_layThree 4 (none : Option Jvm.ClassFile.FieldType) 1 23 0 0 [.ref (K.2.2.1 + a0), .int x1, .int x2, .int x3] (ix_w z d) none (ix_w z d1) := by
  refine ix_met mf_X12_layThree hKp (Nat.le_of_ble_eq_true rfl) ?_
  intro p e s m args below meth c hr hlk hnm X
  have X : ix_X p s m args c K cX12_layThree RX12 4 := X
  show ix_G p l e (ix_rm 1 23 0 0) s m args below meth c (MQ below (ix_Post K none (ix_w z d1)) args s 0 0 (ix_A K)) K 4 0 0 0 [(0, .ref (K.2.2.1 + a0)), (1, .int x1), (2, .int x2), (3, .int x3)] [] (ix_w z d)
  unfold f_X12_layThree at h
  refine ix_aload_n (i := 0) (j := 0) X (ix_tb_at tb_X12_layThree 0 rfl) rfl rfl (pc1 := 1) rfl ?_
  refine ix_iload_n (i := 1) (j := 1) X (ix_tb_at tb_X12_layThree 1 rfl) rfl rfl (pc1 := 2) rfl ?_
  obtain ⟨k_3, h⟩ := ix_ck_some h
  obtain ⟨d_1, h_2, h⟩ := ix_bd1_ex h
  refine ix_callV (As := [.int x1]) (rest := []) (ci := 11) (T := TX12) (nf := 116) X mf_X12_lay mi_X12_lay ms_X12_lay rfl (Nat.le_of_ble_eq_true rfl) ml_RX12_282 ⟨Nat.le_of_ble_eq_true rfl, Nat.le_of_ble_eq_true rfl⟩ ⟨Nat.le_of_ble_eq_true rfl, Nat.le_of_ble_eq_true rfl⟩ rfl (Nat.le_of_ble_eq_true rfl) (ix_tb_at tb_X12_layThree 2 rfl) ⟨k_3.1, List.mem_singleton.mp k_3.2⟩ (c_X12_lay hKp h_2) rfl (pc1 := 5) rfl ?_
  refine ix_aload_n (i := 0) (j := 0) X (ix_tb_at tb_X12_layThree 3 rfl) rfl rfl (pc1 := 6) rfl ?_
  refine ix_iload_n (i := 2) (j := 2) X (ix_tb_at tb_X12_layThree 4 rfl) rfl rfl (pc1 := 7) rfl ?_
  obtain ⟨d_4, h_5, h⟩ := ix_bd1_ex h
  refine ix_callV (As := [.int x2]) (rest := []) (ci := 11) (T := TX12) (nf := 116) X mf_X12_lay mi_X12_lay ms_X12_lay rfl (Nat.le_of_ble_eq_true rfl) ml_RX12_282 ⟨Nat.le_of_ble_eq_true rfl, Nat.le_of_ble_eq_true rfl⟩ ⟨Nat.le_of_ble_eq_true rfl, Nat.le_of_ble_eq_true rfl⟩ rfl (Nat.le_of_ble_eq_true rfl) (ix_tb_at tb_X12_layThree 5 rfl) ⟨k_3.1, List.mem_singleton.mp k_3.2⟩ (c_X12_lay hKp h_5) rfl (pc1 := 10) rfl ?_
  refine ix_aload_n (i := 0) (j := 0) X (ix_tb_at tb_X12_layThree 6 rfl) rfl rfl (pc1 := 11) rfl ?_
  refine ix_iload_n (i := 3) (j := 3) X (ix_tb_at tb_X12_layThree 7 rfl) rfl rfl (pc1 := 12) rfl ?_
  obtain ⟨d_6, h_7, h⟩ := ix_bd1_ex h
  refine ix_callV (As := [.int x3]) (rest := []) (ci := 11) (T := TX12) (nf := 116) X mf_X12_lay mi_X12_lay ms_X12_lay rfl (Nat.le_of_ble_eq_true rfl) ml_RX12_282 ⟨Nat.le_of_ble_eq_true rfl, Nat.le_of_ble_eq_true rfl⟩ ⟨Nat.le_of_ble_eq_true rfl, Nat.le_of_ble_eq_true rfl⟩ rfl (Nat.le_of_ble_eq_true rfl) (ix_tb_at tb_X12_layThree 8 rfl) ⟨k_3.1, List.mem_singleton.mp k_3.2⟩ (c_X12_lay hKp h_7) rfl (pc1 := 15) rfl ?_
  refine ix_aload_n (i := 0) (j := 0) X (ix_tb_at tb_X12_layThree 9 rfl) rfl rfl (pc1 := 16) rfl ?_
  obtain ⟨d_8, h_9, h⟩ := ix_bd1_ex h
  refine ix_callV (As := []) (rest := []) (ci := 11) (T := TX12) (nf := 116) X mf_X12_endRow mi_X12_endRow ms_X12_endRow rfl (Nat.le_of_ble_eq_true rfl) ml_RX12_286 ⟨Nat.le_of_ble_eq_true rfl, Nat.le_of_ble_eq_true rfl⟩ ⟨Nat.le_of_ble_eq_true rfl, Nat.le_of_ble_eq_true rfl⟩ rfl (Nat.le_of_ble_eq_true rfl) (ix_tb_at tb_X12_layThree 10 rfl) ⟨k_3.1, List.mem_singleton.mp k_3.2⟩ (c_X12_endRow hKp h_9) rfl (pc1 := 19) rfl ?_
  exact ix_vret X hr hlk (ix_r1 (g := ix_w z) h) (ix_tb_at tb_X12_layThree 11 rfl)
def tab_X12_newName : List (Nat × Instr × Nat) := [(0, .aload_n 0, 1), (1, .aload_n 0, 1), (2, .getfield 267, 3), (5, .ifCond .ne 13, 3), (8, .aload_n 0, 1), (9, .getfield 246, 3), (12, .sipush 300, 3), (15, .if_icmp .ne 7, 3), (18, .iconst 1, 1), (19, .goto 4, 3), (22, .iconst 0, 1), (23, .putfield 267, 3), (26, .aload_n 0, 1), (27, .dup, 1), (28, .getfield 246, 3), (31, .aload_n 0, 1), (32, .getfield 267, 3), (35, .ifCond .eq 7, 3), (38, .iconst 0, 1), (39, .goto 4, 3), (42, .iconst 1, 1), (43, .iadd, 1), (44, .putfield 246, 3), (47, .aload_n 0, 1), (48, .getfield 267, 3), (51, .ifCond .eq 7, 3), (54, .iconst 1, 1), (55, .goto 7, 3), (58, .aload_n 0, 1), (59, .getfield 246, 3), (62, .ireturn, 1)]
theorem tb_X12_newName : ix_tab cX12_newName tab_X12_newName := by
  unfold ix_tab
  decide +kernel
noncomputable def f_X12_newName_43 (n : Nat) (z : ix_Z)  (a0 : Nat) (s0 : Int32) (s1 : Int32) (s2 : Nat) (d : ix_D2) : Option (Int32 × ix_D2) :=
  ix_ck (ix_ok z [11] s2) (ix_lt (ix_di d s2 1 (s1 + s0)) (fun d_10 => ix_ck (ix_ok z [11] a0) (ix_if (d_10.1 a0 36 = 0) (some (d_10.1 a0 1, d_10)) (some (1, d_10)))))
noncomputable def f_X12_newName_23 (n : Nat) (z : ix_Z)  (a0 : Nat) (s0 : Int32) (s1 : Nat) (d : ix_D2) : Option (Int32 × ix_D2) :=
  ix_ck (ix_ok z [11] s1) (ix_ck (s0 = 0 ∨ s0 = 1) (ix_lt (ix_di d s1 36 s0) (fun d_5 => ix_ck (ix_ok z [11] a0) (ix_if (d_5.1 a0 36 = 0) (f_X12_newName_43 n z  a0 1 (d_5.1 a0 1) a0 d_5) (f_X12_newName_43 n z  a0 0 (d_5.1 a0 1) a0 d_5)))))
noncomputable def f_X12_newName_18 (n : Nat) (z : ix_Z)  (a0 : Nat) (s0 : Nat) (d : ix_D2) : Option (Int32 × ix_D2) :=
  f_X12_newName_23 n z  a0 1 s0 d
noncomputable def f_X12_newName (n : Nat) (z : ix_Z) (a0 : Nat) (d : ix_D2) : Option (Int32 × ix_D2) :=
  ix_ck (ix_ok z [11] a0) (ix_if (d.1 a0 36 = 0) (ix_if (d.1 a0 1 = 300) (f_X12_newName_18 n z  a0 a0 d) (f_X12_newName_23 n z  a0 0 a0 d)) (f_X12_newName_18 n z  a0 a0 d))
set_option maxRecDepth 20000 in
theorem t_X12_newName_43 {l : Launch} {p : Program} {e : Env} {s : State} {m : MethodId} {args : Array Value} {below : List Frame} {meth : Method} {c : Code} {K : ix_Cx} (hKp : ix_Kp K) {n : Nat} {z : ix_Z} (X : ix_X p s m args c K cX12_newName RX12 1) (hr : meth.sig.returnType = (some .int)) (hlk : meth.locks = false)  {a0 : Nat} {s0 : Int32} {s1 : Int32} {s2 : Nat} {r : Int32} {d1 : ix_D2}  {d : ix_D2} (h : f_X12_newName_43 n z  a0 s0 s1 s2 d = some (r, d1)) : ix_G p l e (ix_rm 0 0 0 0) s m args below meth c (MQ below (ix_Post K (some (.int r)) (ix_w z d1)) args s 0 0 (ix_A K)) K 1 0 0 43 [(0, .ref (K.2.2.1 + a0))] [.int s0, .int s1, .ref (K.2.2.1 + s2)] (ix_w z d) := by
  unfold f_X12_newName_43 at h
  refine ix_iadd X (ix_tb_at tb_X12_newName 21 rfl) (pc1 := 44) rfl ?_
  obtain ⟨k_9, h⟩ := ix_ck_some h
  obtain ⟨d_10, e_11, h⟩ := ix_lt_ex h
  refine iz_putI X fp_RX12_246 k_9 (ix_tb_at tb_X12_newName 22 rfl) e_11 (pc1 := 47) rfl ?_
  refine ix_aload_n (i := 0) (j := 0) X (ix_tb_at tb_X12_newName 23 rfl) rfl rfl (pc1 := 48) rfl ?_
  obtain ⟨k_12, h⟩ := ix_ck_some h
  refine iz_getI X fl_RX12_267 k_12 (ix_tb_at tb_X12_newName 24 rfl) (pc1 := 51) rfl ?_
  refine ix_if_eq (tgt := 58) X (ix_tb_at tb_X12_newName 25 rfl) (by decide) (pc1 := 54) rfl (fun q_13 => ?_) (fun q_13 => ?_)
  · have h := ix_ift q_13 h
    refine ix_aload_n (i := 0) (j := 0) X (ix_tb_at tb_X12_newName 28 rfl) rfl rfl (pc1 := 59) rfl ?_
    refine iz_getI X fl_RX12_246 k_12 (ix_tb_at tb_X12_newName 29 rfl) (pc1 := 62) rfl ?_
    exact ix_iret X hr hlk (ix_r2 (f := fun r => some (.int r)) (g := ix_w z) h) (ix_tb_at tb_X12_newName 30 rfl)
  · have h := ix_iff q_13 h
    refine ix_iconst (v := 1) X (ix_tb_at tb_X12_newName 26 rfl) (by decide) (pc1 := 55) rfl ?_
    refine ix_goto (tgt := 62) X (ix_tb_at tb_X12_newName 27 rfl) (by decide) ?_
    exact ix_iret X hr hlk (ix_r2 (f := fun r => some (.int r)) (g := ix_w z) h) (ix_tb_at tb_X12_newName 30 rfl)
set_option maxRecDepth 20000 in
theorem t_X12_newName_23 {l : Launch} {p : Program} {e : Env} {s : State} {m : MethodId} {args : Array Value} {below : List Frame} {meth : Method} {c : Code} {K : ix_Cx} (hKp : ix_Kp K) {n : Nat} {z : ix_Z} (X : ix_X p s m args c K cX12_newName RX12 1) (hr : meth.sig.returnType = (some .int)) (hlk : meth.locks = false)  {a0 : Nat} {s0 : Int32} {s1 : Nat} {r : Int32} {d1 : ix_D2}  {d : ix_D2} (h : f_X12_newName_23 n z  a0 s0 s1 d = some (r, d1)) : ix_G p l e (ix_rm 0 0 0 0) s m args below meth c (MQ below (ix_Post K (some (.int r)) (ix_w z d1)) args s 0 0 (ix_A K)) K 1 0 0 23 [(0, .ref (K.2.2.1 + a0))] [.int s0, .ref (K.2.2.1 + s1)] (ix_w z d) := by
  unfold f_X12_newName_23 at h
  obtain ⟨k_3, h⟩ := ix_ck_some h
  obtain ⟨k_4, h⟩ := ix_ck_some h
  obtain ⟨d_5, e_6, h⟩ := ix_lt_ex h
  refine iz_putZ X fp_RX12_267 k_3 (ix_tb_at tb_X12_newName 11 rfl) k_4 e_6 (pc1 := 26) rfl ?_
  refine ix_aload_n (i := 0) (j := 0) X (ix_tb_at tb_X12_newName 12 rfl) rfl rfl (pc1 := 27) rfl ?_
  refine ix_dup X (ix_tb_at tb_X12_newName 13 rfl) rfl (pc1 := 28) rfl ?_
  obtain ⟨k_7, h⟩ := ix_ck_some h
  refine iz_getI X fl_RX12_246 k_7 (ix_tb_at tb_X12_newName 14 rfl) (pc1 := 31) rfl ?_
  refine ix_aload_n (i := 0) (j := 0) X (ix_tb_at tb_X12_newName 15 rfl) rfl rfl (pc1 := 32) rfl ?_
  refine iz_getI X fl_RX12_267 k_7 (ix_tb_at tb_X12_newName 16 rfl) (pc1 := 35) rfl ?_
  refine ix_if_eq (tgt := 42) X (ix_tb_at tb_X12_newName 17 rfl) (by decide) (pc1 := 38) rfl (fun q_8 => ?_) (fun q_8 => ?_)
  · have h := ix_ift q_8 h
    refine ix_iconst (v := 1) X (ix_tb_at tb_X12_newName 20 rfl) (by decide) (pc1 := 43) rfl ?_
    refine ix_sub (L1 := [(0, .ref (K.2.2.1 + a0))]) [0] rfl ?_
    exact t_X12_newName_43 hKp X hr hlk  h
  · have h := ix_iff q_8 h
    refine ix_iconst (v := 0) X (ix_tb_at tb_X12_newName 18 rfl) (by decide) (pc1 := 39) rfl ?_
    refine ix_goto (tgt := 43) X (ix_tb_at tb_X12_newName 19 rfl) (by decide) ?_
    refine ix_sub (L1 := [(0, .ref (K.2.2.1 + a0))]) [0] rfl ?_
    exact t_X12_newName_43 hKp X hr hlk  h
set_option maxRecDepth 20000 in
theorem t_X12_newName_18 {l : Launch} {p : Program} {e : Env} {s : State} {m : MethodId} {args : Array Value} {below : List Frame} {meth : Method} {c : Code} {K : ix_Cx} (hKp : ix_Kp K) {n : Nat} {z : ix_Z} (X : ix_X p s m args c K cX12_newName RX12 1) (hr : meth.sig.returnType = (some .int)) (hlk : meth.locks = false)  {a0 : Nat} {s0 : Nat} {r : Int32} {d1 : ix_D2}  {d : ix_D2} (h : f_X12_newName_18 n z  a0 s0 d = some (r, d1)) : ix_G p l e (ix_rm 0 0 0 0) s m args below meth c (MQ below (ix_Post K (some (.int r)) (ix_w z d1)) args s 0 0 (ix_A K)) K 1 0 0 18 [(0, .ref (K.2.2.1 + a0))] [.ref (K.2.2.1 + s0)] (ix_w z d) := by
  unfold f_X12_newName_18 at h
  refine ix_iconst (v := 1) X (ix_tb_at tb_X12_newName 8 rfl) (by decide) (pc1 := 19) rfl ?_
  refine ix_goto (tgt := 23) X (ix_tb_at tb_X12_newName 9 rfl) (by decide) ?_
  refine ix_sub (L1 := [(0, .ref (K.2.2.1 + a0))]) [0] rfl ?_
  exact t_X12_newName_23 hKp X hr hlk  h
set_option maxRecDepth 20000 in
theorem c_X12_newName {l : Launch} {K : ix_Cx} (hKp : ix_Kp K) {n : Nat} {z : ix_Z} {a0 : Nat} {d : ix_D2} {r : Int32} {d1 : ix_D2} (h : f_X12_newName n z a0 d = some (r, d1)) : ix_M l K yX12_newName cX12_newName 1 (some .int) 0 0 0 0 [.ref (K.2.2.1 + a0)] (ix_w z d) (some (.int r)) (ix_w z d1) := by
  refine ix_met mf_X12_newName hKp (Nat.le_of_ble_eq_true rfl) ?_
  intro p e s m args below meth c hr hlk hnm X
  have X : ix_X p s m args c K cX12_newName RX12 1 := X
  show ix_G p l e (ix_rm 0 0 0 0) s m args below meth c (MQ below (ix_Post K (some (.int r)) (ix_w z d1)) args s 0 0 (ix_A K)) K 1 0 0 0 [(0, .ref (K.2.2.1 + a0))] [] (ix_w z d)
  unfold f_X12_newName at h
  refine ix_aload_n (i := 0) (j := 0) X (ix_tb_at tb_X12_newName 0 rfl) rfl rfl (pc1 := 1) rfl ?_
  refine ix_aload_n (i := 0) (j := 0) X (ix_tb_at tb_X12_newName 1 rfl) rfl rfl (pc1 := 2) rfl ?_
  obtain ⟨k_1, h⟩ := ix_ck_some h
  refine iz_getI X fl_RX12_267 k_1 (ix_tb_at tb_X12_newName 2 rfl) (pc1 := 5) rfl ?_
  refine ix_if_ne (tgt := 18) X (ix_tb_at tb_X12_newName 3 rfl) (by decide) (pc1 := 8) rfl (fun q_2 => ?_) (fun q_2 => ?_)
  · have h := ix_iff q_2 h
    refine ix_sub (L1 := [(0, .ref (K.2.2.1 + a0))]) [0] rfl ?_
    exact t_X12_newName_18 hKp X hr hlk  h
  · have h := ix_ift q_2 h
    refine ix_aload_n (i := 0) (j := 0) X (ix_tb_at tb_X12_newName 4 rfl) rfl rfl (pc1 := 9) rfl ?_
    refine iz_getI X fl_RX12_246 k_1 (ix_tb_at tb_X12_newName 5 rfl) (pc1 := 12) rfl ?_
    refine ix_sipush (v := 300) X (ix_tb_at tb_X12_newName 6 rfl) (by decide) (pc1 := 15) rfl ?_
    refine ix_icmp_ne (tgt := 22) X (ix_tb_at tb_X12_newName 7 rfl) (by decide) (pc1 := 18) rfl (fun q_14 => ?_) (fun q_14 => ?_)
    · have h := ix_iff q_14 h
      refine ix_iconst (v := 0) X (ix_tb_at tb_X12_newName 10 rfl) (by decide) (pc1 := 23) rfl ?_
      refine ix_sub (L1 := [(0, .ref (K.2.2.1 + a0))]) [0] rfl ?_
      exact t_X12_newName_23 hKp X hr hlk  h
    · have h := ix_ift q_14 h
      refine ix_sub (L1 := [(0, .ref (K.2.2.1 + a0))]) [0] rfl ?_
      exact t_X12_newName_18 hKp X hr hlk  h
def tab_X12_wrongItem : List (Nat × Instr × Nat) := [(0, .iload_n 1, 1), (1, .ifCond .eq 17, 3), (4, .iload_n 1, 1), (5, .sipush 300, 3), (8, .if_icmp .gt 10, 3), (11, .iload_n 1, 1), (12, .sipush (-300), 3), (15, .if_icmp .ge 9, 3), (18, .sipush (-1012), 3), (21, .goto 21, 3), (24, .iload_n 1, 1), (25, .invokestatic 289, 3), (28, .aload_n 0, 1), (29, .getfield 246, 3), (32, .if_icmp .le 9, 3), (35, .sipush (-1011), 3), (38, .goto 4, 3), (41, .iconst 0, 1), (42, .ireturn, 1)]
theorem tb_X12_wrongItem : ix_tab cX12_wrongItem tab_X12_wrongItem := by
  unfold ix_tab
  decide +kernel
noncomputable def f_X12_wrongItem_18 (n : Nat) (z : ix_Z)   (d : ix_D2) : Option (Int32 × ix_D2) :=
  some ((-1012), d)
noncomputable def f_X12_wrongItem (n : Nat) (z : ix_Z) (a0 : Nat) (x1 : Int32) (d : ix_D2) : Option (Int32 × ix_D2) :=
  ix_if (x1 = 0) (f_X12_wrongItem_18 n z   d) (ix_if (300 < x1) (f_X12_wrongItem_18 n z   d) (ix_if ((-300) ≤ x1) (ix_bd2 (f_X12_nameOf n z x1 d) (fun r_6 d_4 => ix_ck (ix_ok z [11] a0) (ix_if (r_6 ≤ d_4.1 a0 1) (some (0, d_4)) (some ((-1011), d_4))))) (f_X12_wrongItem_18 n z   d)))
set_option maxRecDepth 20000 in
theorem t_X12_wrongItem_18 {l : Launch} {p : Program} {e : Env} {s : State} {m : MethodId} {args : Array Value} {below : List Frame} {meth : Method} {c : Code} {K : ix_Cx} (hKp : ix_Kp K) {n : Nat} {z : ix_Z} (X : ix_X p s m args c K cX12_wrongItem RX12 2) (hr : meth.sig.returnType = (some .int)) (hlk : meth.locks = false)   {r : Int32} {d1 : ix_D2}  {d : ix_D2} (h : f_X12_wrongItem_18 n z   d = some (r, d1)) : ix_G p l e (ix_rm 1 20 0 0) s m args below meth c (MQ below (ix_Post K (some (.int r)) (ix_w z d1)) args s 0 0 (ix_A K)) K 2 0 0 18 [] [] (ix_w z d) := by
  unfold f_X12_wrongItem_18 at h
  refine ix_sipush (v := (-1012)) X (ix_tb_at tb_X12_wrongItem 8 rfl) (by decide) (pc1 := 21) rfl ?_
  refine ix_goto (tgt := 42) X (ix_tb_at tb_X12_wrongItem 9 rfl) (by decide) ?_
  exact ix_iret X hr hlk (ix_r2 (f := fun r => some (.int r)) (g := ix_w z) h) (ix_tb_at tb_X12_wrongItem 18 rfl)
set_option maxRecDepth 20000 in
theorem c_X12_wrongItem {l : Launch} {K : ix_Cx} (hKp : ix_Kp K) {n : Nat} {z : ix_Z} {a0 : Nat} {x1 : Int32} {d : ix_D2} {r : Int32} {d1 : ix_D2} (h : f_X12_wrongItem n z a0 x1 d = some (r, d1)) : ix_M l K yX12_wrongItem cX12_wrongItem 2 (some .int) 1 20 0 0 [.ref (K.2.2.1 + a0), .int x1] (ix_w z d) (some (.int r)) (ix_w z d1) := by
  refine ix_met mf_X12_wrongItem hKp (Nat.le_of_ble_eq_true rfl) ?_
  intro p e s m args below meth c hr hlk hnm X
  have X : ix_X p s m args c K cX12_wrongItem RX12 2 := X
  show ix_G p l e (ix_rm 1 20 0 0) s m args below meth c (MQ below (ix_Post K (some (.int r)) (ix_w z d1)) args s 0 0 (ix_A K)) K 2 0 0 0 [(0, .ref (K.2.2.1 + a0)), (1, .int x1)] [] (ix_w z d)
  unfold f_X12_wrongItem at h
  refine ix_iload_n (i := 1) (j := 1) X (ix_tb_at tb_X12_wrongItem 0 rfl) rfl rfl (pc1 := 1) rfl ?_
  refine ix_if_eq (tgt := 18) X (ix_tb_at tb_X12_wrongItem 1 rfl) (by decide) (pc1 := 4) rfl (fun q_1 => ?_) (fun q_1 => ?_)
  · have h := ix_ift q_1 h
    refine ix_sub (L1 := []) [] rfl ?_
    exact t_X12_wrongItem_18 hKp X hr hlk  h
  · have h := ix_iff q_1 h
    refine ix_iload_n (i := 1) (j := 1) X (ix_tb_at tb_X12_wrongItem 2 rfl) rfl rfl (pc1 := 5) rfl ?_
    refine ix_sipush (v := 300) X (ix_tb_at tb_X12_wrongItem 3 rfl) (by decide) (pc1 := 8) rfl ?_
    refine ix_icmp_gt (tgt := 18) X (ix_tb_at tb_X12_wrongItem 4 rfl) (by decide) (pc1 := 11) rfl (fun q_2 => ?_) (fun q_2 => ?_)
    · have h := ix_ift q_2 h
      refine ix_sub (L1 := []) [] rfl ?_
      exact t_X12_wrongItem_18 hKp X hr hlk  h
    · have h := ix_iff q_2 h
      refine ix_iload_n (i := 1) (j := 1) X (ix_tb_at tb_X12_wrongItem 5 rfl) rfl rfl (pc1 := 12) rfl ?_
      refine ix_sipush (v := (-300)) X (ix_tb_at tb_X12_wrongItem 6 rfl) (by decide) (pc1 := 15) rfl ?_
      refine ix_icmp_ge (tgt := 24) X (ix_tb_at tb_X12_wrongItem 7 rfl) (by decide) (pc1 := 18) rfl (fun q_3 => ?_) (fun q_3 => ?_)
      · have h := ix_ift q_3 h
        refine ix_iload_n (i := 1) (j := 1) X (ix_tb_at tb_X12_wrongItem 10 rfl) rfl rfl (pc1 := 25) rfl ?_
        obtain ⟨r_6, d_4, h_5, h⟩ := ix_bd2_ex h
        refine ix_callS (As := [.int x1]) (rest := []) X mf_X12_nameOf st_X12_nameOf ml_RX12_289 ⟨Nat.le_of_ble_eq_true rfl, Nat.le_of_ble_eq_true rfl⟩ ⟨Nat.le_of_ble_eq_true rfl, Nat.le_of_ble_eq_true rfl⟩ rfl (Nat.le_of_ble_eq_true rfl) (ix_tb_at tb_X12_wrongItem 11 rfl) (c_X12_nameOf hKp h_5) rfl (pc1 := 28) rfl ?_
        refine ix_aload_n (i := 0) (j := 0) X (ix_tb_at tb_X12_wrongItem 12 rfl) rfl rfl (pc1 := 29) rfl ?_
        obtain ⟨k_7, h⟩ := ix_ck_some h
        refine iz_getI X fl_RX12_246 k_7 (ix_tb_at tb_X12_wrongItem 13 rfl) (pc1 := 32) rfl ?_
        refine ix_icmp_le (tgt := 41) X (ix_tb_at tb_X12_wrongItem 14 rfl) (by decide) (pc1 := 35) rfl (fun q_8 => ?_) (fun q_8 => ?_)
        · have h := ix_ift q_8 h
          refine ix_iconst (v := 0) X (ix_tb_at tb_X12_wrongItem 17 rfl) (by decide) (pc1 := 42) rfl ?_
          exact ix_iret X hr hlk (ix_r2 (f := fun r => some (.int r)) (g := ix_w z) h) (ix_tb_at tb_X12_wrongItem 18 rfl)
        · have h := ix_iff q_8 h
          refine ix_sipush (v := (-1011)) X (ix_tb_at tb_X12_wrongItem 15 rfl) (by decide) (pc1 := 38) rfl ?_
          refine ix_goto (tgt := 42) X (ix_tb_at tb_X12_wrongItem 16 rfl) (by decide) ?_
          exact ix_iret X hr hlk (ix_r2 (f := fun r => some (.int r)) (g := ix_w z) h) (ix_tb_at tb_X12_wrongItem 18 rfl)
      · have h := ix_iff q_3 h
        refine ix_sub (L1 := []) [] rfl ?_
        exact t_X12_wrongItem_18 hKp X hr hlk  h
def tab_X12_takeItems : List (Nat × Instr × Nat) := [(0, .aload_n 0, 1), (1, .getfield 17, 3), (4, .iload_n 1, 1), (5, .iaload, 1), (6, .ifCond .ge 7, 3), (9, .sipush (-1011), 3), (12, .ireturn, 1), (13, .aload_n 0, 1), (14, .aload_n 0, 1), (15, .getfield 17, 3), (18, .iload_n 1, 1), (19, .iaload, 1), (20, .putfield 292, 3), (23, .iconst 0, 1), (24, .istore_n 2, 1), (25, .iconst 0, 1), (26, .istore_n 3, 1), (27, .iload_n 3, 1), (28, .aload_n 0, 1), (29, .getfield 292, 3), (32, .if_icmp .ge 45, 3), (35, .aload_n 0, 1), (36, .getfield 86, 3), (39, .iload_n 3, 1), (40, .aload_n 0, 1), (41, .getfield 20, 3), (44, .bipush 12, 2), (46, .iload_n 1, 1), (47, .imul, 1), (48, .iload_n 3, 1), (49, .iadd, 1), (50, .iaload, 1), (51, .iastore, 1), (52, .iload_n 2, 1), (53, .ifCond .ge 7, 3), (56, .iload_n 2, 1), (57, .goto 13, 3), (60, .aload_n 0, 1), (61, .aload_n 0, 1), (62, .getfield 86, 3), (65, .iload_n 3, 1), (66, .iaload, 1), (67, .invokevirtual 295, 3), (70, .istore_n 2, 1), (71, .iinc 3 1, 3), (74, .goto (-47), 3), (77, .iload_n 2, 1), (78, .ireturn, 1)]
theorem tb_X12_takeItems : ix_tab cX12_takeItems tab_X12_takeItems := by
  unfold ix_tab
  decide +kernel
noncomputable def f_X12_takeItems_70 (n : Nat) (z : ix_Z) (rec27 : Int32 → Int32 → ix_D2 → Option (Int32 × ix_D2)) (a0 : Nat) (x1 : Int32) (x3 : Int32) (s0 : Int32) (d : ix_D2) : Option (Int32 × ix_D2) :=
  ix_lt (x3 + 1) (fun x3_22 => rec27 s0 x3_22 d)
noncomputable def b_X12_takeItems_27 (n : Nat) (z : ix_Z)  (a0 : Nat) (x1 : Int32) (rec27 : Int32 → Int32 → ix_D2 → Option (Int32 × ix_D2)) (x2 : Int32) (x3 : Int32) (d : ix_D2) : Option (Int32 × ix_D2) :=
  ix_ck (ix_ok z [11] a0) (ix_if (d.1 a0 42 ≤ x3) (some (x2, d)) (ix_bd1 (z.1 a0 41) (fun b_10 => ix_bd1 (z.1 a0 6) (fun b_12 => ix_ck (ix_ix z 20 b_12 ((12 * x1) + x3)) (ix_ck (ix_ix z 20 b_10 x3) (ix_lt (ix_di d b_10 (ix_n x3) (d.1 b_12 (ix_n ((12 * x1) + x3)))) (fun d_16 => ix_if (0 ≤ x2) (ix_bd2 (f_X12_wrongItem n z a0 (d_16.1 b_10 (ix_n x3)) d_16) (fun r_21 d_19 => f_X12_takeItems_70 n z rec27 a0 x1 x3 r_21 d_19)) (f_X12_takeItems_70 n z rec27 a0 x1 x3 x2 d_16))))))))
noncomputable def f_X12_takeItems_27 (n : Nat) (z : ix_Z)  (a0 : Nat) (x1 : Int32) (x2 : Int32) (x3 : Int32) (d : ix_D2) : Option (Int32 × ix_D2) := ix_fix (b_X12_takeItems_27 n z  a0 x1) (fun _ _ _ => none) n x2 x3 d
noncomputable def f_X12_takeItems (n : Nat) (z : ix_Z) (a0 : Nat) (x1 : Int32) (d : ix_D2) : Option (Int32 × ix_D2) :=
  ix_ck (ix_ok z [11] a0) (ix_bd1 (z.1 a0 5) (fun b_2 => ix_ck (ix_ix z 20 b_2 x1) (ix_if (0 ≤ d.1 b_2 (ix_n x1)) (ix_lt (ix_di d a0 42 (d.1 b_2 (ix_n x1))) (fun d_6 => f_X12_takeItems_27 n z  a0 x1 0 0 d_6)) (some ((-1011), d)))))
set_option maxRecDepth 20000 in
theorem t_X12_takeItems_70 {l : Launch} {p : Program} {e : Env} {s : State} {m : MethodId} {args : Array Value} {below : List Frame} {meth : Method} {c : Code} {K : ix_Cx} (hKp : ix_Kp K) {n : Nat} {z : ix_Z} (X : ix_X p s m args c K cX12_takeItems RX12 4) (hr : meth.sig.returnType = (some .int)) (hlk : meth.locks = false) {rec27 : Int32 → Int32 → ix_D2 → Option (Int32 × ix_D2)} {a0 : Nat} {x1 : Int32} {x3 : Int32} {s0 : Int32} {r : Int32} {d1 : ix_D2} (hrec27 : ∀ (x2 : Int32) (x3 : Int32) (d : ix_D2), rec27 x2 x3 d = some (r, d1) → ix_G p l e (ix_rm 2 41 0 0) s m args below meth c (MQ below (ix_Post K (some (.int r)) (ix_w z d1)) args s 0 0 (ix_A K)) K 4 0 0 27 [(0, .ref (K.2.2.1 + a0)), (1, .int x1), (2, .int x2), (3, .int x3)] [] (ix_w z d)) {d : ix_D2} (h : f_X12_takeItems_70 n z rec27 a0 x1 x3 s0 d = some (r, d1)) : ix_G p l e (ix_rm 2 41 0 0) s m args below meth c (MQ below (ix_Post K (some (.int r)) (ix_w z d1)) args s 0 0 (ix_A K)) K 4 0 0 70 [(0, .ref (K.2.2.1 + a0)), (1, .int x1), (3, .int x3)] [.int s0] (ix_w z d) := by
  unfold f_X12_takeItems_70 at h
  refine ix_istore_n (i := 2) (L1 := [(2, .int s0), (0, .ref (K.2.2.1 + a0)), (1, .int x1), (3, .int x3)]) X (ix_tb_at tb_X12_takeItems 43 rfl) rfl (Nat.le_of_ble_eq_true rfl) rfl (pc1 := 71) rfl ?_
  obtain ⟨x3_22, e_23, h⟩ := ix_lt_ex h
  refine ix_iinc (i := 3) (j := 3) (v := x3_22) (L1 := [(3, .int x3_22), (2, .int s0), (0, .ref (K.2.2.1 + a0)), (1, .int x1)]) X (ix_tb_at tb_X12_takeItems 44 rfl) rfl (by rw [oi_1]; exact e_23.symm) (Nat.le_of_ble_eq_true rfl) rfl (pc1 := 74) rfl ?_
  refine ix_goto (tgt := 27) X (ix_tb_at tb_X12_takeItems 45 rfl) (by decide) ?_
  refine ix_sub (L1 := [(0, .ref (K.2.2.1 + a0)), (1, .int x1), (2, .int s0), (3, .int x3_22)]) [2, 3, 1, 0] rfl ?_
  exact hrec27 s0 x3_22 d h
set_option maxRecDepth 20000 in
theorem tb_X12_takeItems_27 {l : Launch} {p : Program} {e : Env} {s : State} {m : MethodId} {args : Array Value} {below : List Frame} {meth : Method} {c : Code} {K : ix_Cx} (hKp : ix_Kp K) {n : Nat} {z : ix_Z} (X : ix_X p s m args c K cX12_takeItems RX12 4) (hr : meth.sig.returnType = (some .int)) (hlk : meth.locks = false)  {a0 : Nat} {x1 : Int32} {rec27 : Int32 → Int32 → ix_D2 → Option (Int32 × ix_D2)} {r : Int32} {d1 : ix_D2} (hrec27 : ∀ (x2 : Int32) (x3 : Int32) (d : ix_D2), rec27 x2 x3 d = some (r, d1) → ix_G p l e (ix_rm 2 41 0 0) s m args below meth c (MQ below (ix_Post K (some (.int r)) (ix_w z d1)) args s 0 0 (ix_A K)) K 4 0 0 27 [(0, .ref (K.2.2.1 + a0)), (1, .int x1), (2, .int x2), (3, .int x3)] [] (ix_w z d)) {x2 : Int32} {x3 : Int32} {d : ix_D2} (h : b_X12_takeItems_27 n z  a0 x1 rec27 x2 x3 d = some (r, d1)) : ix_G p l e (ix_rm 2 41 0 0) s m args below meth c (MQ below (ix_Post K (some (.int r)) (ix_w z d1)) args s 0 0 (ix_A K)) K 4 0 0 27 [(0, .ref (K.2.2.1 + a0)), (1, .int x1), (2, .int x2), (3, .int x3)] [] (ix_w z d) := by
  unfold b_X12_takeItems_27 at h
  refine ix_iload_n (i := 3) (j := 3) X (ix_tb_at tb_X12_takeItems 17 rfl) rfl rfl (pc1 := 28) rfl ?_
  refine ix_aload_n (i := 0) (j := 0) X (ix_tb_at tb_X12_takeItems 18 rfl) rfl rfl (pc1 := 29) rfl ?_
  obtain ⟨k_8, h⟩ := ix_ck_some h
  refine iz_getI X fl_RX12_292 k_8 (ix_tb_at tb_X12_takeItems 19 rfl) (pc1 := 32) rfl ?_
  refine ix_icmp_ge (tgt := 77) X (ix_tb_at tb_X12_takeItems 20 rfl) (by decide) (pc1 := 35) rfl (fun q_9 => ?_) (fun q_9 => ?_)
  · have h := ix_ift q_9 h
    refine ix_iload_n (i := 2) (j := 2) X (ix_tb_at tb_X12_takeItems 46 rfl) rfl rfl (pc1 := 78) rfl ?_
    exact ix_iret X hr hlk (ix_r2 (f := fun r => some (.int r)) (g := ix_w z) h) (ix_tb_at tb_X12_takeItems 47 rfl)
  · have h := ix_iff q_9 h
    refine ix_aload_n (i := 0) (j := 0) X (ix_tb_at tb_X12_takeItems 21 rfl) rfl rfl (pc1 := 36) rfl ?_
    obtain ⟨b_10, q_11, h⟩ := ix_bd1_ex h
    refine iz_getR X fl_RX12_86 k_8 q_11 (ix_tb_at tb_X12_takeItems 22 rfl) (pc1 := 39) rfl ?_
    refine ix_iload_n (i := 3) (j := 3) X (ix_tb_at tb_X12_takeItems 23 rfl) rfl rfl (pc1 := 40) rfl ?_
    refine ix_aload_n (i := 0) (j := 0) X (ix_tb_at tb_X12_takeItems 24 rfl) rfl rfl (pc1 := 41) rfl ?_
    obtain ⟨b_12, q_13, h⟩ := ix_bd1_ex h
    refine iz_getR X fl_RX12_20 k_8 q_13 (ix_tb_at tb_X12_takeItems 25 rfl) (pc1 := 44) rfl ?_
    refine ix_bipush (v := 12) X (ix_tb_at tb_X12_takeItems 26 rfl) (by decide) (pc1 := 46) rfl ?_
    refine ix_iload_n (i := 1) (j := 1) X (ix_tb_at tb_X12_takeItems 27 rfl) rfl rfl (pc1 := 47) rfl ?_
    refine ix_imul X (ix_tb_at tb_X12_takeItems 28 rfl) (pc1 := 48) rfl ?_
    refine ix_iload_n (i := 3) (j := 3) X (ix_tb_at tb_X12_takeItems 29 rfl) rfl rfl (pc1 := 49) rfl ?_
    refine ix_iadd X (ix_tb_at tb_X12_takeItems 30 rfl) (pc1 := 50) rfl ?_
    obtain ⟨k_14, h⟩ := ix_ck_some h
    refine iz_iald X k_14 (ix_tb_at tb_X12_takeItems 31 rfl) (pc1 := 51) rfl ?_
    obtain ⟨k_15, h⟩ := ix_ck_some h
    obtain ⟨d_16, e_17, h⟩ := ix_lt_ex h
    refine iz_iast X k_15 (ix_tb_at tb_X12_takeItems 32 rfl) e_17 (pc1 := 52) rfl ?_
    refine ix_iload_n (i := 2) (j := 2) X (ix_tb_at tb_X12_takeItems 33 rfl) rfl rfl (pc1 := 53) rfl ?_
    refine ix_if_ge (tgt := 60) X (ix_tb_at tb_X12_takeItems 34 rfl) (by decide) (pc1 := 56) rfl (fun q_18 => ?_) (fun q_18 => ?_)
    · have h := ix_ift q_18 h
      refine ix_aload_n (i := 0) (j := 0) X (ix_tb_at tb_X12_takeItems 37 rfl) rfl rfl (pc1 := 61) rfl ?_
      refine ix_aload_n (i := 0) (j := 0) X (ix_tb_at tb_X12_takeItems 38 rfl) rfl rfl (pc1 := 62) rfl ?_
      refine iz_getR X fl_RX12_86 k_8 q_11 (ix_tb_at tb_X12_takeItems 39 rfl) (pc1 := 65) rfl ?_
      refine ix_iload_n (i := 3) (j := 3) X (ix_tb_at tb_X12_takeItems 40 rfl) rfl rfl (pc1 := 66) rfl ?_
      refine iz_iald X k_15 (ix_tb_at tb_X12_takeItems 41 rfl) (pc1 := 67) rfl ?_
      obtain ⟨r_21, d_19, h_20, h⟩ := ix_bd2_ex h
      refine ix_callV (As := [.int (d_16.1 b_10 (ix_n x3))]) (rest := []) (ci := 11) (T := TX12) (nf := 116) X mf_X12_wrongItem mi_X12_wrongItem ms_X12_wrongItem rfl (Nat.le_of_ble_eq_true rfl) ml_RX12_295 ⟨Nat.le_of_ble_eq_true rfl, Nat.le_of_ble_eq_true rfl⟩ ⟨Nat.le_of_ble_eq_true rfl, Nat.le_of_ble_eq_true rfl⟩ rfl (Nat.le_of_ble_eq_true rfl) (ix_tb_at tb_X12_takeItems 42 rfl) ⟨k_8.1, List.mem_singleton.mp k_8.2⟩ (c_X12_wrongItem hKp h_20) rfl (pc1 := 70) rfl ?_
      refine ix_sub (L1 := [(0, .ref (K.2.2.1 + a0)), (1, .int x1), (3, .int x3)]) [0, 1, 3] rfl ?_
      exact t_X12_takeItems_70 hKp X hr hlk hrec27 h
    · have h := ix_iff q_18 h
      refine ix_iload_n (i := 2) (j := 2) X (ix_tb_at tb_X12_takeItems 35 rfl) rfl rfl (pc1 := 57) rfl ?_
      refine ix_goto (tgt := 70) X (ix_tb_at tb_X12_takeItems 36 rfl) (by decide) ?_
      refine ix_sub (L1 := [(0, .ref (K.2.2.1 + a0)), (1, .int x1), (3, .int x3)]) [0, 1, 3] rfl ?_
      exact t_X12_takeItems_70 hKp X hr hlk hrec27 h
theorem t_X12_takeItems_27 {l : Launch} {p : Program} {e : Env} {s : State} {m : MethodId} {args : Array Value} {below : List Frame} {meth : Method} {c : Code} {K : ix_Cx} (hKp : ix_Kp K) {n : Nat} {z : ix_Z} (X : ix_X p s m args c K cX12_takeItems RX12 4) (hr : meth.sig.returnType = (some .int)) (hlk : meth.locks = false)  {a0 : Nat} {x1 : Int32} {r : Int32} {d1 : ix_D2}  {x2 : Int32} {x3 : Int32} {d : ix_D2} (h : f_X12_takeItems_27 n z  a0 x1 x2 x3 d = some (r, d1)) : ix_G p l e (ix_rm 2 41 0 0) s m args below meth c (MQ below (ix_Post K (some (.int r)) (ix_w z d1)) args s 0 0 (ix_A K)) K 4 0 0 27 [(0, .ref (K.2.2.1 + a0)), (1, .int x1), (2, .int x2), (3, .int x3)] [] (ix_w z d) := by
  have key : ∀ (f : Nat) (x2 : Int32) (x3 : Int32) (d : ix_D2), ix_fix (b_X12_takeItems_27 n z  a0 x1) (fun _ _ _ => none) f x2 x3 d = some (r, d1) → ix_G p l e (ix_rm 2 41 0 0) s m args below meth c (MQ below (ix_Post K (some (.int r)) (ix_w z d1)) args s 0 0 (ix_A K)) K 4 0 0 27 [(0, .ref (K.2.2.1 + a0)), (1, .int x1), (2, .int x2), (3, .int x3)] [] (ix_w z d) := by
    intro f
    induction f with
    | zero =>
      intro x2 x3 d h
      have h : (none : Option (Int32 × ix_D2)) = some (r, d1) := h
      cases h
    | succ f ih =>
      intro x2 x3 d h
      exact tb_X12_takeItems_27 hKp X hr hlk (rec27 := ix_fix (b_X12_takeItems_27 n z  a0 x1) (fun _ _ _ => none) f)  ih h
  exact key n x2 x3 d h
set_option maxRecDepth 20000 in
theorem c_X12_takeItems {l : Launch} {K : ix_Cx} (hKp : ix_Kp K) {n : Nat} {z : ix_Z} {a0 : Nat} {x1 : Int32} {d : ix_D2} {r : Int32} {d1 : ix_D2} (h : f_X12_takeItems n z a0 x1 d = some (r, d1)) : ix_M l K yX12_takeItems cX12_takeItems 4 (some .int) 2 41 0 0 [.ref (K.2.2.1 + a0), .int x1] (ix_w z d) (some (.int r)) (ix_w z d1) := by
  refine ix_met mf_X12_takeItems hKp (Nat.le_of_ble_eq_true rfl) ?_
  intro p e s m args below meth c hr hlk hnm X
  have X : ix_X p s m args c K cX12_takeItems RX12 4 := X
  show ix_G p l e (ix_rm 2 41 0 0) s m args below meth c (MQ below (ix_Post K (some (.int r)) (ix_w z d1)) args s 0 0 (ix_A K)) K 4 0 0 0 [(0, .ref (K.2.2.1 + a0)), (1, .int x1)] [] (ix_w z d)
  unfold f_X12_takeItems at h
  refine ix_aload_n (i := 0) (j := 0) X (ix_tb_at tb_X12_takeItems 0 rfl) rfl rfl (pc1 := 1) rfl ?_
  obtain ⟨k_1, h⟩ := ix_ck_some h
  obtain ⟨b_2, q_3, h⟩ := ix_bd1_ex h
  refine iz_getR X fl_RX12_17 k_1 q_3 (ix_tb_at tb_X12_takeItems 1 rfl) (pc1 := 4) rfl ?_
  refine ix_iload_n (i := 1) (j := 1) X (ix_tb_at tb_X12_takeItems 2 rfl) rfl rfl (pc1 := 5) rfl ?_
  obtain ⟨k_4, h⟩ := ix_ck_some h
  refine iz_iald X k_4 (ix_tb_at tb_X12_takeItems 3 rfl) (pc1 := 6) rfl ?_
  refine ix_if_ge (tgt := 13) X (ix_tb_at tb_X12_takeItems 4 rfl) (by decide) (pc1 := 9) rfl (fun q_5 => ?_) (fun q_5 => ?_)
  · have h := ix_ift q_5 h
    refine ix_aload_n (i := 0) (j := 0) X (ix_tb_at tb_X12_takeItems 7 rfl) rfl rfl (pc1 := 14) rfl ?_
    refine ix_aload_n (i := 0) (j := 0) X (ix_tb_at tb_X12_takeItems 8 rfl) rfl rfl (pc1 := 15) rfl ?_
    refine iz_getR X fl_RX12_17 k_1 q_3 (ix_tb_at tb_X12_takeItems 9 rfl) (pc1 := 18) rfl ?_
    refine ix_iload_n (i := 1) (j := 1) X (ix_tb_at tb_X12_takeItems 10 rfl) rfl rfl (pc1 := 19) rfl ?_
    refine iz_iald X k_4 (ix_tb_at tb_X12_takeItems 11 rfl) (pc1 := 20) rfl ?_
    obtain ⟨d_6, e_7, h⟩ := ix_lt_ex h
    refine iz_putI X fp_RX12_292 k_1 (ix_tb_at tb_X12_takeItems 12 rfl) e_7 (pc1 := 23) rfl ?_
    refine ix_iconst (v := 0) X (ix_tb_at tb_X12_takeItems 13 rfl) (by decide) (pc1 := 24) rfl ?_
    refine ix_istore_n (i := 2) (L1 := [(2, .int 0), (0, .ref (K.2.2.1 + a0)), (1, .int x1)]) X (ix_tb_at tb_X12_takeItems 14 rfl) rfl (Nat.le_of_ble_eq_true rfl) rfl (pc1 := 25) rfl ?_
    refine ix_iconst (v := 0) X (ix_tb_at tb_X12_takeItems 15 rfl) (by decide) (pc1 := 26) rfl ?_
    refine ix_istore_n (i := 3) (L1 := [(3, .int 0), (2, .int 0), (0, .ref (K.2.2.1 + a0)), (1, .int x1)]) X (ix_tb_at tb_X12_takeItems 16 rfl) rfl (Nat.le_of_ble_eq_true rfl) rfl (pc1 := 27) rfl ?_
    refine ix_sub (L1 := [(0, .ref (K.2.2.1 + a0)), (1, .int x1), (2, .int 0), (3, .int 0)]) [2, 3, 1, 0] rfl ?_
    exact t_X12_takeItems_27 hKp X hr hlk  h
  · have h := ix_iff q_5 h
    refine ix_sipush (v := (-1011)) X (ix_tb_at tb_X12_takeItems 5 rfl) (by decide) (pc1 := 12) rfl ?_
    exact ix_iret X hr hlk (ix_r2 (f := fun r => some (.int r)) (g := ix_w z) h) (ix_tb_at tb_X12_takeItems 6 rfl)
def tab_X12_layAtMost : List (Nat × Instr × Nat) := [(0, .iconst 1, 1), (1, .istore_n 3, 1), (2, .iload_n 3, 1), (3, .aload_n 0, 1), (4, .getfield 292, 3), (7, .if_icmp .gt 235, 3), (10, .aload_n 0, 1), (11, .getfield 86, 3), (14, .iload_n 3, 1), (15, .iconst 1, 1), (16, .isub, 1), (17, .iaload, 1), (18, .istore 4, 2), (20, .iconst 1, 1), (21, .istore 5, 2), (23, .iload 5, 2), (25, .iload_n 3, 1), (26, .if_icmp .gt 180, 3), (29, .iload 5, 2), (31, .iload_n 1, 1), (32, .iconst 1, 1), (33, .iadd, 1), (34, .if_icmp .gt 172, 3), (37, .iload_n 3, 1), (38, .iconst 1, 1), (39, .if_icmp .ne 14, 3), (42, .aload_n 0, 1), (43, .getfield 89, 3), (46, .iconst 1, 1), (47, .iload 4, 2), (49, .iastore, 1), (50, .goto 150, 3), (53, .aload_n 0, 1), (54, .invokevirtual 298, 3), (57, .istore 6, 2), (59, .aload_n 0, 1), (60, .getfield 92, 3), (63, .iload 5, 2), (65, .iaload, 1), (66, .istore 7, 2), (68, .aload_n 0, 1), (69, .getfield 92, 3), (72, .iload 5, 2), (74, .iconst 1, 1), (75, .isub, 1), (76, .iaload, 1), (77, .istore 8, 2), (79, .iload 5, 2), (81, .iload_n 3, 1), (82, .if_icmp .ge 12, 3), (85, .aload_n 0, 1), (86, .iload 7, 2), (88, .ineg, 1), (89, .iload 6, 2), (91, .invokevirtual 302, 3), (94, .iload 5, 2), (96, .iconst 1, 1), (97, .if_icmp .ne 15, 3), (100, .aload_n 0, 1), (101, .iload 4, 2), (103, .ineg, 1), (104, .iload 6, 2), (106, .invokevirtual 302, 3), (109, .goto 15, 3), (112, .aload_n 0, 1), (113, .iload 4, 2), (115, .ineg, 1), (116, .iload 8, 2), (118, .ineg, 1), (119, .iload 6, 2), (121, .invokevirtual 306, 3), (124, .iload 5, 2), (126, .iload_n 3, 1), (127, .if_icmp .ne 15, 3), (130, .aload_n 0, 1), (131, .iload 4, 2), (133, .iload 6, 2), (135, .ineg, 1), (136, .invokevirtual 302, 3), (139, .goto 14, 3), (142, .aload_n 0, 1), (143, .iload 7, 2), (145, .iload 4, 2), (147, .iload 6, 2), (149, .ineg, 1), (150, .invokevirtual 306, 3), (153, .iload 5, 2), (155, .iconst 1, 1), (156, .if_icmp .le 20, 3), (159, .iload 5, 2), (161, .iload_n 3, 1), (162, .if_icmp .ge 14, 3), (165, .aload_n 0, 1), (166, .iload 7, 2), (168, .iload 8, 2), (170, .iload 6, 2), (172, .ineg, 1), (173, .invokevirtual 306, 3), (176, .iload 5, 2), (178, .iload_n 3, 1), (179, .if_icmp .ne 12, 3), (182, .aload_n 0, 1), (183, .iload 8, 2), (185, .iload 6, 2), (187, .ineg, 1), (188, .invokevirtual 302, 3), (191, .aload_n 0, 1), (192, .getfield 89, 3), (195, .iload 5, 2), (197, .iload 6, 2), (199, .iastore, 1), (200, .iinc 5 1, 3), (203, .goto (-180), 3), (206, .iconst 1, 1), (207, .istore 5, 2), (209, .iload 5, 2), (211, .bipush 13, 2), (213, .if_icmp .gt 23, 3), (216, .aload_n 0, 1), (217, .getfield 92, 3), (220, .iload 5, 2), (222, .aload_n 0, 1), (223, .getfield 89, 3), (226, .iload 5, 2), (228, .iaload, 1), (229, .iastore, 1), (230, .iinc 5 1, 3), (233, .goto (-24), 3), (236, .iinc 3 1, 3), (239, .goto (-237), 3), (242, .aload_n 0, 1), (243, .getfield 292, 3), (246, .iload_n 1, 1), (247, .if_icmp .le 20, 3), (250, .aload_n 0, 1), (251, .aload_n 0, 1), (252, .getfield 89, 3), (255, .iload_n 1, 1), (256, .iconst 1, 1), (257, .iadd, 1), (258, .iaload, 1), (259, .ineg, 1), (260, .invokevirtual 282, 3), (263, .aload_n 0, 1), (264, .invokevirtual 286, 3), (267, .iload_n 2, 1), (268, .ifCond .eq 18, 3), (271, .iload_n 1, 1), (272, .aload_n 0, 1), (273, .getfield 292, 3), (276, .if_icmp .le 10, 3), (279, .aload_n 0, 1), (280, .invokevirtual 286, 3), (283, .goto 25, 3), (286, .iload_n 2, 1), (287, .ifCond .eq 21, 3), (290, .iload_n 1, 1), (291, .ifCond .le 17, 3), (294, .aload_n 0, 1), (295, .aload_n 0, 1), (296, .getfield 89, 3), (299, .iload_n 1, 1), (300, .iaload, 1), (301, .invokevirtual 282, 3), (304, .aload_n 0, 1), (305, .invokevirtual 286, 3), (308, .return_, 1)]
theorem tb_X12_layAtMost : ix_tab cX12_layAtMost tab_X12_layAtMost := by
  unfold ix_tab
  decide +kernel
noncomputable def f_X12_layAtMost_286 (n : Nat) (z : ix_Z)  (a0 : Nat) (x1 : Int32) (x2 : Int32) (d : ix_D2) : Option (ix_D2) :=
  ix_if (x2 = 0) (some d) (ix_if (x1 ≤ 0) (some d) (ix_ck (ix_ok z [11] a0) (ix_bd1 (z.1 a0 43) (fun b_8 => ix_ck (ix_ix z 20 b_8 x1) (ix_bd1 (f_X12_lay n z a0 (d.1 b_8 (ix_n x1)) d) (fun d_11 => ix_bd1 (f_X12_endRow n z a0 d_11) (fun d_13 => some d_13)))))))
noncomputable def f_X12_layAtMost_267 (n : Nat) (z : ix_Z)  (a0 : Nat) (x1 : Int32) (x2 : Int32) (d : ix_D2) : Option (ix_D2) :=
  ix_if (x2 = 0) (f_X12_layAtMost_286 n z  a0 x1 x2 d) (ix_ck (ix_ok z [11] a0) (ix_if (x1 ≤ d.1 a0 42) (f_X12_layAtMost_286 n z  a0 x1 x2 d) (ix_bd1 (f_X12_endRow n z a0 d) (fun d_17 => some d_17))))
noncomputable def b_X12_layAtMost_209 (n : Nat) (z : ix_Z) (rec2 : Int32 → ix_D2 → Option (ix_D2)) (a0 : Nat) (x1 : Int32) (x2 : Int32) (x3 : Int32) (rec209 : Int32 → ix_D2 → Option (ix_D2)) (x5 : Int32) (d : ix_D2) : Option (ix_D2) :=
  ix_if (13 < x5) (ix_lt (x3 + 1) (fun x3_33 => rec2 x3_33 d)) (ix_ck (ix_ok z [11] a0) (ix_bd1 (z.1 a0 44) (fun b_36 => ix_bd1 (z.1 a0 43) (fun b_38 => ix_ck (ix_ix z 20 b_38 x5) (ix_ck (ix_ix z 20 b_36 x5) (ix_lt (ix_di d b_36 (ix_n x5) (d.1 b_38 (ix_n x5))) (fun d_42 => ix_lt (x5 + 1) (fun x5_44 => rec209 x5_44 d_42))))))))
noncomputable def f_X12_layAtMost_209 (n : Nat) (z : ix_Z) (rec2 : Int32 → ix_D2 → Option (ix_D2)) (a0 : Nat) (x1 : Int32) (x2 : Int32) (x3 : Int32) (x5 : Int32) (d : ix_D2) : Option (ix_D2) := ix_fix (b_X12_layAtMost_209 n z rec2 a0 x1 x2 x3) (fun _ _ => none) n x5 d
noncomputable def f_X12_layAtMost_206 (n : Nat) (z : ix_Z) (rec2 : Int32 → ix_D2 → Option (ix_D2)) (a0 : Nat) (x1 : Int32) (x2 : Int32) (x3 : Int32) (d : ix_D2) : Option (ix_D2) :=
  f_X12_layAtMost_209 n z rec2 a0 x1 x2 x3 1 d
noncomputable def f_X12_layAtMost_200 (n : Nat) (z : ix_Z) (rec2 : Int32 → ix_D2 → Option (ix_D2)) (rec23 : Int32 → ix_D2 → Option (ix_D2)) (a0 : Nat) (x1 : Int32) (x2 : Int32) (x3 : Int32) (x4 : Int32) (x5 : Int32) (d : ix_D2) : Option (ix_D2) :=
  ix_lt (x5 + 1) (fun x5_77 => rec23 x5_77 d)
noncomputable def f_X12_layAtMost_191 (n : Nat) (z : ix_Z) (rec2 : Int32 → ix_D2 → Option (ix_D2)) (rec23 : Int32 → ix_D2 → Option (ix_D2)) (a0 : Nat) (x1 : Int32) (x2 : Int32) (x3 : Int32) (x4 : Int32) (x5 : Int32) (x6 : Int32) (d : ix_D2) : Option (ix_D2) :=
  ix_ck (ix_ok z [11] a0) (ix_bd1 (z.1 a0 43) (fun b_72 => ix_ck (ix_ix z 20 b_72 x5) (ix_lt (ix_di d b_72 (ix_n x5) x6) (fun d_75 => f_X12_layAtMost_200 n z rec2 rec23 a0 x1 x2 x3 x4 x5 d_75))))
noncomputable def f_X12_layAtMost_176 (n : Nat) (z : ix_Z) (rec2 : Int32 → ix_D2 → Option (ix_D2)) (rec23 : Int32 → ix_D2 → Option (ix_D2)) (a0 : Nat) (x1 : Int32) (x2 : Int32) (x3 : Int32) (x4 : Int32) (x5 : Int32) (x6 : Int32) (x8 : Int32) (d : ix_D2) : Option (ix_D2) :=
  ix_if (x5 = x3) (ix_ck (ix_ok z [11] a0) (ix_bd1 (f_X12_layTwo n z a0 x8 (-x6) d) (fun d_79 => f_X12_layAtMost_191 n z rec2 rec23 a0 x1 x2 x3 x4 x5 x6 d_79))) (f_X12_layAtMost_191 n z rec2 rec23 a0 x1 x2 x3 x4 x5 x6 d)
noncomputable def f_X12_layAtMost_153 (n : Nat) (z : ix_Z) (rec2 : Int32 → ix_D2 → Option (ix_D2)) (rec23 : Int32 → ix_D2 → Option (ix_D2)) (a0 : Nat) (x1 : Int32) (x2 : Int32) (x3 : Int32) (x4 : Int32) (x5 : Int32) (x6 : Int32) (x7 : Int32) (x8 : Int32) (d : ix_D2) : Option (ix_D2) :=
  ix_if (x5 ≤ 1) (f_X12_layAtMost_176 n z rec2 rec23 a0 x1 x2 x3 x4 x5 x6 x8 d) (ix_if (x3 ≤ x5) (f_X12_layAtMost_176 n z rec2 rec23 a0 x1 x2 x3 x4 x5 x6 x8 d) (ix_ck (ix_ok z [11] a0) (ix_bd1 (f_X12_layThree n z a0 x7 x8 (-x6) d) (fun d_83 => f_X12_layAtMost_176 n z rec2 rec23 a0 x1 x2 x3 x4 x5 x6 x8 d_83))))
noncomputable def f_X12_layAtMost_124 (n : Nat) (z : ix_Z) (rec2 : Int32 → ix_D2 → Option (ix_D2)) (rec23 : Int32 → ix_D2 → Option (ix_D2)) (a0 : Nat) (x1 : Int32) (x2 : Int32) (x3 : Int32) (x4 : Int32) (x5 : Int32) (x6 : Int32) (x7 : Int32) (x8 : Int32) (d : ix_D2) : Option (ix_D2) :=
  ix_if (x5 = x3) (ix_ck (ix_ok z [11] a0) (ix_bd1 (f_X12_layTwo n z a0 x4 (-x6) d) (fun d_86 => f_X12_layAtMost_153 n z rec2 rec23 a0 x1 x2 x3 x4 x5 x6 x7 x8 d_86))) (ix_ck (ix_ok z [11] a0) (ix_bd1 (f_X12_layThree n z a0 x7 x4 (-x6) d) (fun d_66 => f_X12_layAtMost_153 n z rec2 rec23 a0 x1 x2 x3 x4 x5 x6 x7 x8 d_66)))
noncomputable def f_X12_layAtMost_94 (n : Nat) (z : ix_Z) (rec2 : Int32 → ix_D2 → Option (ix_D2)) (rec23 : Int32 → ix_D2 → Option (ix_D2)) (a0 : Nat) (x1 : Int32) (x2 : Int32) (x3 : Int32) (x4 : Int32) (x5 : Int32) (x6 : Int32) (x7 : Int32) (x8 : Int32) (d : ix_D2) : Option (ix_D2) :=
  ix_if (x5 = 1) (ix_ck (ix_ok z [11] a0) (ix_bd1 (f_X12_layTwo n z a0 (-x4) x6 d) (fun d_89 => f_X12_layAtMost_124 n z rec2 rec23 a0 x1 x2 x3 x4 x5 x6 x7 x8 d_89))) (ix_ck (ix_ok z [11] a0) (ix_bd1 (f_X12_layThree n z a0 (-x4) (-x8) x6 d) (fun d_62 => f_X12_layAtMost_124 n z rec2 rec23 a0 x1 x2 x3 x4 x5 x6 x7 x8 d_62)))
noncomputable def b_X12_layAtMost_23 (n : Nat) (z : ix_Z) (rec2 : Int32 → ix_D2 → Option (ix_D2)) (a0 : Nat) (x1 : Int32) (x2 : Int32) (x3 : Int32) (x4 : Int32) (rec23 : Int32 → ix_D2 → Option (ix_D2)) (x5 : Int32) (d : ix_D2) : Option (ix_D2) :=
  ix_if (x3 < x5) (f_X12_layAtMost_206 n z rec2 a0 x1 x2 x3 d) (ix_if (x1 + 1 < x5) (f_X12_layAtMost_206 n z rec2 a0 x1 x2 x3 d) (ix_if (x3 = 1) (ix_ck (ix_ok z [11] a0) (ix_bd1 (z.1 a0 43) (fun b_95 => ix_ck (ix_ix z 20 b_95 1) (ix_lt (ix_di d b_95 (ix_n 1) x4) (fun d_98 => f_X12_layAtMost_200 n z rec2 rec23 a0 x1 x2 x3 x4 x5 d_98))))) (ix_ck (ix_ok z [11] a0) (ix_bd2 (f_X12_newName n z a0 d) (fun r_51 d_48 => ix_bd1 (z.1 a0 44) (fun b_52 => ix_ck (ix_ix z 20 b_52 x5) (ix_lt (d_48.1 b_52 (ix_n x5)) (fun x7_55 => ix_ck (ix_ix z 20 b_52 (x5 - 1)) (ix_lt (d_48.1 b_52 (ix_n (x5 - 1))) (fun x8_58 => ix_if (x3 ≤ x5) (f_X12_layAtMost_94 n z rec2 rec23 a0 x1 x2 x3 x4 x5 r_51 x7_55 x8_58 d_48) (ix_bd1 (f_X12_layTwo n z a0 (-x7_55) r_51 d_48) (fun d_92 => f_X12_layAtMost_94 n z rec2 rec23 a0 x1 x2 x3 x4 x5 r_51 x7_55 x8_58 d_92))))))))))))
noncomputable def f_X12_layAtMost_23 (n : Nat) (z : ix_Z) (rec2 : Int32 → ix_D2 → Option (ix_D2)) (a0 : Nat) (x1 : Int32) (x2 : Int32) (x3 : Int32) (x4 : Int32) (x5 : Int32) (d : ix_D2) : Option (ix_D2) := ix_fix (b_X12_layAtMost_23 n z rec2 a0 x1 x2 x3 x4) (fun _ _ => none) n x5 d
noncomputable def b_X12_layAtMost_2 (n : Nat) (z : ix_Z)  (a0 : Nat) (x1 : Int32) (x2 : Int32) (rec2 : Int32 → ix_D2 → Option (ix_D2)) (x3 : Int32) (d : ix_D2) : Option (ix_D2) :=
  ix_ck (ix_ok z [11] a0) (ix_if (d.1 a0 42 < x3) (ix_if (d.1 a0 42 ≤ x1) (f_X12_layAtMost_267 n z  a0 x1 x2 d) (ix_bd1 (z.1 a0 43) (fun b_19 => ix_ck (ix_ix z 20 b_19 (x1 + 1)) (ix_bd1 (f_X12_lay n z a0 (-(d.1 b_19 (ix_n (x1 + 1)))) d) (fun d_22 => ix_bd1 (f_X12_endRow n z a0 d_22) (fun d_24 => f_X12_layAtMost_267 n z  a0 x1 x2 d_24)))))) (ix_bd1 (z.1 a0 41) (fun b_26 => ix_ck (ix_ix z 20 b_26 (x3 - 1)) (ix_lt (d.1 b_26 (ix_n (x3 - 1))) (fun x4_29 => f_X12_layAtMost_23 n z rec2 a0 x1 x2 x3 x4_29 1 d)))))
noncomputable def f_X12_layAtMost_2 (n : Nat) (z : ix_Z)  (a0 : Nat) (x1 : Int32) (x2 : Int32) (x3 : Int32) (d : ix_D2) : Option (ix_D2) := ix_fix (b_X12_layAtMost_2 n z  a0 x1 x2) (fun _ _ => none) n x3 d
noncomputable def f_X12_layAtMost (n : Nat) (z : ix_Z) (a0 : Nat) (x1 : Int32) (x2 : Int32) (d : ix_D2) : Option (ix_D2) :=
  f_X12_layAtMost_2 n z  a0 x1 x2 1 d
set_option maxRecDepth 20000 in
theorem t_X12_layAtMost_286 {l : Launch} {p : Program} {e : Env} {s : State} {m : MethodId} {args : Array Value} {below : List Frame} {meth : Method} {c : Code} {K : ix_Cx} (hKp : ix_Kp K) {n : Nat} {z : ix_Z} (X : ix_X p s m args c K cX12_layAtMost RX12 9) (hr : meth.sig.returnType = (none : Option Jvm.ClassFile.FieldType)) (hlk : meth.locks = false)  {a0 : Nat} {x1 : Int32} {x2 : Int32} {d1 : ix_D2}  {d : ix_D2} (h : f_X12_layAtMost_286 n z  a0 x1 x2 d = some d1) : ix_G p l e (ix_rm 2 46 0 0) s m args below meth c (MQ below (ix_Post K none (ix_w z d1)) args s 0 0 (ix_A K)) K 9 0 0 286 [(0, .ref (K.2.2.1 + a0)), (1, .int x1), (2, .int x2)] [] (ix_w z d) := by
  unfold f_X12_layAtMost_286 at h
  refine ix_iload_n (i := 2) (j := 2) X (ix_tb_at tb_X12_layAtMost 154 rfl) rfl rfl (pc1 := 287) rfl ?_
  refine ix_if_eq (tgt := 308) X (ix_tb_at tb_X12_layAtMost 155 rfl) (by decide) (pc1 := 290) rfl (fun q_5 => ?_) (fun q_5 => ?_)
  · have h := ix_ift q_5 h
    exact ix_vret X hr hlk (ix_r1 (g := ix_w z) h) (ix_tb_at tb_X12_layAtMost 166 rfl)
  · have h := ix_iff q_5 h
    refine ix_iload_n (i := 1) (j := 1) X (ix_tb_at tb_X12_layAtMost 156 rfl) rfl rfl (pc1 := 291) rfl ?_
    refine ix_if_le (tgt := 308) X (ix_tb_at tb_X12_layAtMost 157 rfl) (by decide) (pc1 := 294) rfl (fun q_6 => ?_) (fun q_6 => ?_)
    · have h := ix_ift q_6 h
      exact ix_vret X hr hlk (ix_r1 (g := ix_w z) h) (ix_tb_at tb_X12_layAtMost 166 rfl)
    · have h := ix_iff q_6 h
      refine ix_aload_n (i := 0) (j := 0) X (ix_tb_at tb_X12_layAtMost 158 rfl) rfl rfl (pc1 := 295) rfl ?_
      refine ix_aload_n (i := 0) (j := 0) X (ix_tb_at tb_X12_layAtMost 159 rfl) rfl rfl (pc1 := 296) rfl ?_
      obtain ⟨k_7, h⟩ := ix_ck_some h
      obtain ⟨b_8, q_9, h⟩ := ix_bd1_ex h
      refine iz_getR X fl_RX12_89 k_7 q_9 (ix_tb_at tb_X12_layAtMost 160 rfl) (pc1 := 299) rfl ?_
      refine ix_iload_n (i := 1) (j := 1) X (ix_tb_at tb_X12_layAtMost 161 rfl) rfl rfl (pc1 := 300) rfl ?_
      obtain ⟨k_10, h⟩ := ix_ck_some h
      refine iz_iald X k_10 (ix_tb_at tb_X12_layAtMost 162 rfl) (pc1 := 301) rfl ?_
      obtain ⟨d_11, h_12, h⟩ := ix_bd1_ex h
      refine ix_callV (As := [.int (d.1 b_8 (ix_n x1))]) (rest := []) (ci := 11) (T := TX12) (nf := 116) X mf_X12_lay mi_X12_lay ms_X12_lay rfl (Nat.le_of_ble_eq_true rfl) ml_RX12_282 ⟨Nat.le_of_ble_eq_true rfl, Nat.le_of_ble_eq_true rfl⟩ ⟨Nat.le_of_ble_eq_true rfl, Nat.le_of_ble_eq_true rfl⟩ rfl (Nat.le_of_ble_eq_true rfl) (ix_tb_at tb_X12_layAtMost 163 rfl) ⟨k_7.1, List.mem_singleton.mp k_7.2⟩ (c_X12_lay hKp h_12) rfl (pc1 := 304) rfl ?_
      refine ix_aload_n (i := 0) (j := 0) X (ix_tb_at tb_X12_layAtMost 164 rfl) rfl rfl (pc1 := 305) rfl ?_
      obtain ⟨d_13, h_14, h⟩ := ix_bd1_ex h
      refine ix_callV (As := []) (rest := []) (ci := 11) (T := TX12) (nf := 116) X mf_X12_endRow mi_X12_endRow ms_X12_endRow rfl (Nat.le_of_ble_eq_true rfl) ml_RX12_286 ⟨Nat.le_of_ble_eq_true rfl, Nat.le_of_ble_eq_true rfl⟩ ⟨Nat.le_of_ble_eq_true rfl, Nat.le_of_ble_eq_true rfl⟩ rfl (Nat.le_of_ble_eq_true rfl) (ix_tb_at tb_X12_layAtMost 165 rfl) ⟨k_7.1, List.mem_singleton.mp k_7.2⟩ (c_X12_endRow hKp h_14) rfl (pc1 := 308) rfl ?_
      exact ix_vret X hr hlk (ix_r1 (g := ix_w z) h) (ix_tb_at tb_X12_layAtMost 166 rfl)
set_option maxRecDepth 20000 in
theorem t_X12_layAtMost_267 {l : Launch} {p : Program} {e : Env} {s : State} {m : MethodId} {args : Array Value} {below : List Frame} {meth : Method} {c : Code} {K : ix_Cx} (hKp : ix_Kp K) {n : Nat} {z : ix_Z} (X : ix_X p s m args c K cX12_layAtMost RX12 9) (hr : meth.sig.returnType = (none : Option Jvm.ClassFile.FieldType)) (hlk : meth.locks = false)  {a0 : Nat} {x1 : Int32} {x2 : Int32} {d1 : ix_D2}  {d : ix_D2} (h : f_X12_layAtMost_267 n z  a0 x1 x2 d = some d1) : ix_G p l e (ix_rm 2 46 0 0) s m args below meth c (MQ below (ix_Post K none (ix_w z d1)) args s 0 0 (ix_A K)) K 9 0 0 267 [(0, .ref (K.2.2.1 + a0)), (1, .int x1), (2, .int x2)] [] (ix_w z d) := by
  unfold f_X12_layAtMost_267 at h
  refine ix_iload_n (i := 2) (j := 2) X (ix_tb_at tb_X12_layAtMost 145 rfl) rfl rfl (pc1 := 268) rfl ?_
  refine ix_if_eq (tgt := 286) X (ix_tb_at tb_X12_layAtMost 146 rfl) (by decide) (pc1 := 271) rfl (fun q_4 => ?_) (fun q_4 => ?_)
  · have h := ix_ift q_4 h
    refine ix_sub (L1 := [(0, .ref (K.2.2.1 + a0)), (1, .int x1), (2, .int x2)]) [0, 1, 2] rfl ?_
    exact t_X12_layAtMost_286 hKp X hr hlk  h
  · have h := ix_iff q_4 h
    refine ix_iload_n (i := 1) (j := 1) X (ix_tb_at tb_X12_layAtMost 147 rfl) rfl rfl (pc1 := 272) rfl ?_
    refine ix_aload_n (i := 0) (j := 0) X (ix_tb_at tb_X12_layAtMost 148 rfl) rfl rfl (pc1 := 273) rfl ?_
    obtain ⟨k_15, h⟩ := ix_ck_some h
    refine iz_getI X fl_RX12_292 k_15 (ix_tb_at tb_X12_layAtMost 149 rfl) (pc1 := 276) rfl ?_
    refine ix_icmp_le (tgt := 286) X (ix_tb_at tb_X12_layAtMost 150 rfl) (by decide) (pc1 := 279) rfl (fun q_16 => ?_) (fun q_16 => ?_)
    · have h := ix_ift q_16 h
      refine ix_sub (L1 := [(0, .ref (K.2.2.1 + a0)), (1, .int x1), (2, .int x2)]) [0, 1, 2] rfl ?_
      exact t_X12_layAtMost_286 hKp X hr hlk  h
    · have h := ix_iff q_16 h
      refine ix_aload_n (i := 0) (j := 0) X (ix_tb_at tb_X12_layAtMost 151 rfl) rfl rfl (pc1 := 280) rfl ?_
      obtain ⟨d_17, h_18, h⟩ := ix_bd1_ex h
      refine ix_callV (As := []) (rest := []) (ci := 11) (T := TX12) (nf := 116) X mf_X12_endRow mi_X12_endRow ms_X12_endRow rfl (Nat.le_of_ble_eq_true rfl) ml_RX12_286 ⟨Nat.le_of_ble_eq_true rfl, Nat.le_of_ble_eq_true rfl⟩ ⟨Nat.le_of_ble_eq_true rfl, Nat.le_of_ble_eq_true rfl⟩ rfl (Nat.le_of_ble_eq_true rfl) (ix_tb_at tb_X12_layAtMost 152 rfl) ⟨k_15.1, List.mem_singleton.mp k_15.2⟩ (c_X12_endRow hKp h_18) rfl (pc1 := 283) rfl ?_
      refine ix_goto (tgt := 308) X (ix_tb_at tb_X12_layAtMost 153 rfl) (by decide) ?_
      exact ix_vret X hr hlk (ix_r1 (g := ix_w z) h) (ix_tb_at tb_X12_layAtMost 166 rfl)
set_option maxRecDepth 20000 in
theorem tb_X12_layAtMost_209 {l : Launch} {p : Program} {e : Env} {s : State} {m : MethodId} {args : Array Value} {below : List Frame} {meth : Method} {c : Code} {K : ix_Cx} (hKp : ix_Kp K) {n : Nat} {z : ix_Z} (X : ix_X p s m args c K cX12_layAtMost RX12 9) (hr : meth.sig.returnType = (none : Option Jvm.ClassFile.FieldType)) (hlk : meth.locks = false) {rec2 : Int32 → ix_D2 → Option (ix_D2)} {a0 : Nat} {x1 : Int32} {x2 : Int32} {x3 : Int32} {rec209 : Int32 → ix_D2 → Option (ix_D2)} {d1 : ix_D2} (hrec2 : ∀ (x3 : Int32) (d : ix_D2), rec2 x3 d = some d1 → ix_G p l e (ix_rm 2 46 0 0) s m args below meth c (MQ below (ix_Post K none (ix_w z d1)) args s 0 0 (ix_A K)) K 9 0 0 2 [(0, .ref (K.2.2.1 + a0)), (1, .int x1), (2, .int x2), (3, .int x3)] [] (ix_w z d)) (hrec209 : ∀ (x5 : Int32) (d : ix_D2), rec209 x5 d = some d1 → ix_G p l e (ix_rm 2 46 0 0) s m args below meth c (MQ below (ix_Post K none (ix_w z d1)) args s 0 0 (ix_A K)) K 9 0 0 209 [(0, .ref (K.2.2.1 + a0)), (1, .int x1), (2, .int x2), (3, .int x3), (5, .int x5)] [] (ix_w z d)) {x5 : Int32} {d : ix_D2} (h : b_X12_layAtMost_209 n z rec2 a0 x1 x2 x3 rec209 x5 d = some d1) : ix_G p l e (ix_rm 2 46 0 0) s m args below meth c (MQ below (ix_Post K none (ix_w z d1)) args s 0 0 (ix_A K)) K 9 0 0 209 [(0, .ref (K.2.2.1 + a0)), (1, .int x1), (2, .int x2), (3, .int x3), (5, .int x5)] [] (ix_w z d) := by
  unfold b_X12_layAtMost_209 at h
  refine ix_iload (i := 5) (j := 4) X (ix_tb_at tb_X12_layAtMost 115 rfl) rfl (pc1 := 211) rfl ?_
  refine ix_bipush (v := 13) X (ix_tb_at tb_X12_layAtMost 116 rfl) (by decide) (pc1 := 213) rfl ?_
  refine ix_icmp_gt (tgt := 236) X (ix_tb_at tb_X12_layAtMost 117 rfl) (by decide) (pc1 := 216) rfl (fun q_32 => ?_) (fun q_32 => ?_)
  · have h := ix_ift q_32 h
    obtain ⟨x3_33, e_34, h⟩ := ix_lt_ex h
    refine ix_iinc (i := 3) (j := 3) (v := x3_33) (L1 := [(3, .int x3_33), (0, .ref (K.2.2.1 + a0)), (1, .int x1), (2, .int x2), (5, .int x5)]) X (ix_tb_at tb_X12_layAtMost 128 rfl) rfl (by rw [oi_1]; exact e_34.symm) (Nat.le_of_ble_eq_true rfl) rfl (pc1 := 239) rfl ?_
    refine ix_goto (tgt := 2) X (ix_tb_at tb_X12_layAtMost 129 rfl) (by decide) ?_
    refine ix_sub (L1 := [(0, .ref (K.2.2.1 + a0)), (1, .int x1), (2, .int x2), (3, .int x3_33)]) [1, 2, 3, 0] rfl ?_
    exact hrec2 x3_33 d h
  · have h := ix_iff q_32 h
    refine ix_aload_n (i := 0) (j := 0) X (ix_tb_at tb_X12_layAtMost 118 rfl) rfl rfl (pc1 := 217) rfl ?_
    obtain ⟨k_35, h⟩ := ix_ck_some h
    obtain ⟨b_36, q_37, h⟩ := ix_bd1_ex h
    refine iz_getR X fl_RX12_92 k_35 q_37 (ix_tb_at tb_X12_layAtMost 119 rfl) (pc1 := 220) rfl ?_
    refine ix_iload (i := 5) (j := 4) X (ix_tb_at tb_X12_layAtMost 120 rfl) rfl (pc1 := 222) rfl ?_
    refine ix_aload_n (i := 0) (j := 0) X (ix_tb_at tb_X12_layAtMost 121 rfl) rfl rfl (pc1 := 223) rfl ?_
    obtain ⟨b_38, q_39, h⟩ := ix_bd1_ex h
    refine iz_getR X fl_RX12_89 k_35 q_39 (ix_tb_at tb_X12_layAtMost 122 rfl) (pc1 := 226) rfl ?_
    refine ix_iload (i := 5) (j := 4) X (ix_tb_at tb_X12_layAtMost 123 rfl) rfl (pc1 := 228) rfl ?_
    obtain ⟨k_40, h⟩ := ix_ck_some h
    refine iz_iald X k_40 (ix_tb_at tb_X12_layAtMost 124 rfl) (pc1 := 229) rfl ?_
    obtain ⟨k_41, h⟩ := ix_ck_some h
    obtain ⟨d_42, e_43, h⟩ := ix_lt_ex h
    refine iz_iast X k_41 (ix_tb_at tb_X12_layAtMost 125 rfl) e_43 (pc1 := 230) rfl ?_
    obtain ⟨x5_44, e_45, h⟩ := ix_lt_ex h
    refine ix_iinc (i := 5) (j := 4) (v := x5_44) (L1 := [(5, .int x5_44), (0, .ref (K.2.2.1 + a0)), (1, .int x1), (2, .int x2), (3, .int x3)]) X (ix_tb_at tb_X12_layAtMost 126 rfl) rfl (by rw [oi_1]; exact e_45.symm) (Nat.le_of_ble_eq_true rfl) rfl (pc1 := 233) rfl ?_
    refine ix_goto (tgt := 209) X (ix_tb_at tb_X12_layAtMost 127 rfl) (by decide) ?_
    refine ix_sub (L1 := [(0, .ref (K.2.2.1 + a0)), (1, .int x1), (2, .int x2), (3, .int x3), (5, .int x5_44)]) [1, 2, 3, 4, 0] rfl ?_
    exact hrec209 x5_44 d_42 h
theorem t_X12_layAtMost_209 {l : Launch} {p : Program} {e : Env} {s : State} {m : MethodId} {args : Array Value} {below : List Frame} {meth : Method} {c : Code} {K : ix_Cx} (hKp : ix_Kp K) {n : Nat} {z : ix_Z} (X : ix_X p s m args c K cX12_layAtMost RX12 9) (hr : meth.sig.returnType = (none : Option Jvm.ClassFile.FieldType)) (hlk : meth.locks = false) {rec2 : Int32 → ix_D2 → Option (ix_D2)} {a0 : Nat} {x1 : Int32} {x2 : Int32} {x3 : Int32} {d1 : ix_D2} (hrec2 : ∀ (x3 : Int32) (d : ix_D2), rec2 x3 d = some d1 → ix_G p l e (ix_rm 2 46 0 0) s m args below meth c (MQ below (ix_Post K none (ix_w z d1)) args s 0 0 (ix_A K)) K 9 0 0 2 [(0, .ref (K.2.2.1 + a0)), (1, .int x1), (2, .int x2), (3, .int x3)] [] (ix_w z d)) {x5 : Int32} {d : ix_D2} (h : f_X12_layAtMost_209 n z rec2 a0 x1 x2 x3 x5 d = some d1) : ix_G p l e (ix_rm 2 46 0 0) s m args below meth c (MQ below (ix_Post K none (ix_w z d1)) args s 0 0 (ix_A K)) K 9 0 0 209 [(0, .ref (K.2.2.1 + a0)), (1, .int x1), (2, .int x2), (3, .int x3), (5, .int x5)] [] (ix_w z d) := by
  have key : ∀ (f : Nat) (x5 : Int32) (d : ix_D2), ix_fix (b_X12_layAtMost_209 n z rec2 a0 x1 x2 x3) (fun _ _ => none) f x5 d = some d1 → ix_G p l e (ix_rm 2 46 0 0) s m args below meth c (MQ below (ix_Post K none (ix_w z d1)) args s 0 0 (ix_A K)) K 9 0 0 209 [(0, .ref (K.2.2.1 + a0)), (1, .int x1), (2, .int x2), (3, .int x3), (5, .int x5)] [] (ix_w z d) := by
    intro f
    induction f with
    | zero =>
      intro x5 d h
      have h : (none : Option (ix_D2)) = some d1 := h
      cases h
    | succ f ih =>
      intro x5 d h
      exact tb_X12_layAtMost_209 hKp X hr hlk (rec209 := ix_fix (b_X12_layAtMost_209 n z rec2 a0 x1 x2 x3) (fun _ _ => none) f) hrec2 ih h
  exact key n x5 d h
set_option maxRecDepth 20000 in
theorem t_X12_layAtMost_206 {l : Launch} {p : Program} {e : Env} {s : State} {m : MethodId} {args : Array Value} {below : List Frame} {meth : Method} {c : Code} {K : ix_Cx} (hKp : ix_Kp K) {n : Nat} {z : ix_Z} (X : ix_X p s m args c K cX12_layAtMost RX12 9) (hr : meth.sig.returnType = (none : Option Jvm.ClassFile.FieldType)) (hlk : meth.locks = false) {rec2 : Int32 → ix_D2 → Option (ix_D2)} {a0 : Nat} {x1 : Int32} {x2 : Int32} {x3 : Int32} {d1 : ix_D2} (hrec2 : ∀ (x3 : Int32) (d : ix_D2), rec2 x3 d = some d1 → ix_G p l e (ix_rm 2 46 0 0) s m args below meth c (MQ below (ix_Post K none (ix_w z d1)) args s 0 0 (ix_A K)) K 9 0 0 2 [(0, .ref (K.2.2.1 + a0)), (1, .int x1), (2, .int x2), (3, .int x3)] [] (ix_w z d)) {d : ix_D2} (h : f_X12_layAtMost_206 n z rec2 a0 x1 x2 x3 d = some d1) : ix_G p l e (ix_rm 2 46 0 0) s m args below meth c (MQ below (ix_Post K none (ix_w z d1)) args s 0 0 (ix_A K)) K 9 0 0 206 [(0, .ref (K.2.2.1 + a0)), (1, .int x1), (2, .int x2), (3, .int x3)] [] (ix_w z d) := by
  unfold f_X12_layAtMost_206 at h
  refine ix_iconst (v := 1) X (ix_tb_at tb_X12_layAtMost 113 rfl) (by decide) (pc1 := 207) rfl ?_
  refine ix_istore (i := 5) (L1 := [(5, .int 1), (0, .ref (K.2.2.1 + a0)), (1, .int x1), (2, .int x2), (3, .int x3)]) X (ix_tb_at tb_X12_layAtMost 114 rfl) (Nat.le_of_ble_eq_true rfl) rfl (pc1 := 209) rfl ?_
  refine ix_sub (L1 := [(0, .ref (K.2.2.1 + a0)), (1, .int x1), (2, .int x2), (3, .int x3), (5, .int 1)]) [1, 2, 3, 4, 0] rfl ?_
  exact t_X12_layAtMost_209 hKp X hr hlk hrec2 h
set_option maxRecDepth 20000 in
theorem t_X12_layAtMost_200 {l : Launch} {p : Program} {e : Env} {s : State} {m : MethodId} {args : Array Value} {below : List Frame} {meth : Method} {c : Code} {K : ix_Cx} (hKp : ix_Kp K) {n : Nat} {z : ix_Z} (X : ix_X p s m args c K cX12_layAtMost RX12 9) (hr : meth.sig.returnType = (none : Option Jvm.ClassFile.FieldType)) (hlk : meth.locks = false) {rec2 : Int32 → ix_D2 → Option (ix_D2)} {rec23 : Int32 → ix_D2 → Option (ix_D2)} {a0 : Nat} {x1 : Int32} {x2 : Int32} {x3 : Int32} {x4 : Int32} {x5 : Int32} {d1 : ix_D2} (hrec2 : ∀ (x3 : Int32) (d : ix_D2), rec2 x3 d = some d1 → ix_G p l e (ix_rm 2 46 0 0) s m args below meth c (MQ below (ix_Post K none (ix_w z d1)) args s 0 0 (ix_A K)) K 9 0 0 2 [(0, .ref (K.2.2.1 + a0)), (1, .int x1), (2, .int x2), (3, .int x3)] [] (ix_w z d)) (hrec23 : ∀ (x5 : Int32) (d : ix_D2), rec23 x5 d = some d1 → ix_G p l e (ix_rm 2 46 0 0) s m args below meth c (MQ below (ix_Post K none (ix_w z d1)) args s 0 0 (ix_A K)) K 9 0 0 23 [(0, .ref (K.2.2.1 + a0)), (1, .int x1), (2, .int x2), (3, .int x3), (4, .int x4), (5, .int x5)] [] (ix_w z d)) {d : ix_D2} (h : f_X12_layAtMost_200 n z rec2 rec23 a0 x1 x2 x3 x4 x5 d = some d1) : ix_G p l e (ix_rm 2 46 0 0) s m args below meth c (MQ below (ix_Post K none (ix_w z d1)) args s 0 0 (ix_A K)) K 9 0 0 200 [(0, .ref (K.2.2.1 + a0)), (1, .int x1), (2, .int x2), (3, .int x3), (4, .int x4), (5, .int x5)] [] (ix_w z d) := by
  unfold f_X12_layAtMost_200 at h
  obtain ⟨x5_77, e_78, h⟩ := ix_lt_ex h
  refine ix_iinc (i := 5) (j := 5) (v := x5_77) (L1 := [(5, .int x5_77), (0, .ref (K.2.2.1 + a0)), (1, .int x1), (2, .int x2), (3, .int x3), (4, .int x4)]) X (ix_tb_at tb_X12_layAtMost 111 rfl) rfl (by rw [oi_1]; exact e_78.symm) (Nat.le_of_ble_eq_true rfl) rfl (pc1 := 203) rfl ?_
  refine ix_goto (tgt := 23) X (ix_tb_at tb_X12_layAtMost 112 rfl) (by decide) ?_
  refine ix_sub (L1 := [(0, .ref (K.2.2.1 + a0)), (1, .int x1), (2, .int x2), (3, .int x3), (4, .int x4), (5, .int x5_77)]) [1, 2, 3, 4, 5, 0] rfl ?_
  exact hrec23 x5_77 d h
set_option maxRecDepth 20000 in
theorem t_X12_layAtMost_191 {l : Launch} {p : Program} {e : Env} {s : State} {m : MethodId} {args : Array Value} {below : List Frame} {meth : Method} {c : Code} {K : ix_Cx} (hKp : ix_Kp K) {n : Nat} {z : ix_Z} (X : ix_X p s m args c K cX12_layAtMost RX12 9) (hr : meth.sig.returnType = (none : Option Jvm.ClassFile.FieldType)) (hlk : meth.locks = false) {rec2 : Int32 → ix_D2 → Option (ix_D2)} {rec23 : Int32 → ix_D2 → Option (ix_D2)} {a0 : Nat} {x1 : Int32} {x2 : Int32} {x3 : Int32} {x4 : Int32} {x5 : Int32} {x6 : Int32} {d1 : ix_D2} (hrec2 : ∀ (x3 : Int32) (d : ix_D2), rec2 x3 d = some d1 → ix_G p l e (ix_rm 2 46 0 0) s m args below meth c (MQ below (ix_Post K none (ix_w z d1)) args s 0 0 (ix_A K)) K 9 0 0 2 [(0, .ref (K.2.2.1 + a0)), (1, .int x1), (2, .int x2), (3, .int x3)] [] (ix_w z d)) (hrec23 : ∀ (x5 : Int32) (d : ix_D2), rec23 x5 d = some d1 → ix_G p l e (ix_rm 2 46 0 0) s m args below meth c (MQ below (ix_Post K none (ix_w z d1)) args s 0 0 (ix_A K)) K 9 0 0 23 [(0, .ref (K.2.2.1 + a0)), (1, .int x1), (2, .int x2), (3, .int x3), (4, .int x4), (5, .int x5)] [] (ix_w z d)) {d : ix_D2} (h : f_X12_layAtMost_191 n z rec2 rec23 a0 x1 x2 x3 x4 x5 x6 d = some d1) : ix_G p l e (ix_rm 2 46 0 0) s m args below meth c (MQ below (ix_Post K none (ix_w z d1)) args s 0 0 (ix_A K)) K 9 0 0 191 [(0, .ref (K.2.2.1 + a0)), (1, .int x1), (2, .int x2), (3, .int x3), (4, .int x4), (5, .int x5), (6, .int x6)] [] (ix_w z d) := by
  unfold f_X12_layAtMost_191 at h
  refine ix_aload_n (i := 0) (j := 0) X (ix_tb_at tb_X12_layAtMost 106 rfl) rfl rfl (pc1 := 192) rfl ?_
  obtain ⟨k_71, h⟩ := ix_ck_some h
  obtain ⟨b_72, q_73, h⟩ := ix_bd1_ex h
  refine iz_getR X fl_RX12_89 k_71 q_73 (ix_tb_at tb_X12_layAtMost 107 rfl) (pc1 := 195) rfl ?_
  refine ix_iload (i := 5) (j := 5) X (ix_tb_at tb_X12_layAtMost 108 rfl) rfl (pc1 := 197) rfl ?_
  refine ix_iload (i := 6) (j := 6) X (ix_tb_at tb_X12_layAtMost 109 rfl) rfl (pc1 := 199) rfl ?_
  obtain ⟨k_74, h⟩ := ix_ck_some h
  obtain ⟨d_75, e_76, h⟩ := ix_lt_ex h
  refine iz_iast X k_74 (ix_tb_at tb_X12_layAtMost 110 rfl) e_76 (pc1 := 200) rfl ?_
  refine ix_sub (L1 := [(0, .ref (K.2.2.1 + a0)), (1, .int x1), (2, .int x2), (3, .int x3), (4, .int x4), (5, .int x5)]) [0, 1, 2, 3, 4, 5] rfl ?_
  exact t_X12_layAtMost_200 hKp X hr hlk hrec2 hrec23 h
set_option maxRecDepth 20000 in
theorem t_X12_layAtMost_176 {l : Launch} {p : Program} {e : Env} {s : State} {m : MethodId} {args : Array Value} {below : List Frame} {meth : Method} {c : Code} {K : ix_Cx} (hKp : ix_Kp K) {n : Nat} {z : ix_Z} (X : ix_X p s m args c K cX12_layAtMost RX12 9) (hr : meth.sig.returnType = (none : Option Jvm.ClassFile.FieldType)) (hlk : meth.locks = false) {rec2 : Int32 → ix_D2 → Option (ix_D2)} {rec23 : Int32 → ix_D2 → Option (ix_D2)} {a0 : Nat} {x1 : Int32} {x2 : Int32} {x3 : Int32} {x4 : Int32} {x5 : Int32} {x6 : Int32} {x8 : Int32} {d1 : ix_D2} (hrec2 : ∀ (x3 : Int32) (d : ix_D2), rec2 x3 d = some d1 → ix_G p l e (ix_rm 2 46 0 0) s m args below meth c (MQ below (ix_Post K none (ix_w z d1)) args s 0 0 (ix_A K)) K 9 0 0 2 [(0, .ref (K.2.2.1 + a0)), (1, .int x1), (2, .int x2), (3, .int x3)] [] (ix_w z d)) (hrec23 : ∀ (x5 : Int32) (d : ix_D2), rec23 x5 d = some d1 → ix_G p l e (ix_rm 2 46 0 0) s m args below meth c (MQ below (ix_Post K none (ix_w z d1)) args s 0 0 (ix_A K)) K 9 0 0 23 [(0, .ref (K.2.2.1 + a0)), (1, .int x1), (2, .int x2), (3, .int x3), (4, .int x4), (5, .int x5)] [] (ix_w z d)) {d : ix_D2} (h : f_X12_layAtMost_176 n z rec2 rec23 a0 x1 x2 x3 x4 x5 x6 x8 d = some d1) : ix_G p l e (ix_rm 2 46 0 0) s m args below meth c (MQ below (ix_Post K none (ix_w z d1)) args s 0 0 (ix_A K)) K 9 0 0 176 [(0, .ref (K.2.2.1 + a0)), (1, .int x1), (2, .int x2), (3, .int x3), (4, .int x4), (5, .int x5), (6, .int x6), (8, .int x8)] [] (ix_w z d) := by
  unfold f_X12_layAtMost_176 at h
  refine ix_iload (i := 5) (j := 5) X (ix_tb_at tb_X12_layAtMost 98 rfl) rfl (pc1 := 178) rfl ?_
  refine ix_iload_n (i := 3) (j := 3) X (ix_tb_at tb_X12_layAtMost 99 rfl) rfl rfl (pc1 := 179) rfl ?_
  refine ix_icmp_ne (tgt := 191) X (ix_tb_at tb_X12_layAtMost 100 rfl) (by decide) (pc1 := 182) rfl (fun q_70 => ?_) (fun q_70 => ?_)
  · have h := ix_iff q_70 h
    refine ix_sub (L1 := [(0, .ref (K.2.2.1 + a0)), (1, .int x1), (2, .int x2), (3, .int x3), (4, .int x4), (5, .int x5), (6, .int x6)]) [0, 1, 2, 3, 4, 5, 6] rfl ?_
    exact t_X12_layAtMost_191 hKp X hr hlk hrec2 hrec23 h
  · have h := ix_ift q_70 h
    refine ix_aload_n (i := 0) (j := 0) X (ix_tb_at tb_X12_layAtMost 101 rfl) rfl rfl (pc1 := 183) rfl ?_
    refine ix_iload (i := 8) (j := 7) X (ix_tb_at tb_X12_layAtMost 102 rfl) rfl (pc1 := 185) rfl ?_
    refine ix_iload (i := 6) (j := 6) X (ix_tb_at tb_X12_layAtMost 103 rfl) rfl (pc1 := 187) rfl ?_
    refine ix_ineg X (ix_tb_at tb_X12_layAtMost 104 rfl) (pc1 := 188) rfl ?_
    obtain ⟨k_81, h⟩ := ix_ck_some h
    obtain ⟨d_79, h_80, h⟩ := ix_bd1_ex h
    refine ix_callV (As := [.int x8, .int (-x6)]) (rest := []) (ci := 11) (T := TX12) (nf := 116) X mf_X12_layTwo mi_X12_layTwo ms_X12_layTwo rfl (Nat.le_of_ble_eq_true rfl) ml_RX12_302 ⟨Nat.le_of_ble_eq_true rfl, Nat.le_of_ble_eq_true rfl⟩ ⟨Nat.le_of_ble_eq_true rfl, Nat.le_of_ble_eq_true rfl⟩ rfl (Nat.le_of_ble_eq_true rfl) (ix_tb_at tb_X12_layAtMost 105 rfl) ⟨k_81.1, List.mem_singleton.mp k_81.2⟩ (c_X12_layTwo hKp h_80) rfl (pc1 := 191) rfl ?_
    refine ix_sub (L1 := [(0, .ref (K.2.2.1 + a0)), (1, .int x1), (2, .int x2), (3, .int x3), (4, .int x4), (5, .int x5), (6, .int x6)]) [0, 1, 2, 3, 4, 5, 6] rfl ?_
    exact t_X12_layAtMost_191 hKp X hr hlk hrec2 hrec23 h
set_option maxRecDepth 20000 in
theorem t_X12_layAtMost_153 {l : Launch} {p : Program} {e : Env} {s : State} {m : MethodId} {args : Array Value} {below : List Frame} {meth : Method} {c : Code} {K : ix_Cx} (hKp : ix_Kp K) {n : Nat} {z : ix_Z} (X : ix_X p s m args c K cX12_layAtMost RX12 9) (hr : meth.sig.returnType = (none : Option Jvm.ClassFile.FieldType)) (hlk : meth.locks = false) {rec2 : Int32 → ix_D2 → Option (ix_D2)} {rec23 : Int32 → ix_D2 → Option (ix_D2)} {a0 : Nat} {x1 : Int32} {x2 : Int32} {x3 : Int32} {x4 : Int32} {x5 : Int32} {x6 : Int32} {x7 : Int32} {x8 : Int32} {d1 : ix_D2} (hrec2 : ∀ (x3 : Int32) (d : ix_D2), rec2 x3 d = some d1 → ix_G p l e (ix_rm 2 46 0 0) s m args below meth c (MQ below (ix_Post K none (ix_w z d1)) args s 0 0 (ix_A K)) K 9 0 0 2 [(0, .ref (K.2.2.1 + a0)), (1, .int x1), (2, .int x2), (3, .int x3)] [] (ix_w z d)) (hrec23 : ∀ (x5 : Int32) (d : ix_D2), rec23 x5 d = some d1 → ix_G p l e (ix_rm 2 46 0 0) s m args below meth c (MQ below (ix_Post K none (ix_w z d1)) args s 0 0 (ix_A K)) K 9 0 0 23 [(0, .ref (K.2.2.1 + a0)), (1, .int x1), (2, .int x2), (3, .int x3), (4, .int x4), (5, .int x5)] [] (ix_w z d)) {d : ix_D2} (h : f_X12_layAtMost_153 n z rec2 rec23 a0 x1 x2 x3 x4 x5 x6 x7 x8 d = some d1) : ix_G p l e (ix_rm 2 46 0 0) s m args below meth c (MQ below (ix_Post K none (ix_w z d1)) args s 0 0 (ix_A K)) K 9 0 0 153 [(0, .ref (K.2.2.1 + a0)), (1, .int x1), (2, .int x2), (3, .int x3), (4, .int x4), (5, .int x5), (6, .int x6), (7, .int x7), (8, .int x8)] [] (ix_w z d) := by
  unfold f_X12_layAtMost_153 at h
  refine ix_iload (i := 5) (j := 5) X (ix_tb_at tb_X12_layAtMost 86 rfl) rfl (pc1 := 155) rfl ?_
  refine ix_iconst (v := 1) X (ix_tb_at tb_X12_layAtMost 87 rfl) (by decide) (pc1 := 156) rfl ?_
  refine ix_icmp_le (tgt := 176) X (ix_tb_at tb_X12_layAtMost 88 rfl) (by decide) (pc1 := 159) rfl (fun q_69 => ?_) (fun q_69 => ?_)
  · have h := ix_ift q_69 h
    refine ix_sub (L1 := [(0, .ref (K.2.2.1 + a0)), (1, .int x1), (2, .int x2), (3, .int x3), (4, .int x4), (5, .int x5), (6, .int x6), (8, .int x8)]) [0, 1, 2, 3, 4, 5, 6, 8] rfl ?_
    exact t_X12_layAtMost_176 hKp X hr hlk hrec2 hrec23 h
  · have h := ix_iff q_69 h
    refine ix_iload (i := 5) (j := 5) X (ix_tb_at tb_X12_layAtMost 89 rfl) rfl (pc1 := 161) rfl ?_
    refine ix_iload_n (i := 3) (j := 3) X (ix_tb_at tb_X12_layAtMost 90 rfl) rfl rfl (pc1 := 162) rfl ?_
    refine ix_icmp_ge (tgt := 176) X (ix_tb_at tb_X12_layAtMost 91 rfl) (by decide) (pc1 := 165) rfl (fun q_82 => ?_) (fun q_82 => ?_)
    · have h := ix_ift q_82 h
      refine ix_sub (L1 := [(0, .ref (K.2.2.1 + a0)), (1, .int x1), (2, .int x2), (3, .int x3), (4, .int x4), (5, .int x5), (6, .int x6), (8, .int x8)]) [0, 1, 2, 3, 4, 5, 6, 8] rfl ?_
      exact t_X12_layAtMost_176 hKp X hr hlk hrec2 hrec23 h
    · have h := ix_iff q_82 h
      refine ix_aload_n (i := 0) (j := 0) X (ix_tb_at tb_X12_layAtMost 92 rfl) rfl rfl (pc1 := 166) rfl ?_
      refine ix_iload (i := 7) (j := 7) X (ix_tb_at tb_X12_layAtMost 93 rfl) rfl (pc1 := 168) rfl ?_
      refine ix_iload (i := 8) (j := 8) X (ix_tb_at tb_X12_layAtMost 94 rfl) rfl (pc1 := 170) rfl ?_
      refine ix_iload (i := 6) (j := 6) X (ix_tb_at tb_X12_layAtMost 95 rfl) rfl (pc1 := 172) rfl ?_
      refine ix_ineg X (ix_tb_at tb_X12_layAtMost 96 rfl) (pc1 := 173) rfl ?_
      obtain ⟨k_85, h⟩ := ix_ck_some h
      obtain ⟨d_83, h_84, h⟩ := ix_bd1_ex h
      refine ix_callV (As := [.int x7, .int x8, .int (-x6)]) (rest := []) (ci := 11) (T := TX12) (nf := 116) X mf_X12_layThree mi_X12_layThree ms_X12_layThree rfl (Nat.le_of_ble_eq_true rfl) ml_RX12_306 ⟨Nat.le_of_ble_eq_true rfl, Nat.le_of_ble_eq_true rfl⟩ ⟨Nat.le_of_ble_eq_true rfl, Nat.le_of_ble_eq_true rfl⟩ rfl (Nat.le_of_ble_eq_true rfl) (ix_tb_at tb_X12_layAtMost 97 rfl) ⟨k_85.1, List.mem_singleton.mp k_85.2⟩ (c_X12_layThree hKp h_84) rfl (pc1 := 176) rfl ?_
      refine ix_sub (L1 := [(0, .ref (K.2.2.1 + a0)), (1, .int x1), (2, .int x2), (3, .int x3), (4, .int x4), (5, .int x5), (6, .int x6), (8, .int x8)]) [0, 1, 2, 3, 4, 5, 6, 8] rfl ?_
      exact t_X12_layAtMost_176 hKp X hr hlk hrec2 hrec23 h
set_option maxRecDepth 20000 in
theorem t_X12_layAtMost_124 {l : Launch} {p : Program} {e : Env} {s : State} {m : MethodId} {args : Array Value} {below : List Frame} {meth : Method} {c : Code} {K : ix_Cx} (hKp : ix_Kp K) {n : Nat} {z : ix_Z} (X : ix_X p s m args c K cX12_layAtMost RX12 9) (hr : meth.sig.returnType = (none : Option Jvm.ClassFile.FieldType)) (hlk : meth.locks = false) {rec2 : Int32 → ix_D2 → Option (ix_D2)} {rec23 : Int32 → ix_D2 → Option (ix_D2)} {a0 : Nat} {x1 : Int32} {x2 : Int32} {x3 : Int32} {x4 : Int32} {x5 : Int32} {x6 : Int32} {x7 : Int32} {x8 : Int32} {d1 : ix_D2} (hrec2 : ∀ (x3 : Int32) (d : ix_D2), rec2 x3 d = some d1 → ix_G p l e (ix_rm 2 46 0 0) s m args below meth c (MQ below (ix_Post K none (ix_w z d1)) args s 0 0 (ix_A K)) K 9 0 0 2 [(0, .ref (K.2.2.1 + a0)), (1, .int x1), (2, .int x2), (3, .int x3)] [] (ix_w z d)) (hrec23 : ∀ (x5 : Int32) (d : ix_D2), rec23 x5 d = some d1 → ix_G p l e (ix_rm 2 46 0 0) s m args below meth c (MQ below (ix_Post K none (ix_w z d1)) args s 0 0 (ix_A K)) K 9 0 0 23 [(0, .ref (K.2.2.1 + a0)), (1, .int x1), (2, .int x2), (3, .int x3), (4, .int x4), (5, .int x5)] [] (ix_w z d)) {d : ix_D2} (h : f_X12_layAtMost_124 n z rec2 rec23 a0 x1 x2 x3 x4 x5 x6 x7 x8 d = some d1) : ix_G p l e (ix_rm 2 46 0 0) s m args below meth c (MQ below (ix_Post K none (ix_w z d1)) args s 0 0 (ix_A K)) K 9 0 0 124 [(0, .ref (K.2.2.1 + a0)), (1, .int x1), (2, .int x2), (3, .int x3), (4, .int x4), (5, .int x5), (6, .int x6), (7, .int x7), (8, .int x8)] [] (ix_w z d) := by
  unfold f_X12_layAtMost_124 at h
  refine ix_iload (i := 5) (j := 5) X (ix_tb_at tb_X12_layAtMost 71 rfl) rfl (pc1 := 126) rfl ?_
  refine ix_iload_n (i := 3) (j := 3) X (ix_tb_at tb_X12_layAtMost 72 rfl) rfl rfl (pc1 := 127) rfl ?_
  refine ix_icmp_ne (tgt := 142) X (ix_tb_at tb_X12_layAtMost 73 rfl) (by decide) (pc1 := 130) rfl (fun q_65 => ?_) (fun q_65 => ?_)
  · have h := ix_iff q_65 h
    refine ix_aload_n (i := 0) (j := 0) X (ix_tb_at tb_X12_layAtMost 80 rfl) rfl rfl (pc1 := 143) rfl ?_
    refine ix_iload (i := 7) (j := 7) X (ix_tb_at tb_X12_layAtMost 81 rfl) rfl (pc1 := 145) rfl ?_
    refine ix_iload (i := 4) (j := 4) X (ix_tb_at tb_X12_layAtMost 82 rfl) rfl (pc1 := 147) rfl ?_
    refine ix_iload (i := 6) (j := 6) X (ix_tb_at tb_X12_layAtMost 83 rfl) rfl (pc1 := 149) rfl ?_
    refine ix_ineg X (ix_tb_at tb_X12_layAtMost 84 rfl) (pc1 := 150) rfl ?_
    obtain ⟨k_68, h⟩ := ix_ck_some h
    obtain ⟨d_66, h_67, h⟩ := ix_bd1_ex h
    refine ix_callV (As := [.int x7, .int x4, .int (-x6)]) (rest := []) (ci := 11) (T := TX12) (nf := 116) X mf_X12_layThree mi_X12_layThree ms_X12_layThree rfl (Nat.le_of_ble_eq_true rfl) ml_RX12_306 ⟨Nat.le_of_ble_eq_true rfl, Nat.le_of_ble_eq_true rfl⟩ ⟨Nat.le_of_ble_eq_true rfl, Nat.le_of_ble_eq_true rfl⟩ rfl (Nat.le_of_ble_eq_true rfl) (ix_tb_at tb_X12_layAtMost 85 rfl) ⟨k_68.1, List.mem_singleton.mp k_68.2⟩ (c_X12_layThree hKp h_67) rfl (pc1 := 153) rfl ?_
    refine ix_sub (L1 := [(0, .ref (K.2.2.1 + a0)), (1, .int x1), (2, .int x2), (3, .int x3), (4, .int x4), (5, .int x5), (6, .int x6), (7, .int x7), (8, .int x8)]) [0, 1, 2, 3, 4, 5, 6, 7, 8] rfl ?_
    exact t_X12_layAtMost_153 hKp X hr hlk hrec2 hrec23 h
  · have h := ix_ift q_65 h
    refine ix_aload_n (i := 0) (j := 0) X (ix_tb_at tb_X12_layAtMost 74 rfl) rfl rfl (pc1 := 131) rfl ?_
    refine ix_iload (i := 4) (j := 4) X (ix_tb_at tb_X12_layAtMost 75 rfl) rfl (pc1 := 133) rfl ?_
    refine ix_iload (i := 6) (j := 6) X (ix_tb_at tb_X12_layAtMost 76 rfl) rfl (pc1 := 135) rfl ?_
    refine ix_ineg X (ix_tb_at tb_X12_layAtMost 77 rfl) (pc1 := 136) rfl ?_
    obtain ⟨k_88, h⟩ := ix_ck_some h
    obtain ⟨d_86, h_87, h⟩ := ix_bd1_ex h
    refine ix_callV (As := [.int x4, .int (-x6)]) (rest := []) (ci := 11) (T := TX12) (nf := 116) X mf_X12_layTwo mi_X12_layTwo ms_X12_layTwo rfl (Nat.le_of_ble_eq_true rfl) ml_RX12_302 ⟨Nat.le_of_ble_eq_true rfl, Nat.le_of_ble_eq_true rfl⟩ ⟨Nat.le_of_ble_eq_true rfl, Nat.le_of_ble_eq_true rfl⟩ rfl (Nat.le_of_ble_eq_true rfl) (ix_tb_at tb_X12_layAtMost 78 rfl) ⟨k_88.1, List.mem_singleton.mp k_88.2⟩ (c_X12_layTwo hKp h_87) rfl (pc1 := 139) rfl ?_
    refine ix_goto (tgt := 153) X (ix_tb_at tb_X12_layAtMost 79 rfl) (by decide) ?_
    refine ix_sub (L1 := [(0, .ref (K.2.2.1 + a0)), (1, .int x1), (2, .int x2), (3, .int x3), (4, .int x4), (5, .int x5), (6, .int x6), (7, .int x7), (8, .int x8)]) [0, 1, 2, 3, 4, 5, 6, 7, 8] rfl ?_
    exact t_X12_layAtMost_153 hKp X hr hlk hrec2 hrec23 h
set_option maxRecDepth 20000 in
theorem t_X12_layAtMost_94 {l : Launch} {p : Program} {e : Env} {s : State} {m : MethodId} {args : Array Value} {below : List Frame} {meth : Method} {c : Code} {K : ix_Cx} (hKp : ix_Kp K) {n : Nat} {z : ix_Z} (X : ix_X p s m args c K cX12_layAtMost RX12 9) (hr : meth.sig.returnType = (none : Option Jvm.ClassFile.FieldType)) (hlk : meth.locks = false) {rec2 : Int32 → ix_D2 → Option (ix_D2)} {rec23 : Int32 → ix_D2 → Option (ix_D2)} {a0 : Nat} {x1 : Int32} {x2 : Int32} {x3 : Int32} {x4 : Int32} {x5 : Int32} {x6 : Int32} {x7 : Int32} {x8 : Int32} {d1 : ix_D2} (hrec2 : ∀ (x3 : Int32) (d : ix_D2), rec2 x3 d = some d1 → ix_G p l e (ix_rm 2 46 0 0) s m args below meth c (MQ below (ix_Post K none (ix_w z d1)) args s 0 0 (ix_A K)) K 9 0 0 2 [(0, .ref (K.2.2.1 + a0)), (1, .int x1), (2, .int x2), (3, .int x3)] [] (ix_w z d)) (hrec23 : ∀ (x5 : Int32) (d : ix_D2), rec23 x5 d = some d1 → ix_G p l e (ix_rm 2 46 0 0) s m args below meth c (MQ below (ix_Post K none (ix_w z d1)) args s 0 0 (ix_A K)) K 9 0 0 23 [(0, .ref (K.2.2.1 + a0)), (1, .int x1), (2, .int x2), (3, .int x3), (4, .int x4), (5, .int x5)] [] (ix_w z d)) {d : ix_D2} (h : f_X12_layAtMost_94 n z rec2 rec23 a0 x1 x2 x3 x4 x5 x6 x7 x8 d = some d1) : ix_G p l e (ix_rm 2 46 0 0) s m args below meth c (MQ below (ix_Post K none (ix_w z d1)) args s 0 0 (ix_A K)) K 9 0 0 94 [(0, .ref (K.2.2.1 + a0)), (1, .int x1), (2, .int x2), (3, .int x3), (4, .int x4), (5, .int x5), (6, .int x6), (7, .int x7), (8, .int x8)] [] (ix_w z d) := by
  unfold f_X12_layAtMost_94 at h
  refine ix_iload (i := 5) (j := 5) X (ix_tb_at tb_X12_layAtMost 55 rfl) rfl (pc1 := 96) rfl ?_
  refine ix_iconst (v := 1) X (ix_tb_at tb_X12_layAtMost 56 rfl) (by decide) (pc1 := 97) rfl ?_
  refine ix_icmp_ne (tgt := 112) X (ix_tb_at tb_X12_layAtMost 57 rfl) (by decide) (pc1 := 100) rfl (fun q_61 => ?_) (fun q_61 => ?_)
  · have h := ix_iff q_61 h
    refine ix_aload_n (i := 0) (j := 0) X (ix_tb_at tb_X12_layAtMost 64 rfl) rfl rfl (pc1 := 113) rfl ?_
    refine ix_iload (i := 4) (j := 4) X (ix_tb_at tb_X12_layAtMost 65 rfl) rfl (pc1 := 115) rfl ?_
    refine ix_ineg X (ix_tb_at tb_X12_layAtMost 66 rfl) (pc1 := 116) rfl ?_
    refine ix_iload (i := 8) (j := 8) X (ix_tb_at tb_X12_layAtMost 67 rfl) rfl (pc1 := 118) rfl ?_
    refine ix_ineg X (ix_tb_at tb_X12_layAtMost 68 rfl) (pc1 := 119) rfl ?_
    refine ix_iload (i := 6) (j := 6) X (ix_tb_at tb_X12_layAtMost 69 rfl) rfl (pc1 := 121) rfl ?_
    obtain ⟨k_64, h⟩ := ix_ck_some h
    obtain ⟨d_62, h_63, h⟩ := ix_bd1_ex h
    refine ix_callV (As := [.int (-x4), .int (-x8), .int x6]) (rest := []) (ci := 11) (T := TX12) (nf := 116) X mf_X12_layThree mi_X12_layThree ms_X12_layThree rfl (Nat.le_of_ble_eq_true rfl) ml_RX12_306 ⟨Nat.le_of_ble_eq_true rfl, Nat.le_of_ble_eq_true rfl⟩ ⟨Nat.le_of_ble_eq_true rfl, Nat.le_of_ble_eq_true rfl⟩ rfl (Nat.le_of_ble_eq_true rfl) (ix_tb_at tb_X12_layAtMost 70 rfl) ⟨k_64.1, List.mem_singleton.mp k_64.2⟩ (c_X12_layThree hKp h_63) rfl (pc1 := 124) rfl ?_
    refine ix_sub (L1 := [(0, .ref (K.2.2.1 + a0)), (1, .int x1), (2, .int x2), (3, .int x3), (4, .int x4), (5, .int x5), (6, .int x6), (7, .int x7), (8, .int x8)]) [0, 1, 2, 3, 4, 5, 6, 7, 8] rfl ?_
    exact t_X12_layAtMost_124 hKp X hr hlk hrec2 hrec23 h
  · have h := ix_ift q_61 h
    refine ix_aload_n (i := 0) (j := 0) X (ix_tb_at tb_X12_layAtMost 58 rfl) rfl rfl (pc1 := 101) rfl ?_
    refine ix_iload (i := 4) (j := 4) X (ix_tb_at tb_X12_layAtMost 59 rfl) rfl (pc1 := 103) rfl ?_
    refine ix_ineg X (ix_tb_at tb_X12_layAtMost 60 rfl) (pc1 := 104) rfl ?_
    refine ix_iload (i := 6) (j := 6) X (ix_tb_at tb_X12_layAtMost 61 rfl) rfl (pc1 := 106) rfl ?_
    obtain ⟨k_91, h⟩ := ix_ck_some h
    obtain ⟨d_89, h_90, h⟩ := ix_bd1_ex h
    refine ix_callV (As := [.int (-x4), .int x6]) (rest := []) (ci := 11) (T := TX12) (nf := 116) X mf_X12_layTwo mi_X12_layTwo ms_X12_layTwo rfl (Nat.le_of_ble_eq_true rfl) ml_RX12_302 ⟨Nat.le_of_ble_eq_true rfl, Nat.le_of_ble_eq_true rfl⟩ ⟨Nat.le_of_ble_eq_true rfl, Nat.le_of_ble_eq_true rfl⟩ rfl (Nat.le_of_ble_eq_true rfl) (ix_tb_at tb_X12_layAtMost 62 rfl) ⟨k_91.1, List.mem_singleton.mp k_91.2⟩ (c_X12_layTwo hKp h_90) rfl (pc1 := 109) rfl ?_
    refine ix_goto (tgt := 124) X (ix_tb_at tb_X12_layAtMost 63 rfl) (by decide) ?_
    refine ix_sub (L1 := [(0, .ref (K.2.2.1 + a0)), (1, .int x1), (2, .int x2), (3, .int x3), (4, .int x4), (5, .int x5), (6, .int x6), (7, .int x7), (8, .int x8)]) [0, 1, 2, 3, 4, 5, 6, 7, 8] rfl ?_
    exact t_X12_layAtMost_124 hKp X hr hlk hrec2 hrec23 h
set_option maxRecDepth 20000 in
theorem tb_X12_layAtMost_23 {l : Launch} {p : Program} {e : Env} {s : State} {m : MethodId} {args : Array Value} {below : List Frame} {meth : Method} {c : Code} {K : ix_Cx} (hKp : ix_Kp K) {n : Nat} {z : ix_Z} (X : ix_X p s m args c K cX12_layAtMost RX12 9) (hr : meth.sig.returnType = (none : Option Jvm.ClassFile.FieldType)) (hlk : meth.locks = false) {rec2 : Int32 → ix_D2 → Option (ix_D2)} {a0 : Nat} {x1 : Int32} {x2 : Int32} {x3 : Int32} {x4 : Int32} {rec23 : Int32 → ix_D2 → Option (ix_D2)} {d1 : ix_D2} (hrec2 : ∀ (x3 : Int32) (d : ix_D2), rec2 x3 d = some d1 → ix_G p l e (ix_rm 2 46 0 0) s m args below meth c (MQ below (ix_Post K none (ix_w z d1)) args s 0 0 (ix_A K)) K 9 0 0 2 [(0, .ref (K.2.2.1 + a0)), (1, .int x1), (2, .int x2), (3, .int x3)] [] (ix_w z d)) (hrec23 : ∀ (x5 : Int32) (d : ix_D2), rec23 x5 d = some d1 → ix_G p l e (ix_rm 2 46 0 0) s m args below meth c (MQ below (ix_Post K none (ix_w z d1)) args s 0 0 (ix_A K)) K 9 0 0 23 [(0, .ref (K.2.2.1 + a0)), (1, .int x1), (2, .int x2), (3, .int x3), (4, .int x4), (5, .int x5)] [] (ix_w z d)) {x5 : Int32} {d : ix_D2} (h : b_X12_layAtMost_23 n z rec2 a0 x1 x2 x3 x4 rec23 x5 d = some d1) : ix_G p l e (ix_rm 2 46 0 0) s m args below meth c (MQ below (ix_Post K none (ix_w z d1)) args s 0 0 (ix_A K)) K 9 0 0 23 [(0, .ref (K.2.2.1 + a0)), (1, .int x1), (2, .int x2), (3, .int x3), (4, .int x4), (5, .int x5)] [] (ix_w z d) := by
  unfold b_X12_layAtMost_23 at h
  refine ix_iload (i := 5) (j := 5) X (ix_tb_at tb_X12_layAtMost 15 rfl) rfl (pc1 := 25) rfl ?_
  refine ix_iload_n (i := 3) (j := 3) X (ix_tb_at tb_X12_layAtMost 16 rfl) rfl rfl (pc1 := 26) rfl ?_
  refine ix_icmp_gt (tgt := 206) X (ix_tb_at tb_X12_layAtMost 17 rfl) (by decide) (pc1 := 29) rfl (fun q_31 => ?_) (fun q_31 => ?_)
  · have h := ix_ift q_31 h
    refine ix_sub (L1 := [(0, .ref (K.2.2.1 + a0)), (1, .int x1), (2, .int x2), (3, .int x3)]) [0, 1, 2, 3] rfl ?_
    exact t_X12_layAtMost_206 hKp X hr hlk hrec2 h
  · have h := ix_iff q_31 h
    refine ix_iload (i := 5) (j := 5) X (ix_tb_at tb_X12_layAtMost 18 rfl) rfl (pc1 := 31) rfl ?_
    refine ix_iload_n (i := 1) (j := 1) X (ix_tb_at tb_X12_layAtMost 19 rfl) rfl rfl (pc1 := 32) rfl ?_
    refine ix_iconst (v := 1) X (ix_tb_at tb_X12_layAtMost 20 rfl) (by decide) (pc1 := 33) rfl ?_
    refine ix_iadd X (ix_tb_at tb_X12_layAtMost 21 rfl) (pc1 := 34) rfl ?_
    refine ix_icmp_gt (tgt := 206) X (ix_tb_at tb_X12_layAtMost 22 rfl) (by decide) (pc1 := 37) rfl (fun q_46 => ?_) (fun q_46 => ?_)
    · have h := ix_ift q_46 h
      refine ix_sub (L1 := [(0, .ref (K.2.2.1 + a0)), (1, .int x1), (2, .int x2), (3, .int x3)]) [0, 1, 2, 3] rfl ?_
      exact t_X12_layAtMost_206 hKp X hr hlk hrec2 h
    · have h := ix_iff q_46 h
      refine ix_iload_n (i := 3) (j := 3) X (ix_tb_at tb_X12_layAtMost 23 rfl) rfl rfl (pc1 := 38) rfl ?_
      refine ix_iconst (v := 1) X (ix_tb_at tb_X12_layAtMost 24 rfl) (by decide) (pc1 := 39) rfl ?_
      refine ix_icmp_ne (tgt := 53) X (ix_tb_at tb_X12_layAtMost 25 rfl) (by decide) (pc1 := 42) rfl (fun q_47 => ?_) (fun q_47 => ?_)
      · have h := ix_iff q_47 h
        refine ix_aload_n (i := 0) (j := 0) X (ix_tb_at tb_X12_layAtMost 32 rfl) rfl rfl (pc1 := 54) rfl ?_
        obtain ⟨k_50, h⟩ := ix_ck_some h
        obtain ⟨r_51, d_48, h_49, h⟩ := ix_bd2_ex h
        refine ix_callV (As := []) (rest := []) (ci := 11) (T := TX12) (nf := 116) X mf_X12_newName mi_X12_newName ms_X12_newName rfl (Nat.le_of_ble_eq_true rfl) ml_RX12_298 ⟨Nat.le_of_ble_eq_true rfl, Nat.le_of_ble_eq_true rfl⟩ ⟨Nat.le_of_ble_eq_true rfl, Nat.le_of_ble_eq_true rfl⟩ rfl (Nat.le_of_ble_eq_true rfl) (ix_tb_at tb_X12_layAtMost 33 rfl) ⟨k_50.1, List.mem_singleton.mp k_50.2⟩ (c_X12_newName hKp h_49) rfl (pc1 := 57) rfl ?_
        refine ix_istore (i := 6) (L1 := [(6, .int r_51), (0, .ref (K.2.2.1 + a0)), (1, .int x1), (2, .int x2), (3, .int x3), (4, .int x4), (5, .int x5)]) X (ix_tb_at tb_X12_layAtMost 34 rfl) (Nat.le_of_ble_eq_true rfl) rfl (pc1 := 59) rfl ?_
        refine ix_aload_n (i := 0) (j := 1) X (ix_tb_at tb_X12_layAtMost 35 rfl) rfl rfl (pc1 := 60) rfl ?_
        obtain ⟨b_52, q_53, h⟩ := ix_bd1_ex h
        refine iz_getR X fl_RX12_92 k_50 q_53 (ix_tb_at tb_X12_layAtMost 36 rfl) (pc1 := 63) rfl ?_
        refine ix_iload (i := 5) (j := 6) X (ix_tb_at tb_X12_layAtMost 37 rfl) rfl (pc1 := 65) rfl ?_
        obtain ⟨k_54, h⟩ := ix_ck_some h
        refine iz_iald X k_54 (ix_tb_at tb_X12_layAtMost 38 rfl) (pc1 := 66) rfl ?_
        obtain ⟨x7_55, e_56, h⟩ := ix_lt_ex h
        refine ix_nmi e_56 ?_
        refine ix_istore (i := 7) (L1 := [(7, .int x7_55), (6, .int r_51), (0, .ref (K.2.2.1 + a0)), (1, .int x1), (2, .int x2), (3, .int x3), (4, .int x4), (5, .int x5)]) X (ix_tb_at tb_X12_layAtMost 39 rfl) (Nat.le_of_ble_eq_true rfl) rfl (pc1 := 68) rfl ?_
        refine ix_aload_n (i := 0) (j := 2) X (ix_tb_at tb_X12_layAtMost 40 rfl) rfl rfl (pc1 := 69) rfl ?_
        refine iz_getR X fl_RX12_92 k_50 q_53 (ix_tb_at tb_X12_layAtMost 41 rfl) (pc1 := 72) rfl ?_
        refine ix_iload (i := 5) (j := 7) X (ix_tb_at tb_X12_layAtMost 42 rfl) rfl (pc1 := 74) rfl ?_
        refine ix_iconst (v := 1) X (ix_tb_at tb_X12_layAtMost 43 rfl) (by decide) (pc1 := 75) rfl ?_
        refine ix_isub X (ix_tb_at tb_X12_layAtMost 44 rfl) (pc1 := 76) rfl ?_
        obtain ⟨k_57, h⟩ := ix_ck_some h
        refine iz_iald X k_57 (ix_tb_at tb_X12_layAtMost 45 rfl) (pc1 := 77) rfl ?_
        obtain ⟨x8_58, e_59, h⟩ := ix_lt_ex h
        refine ix_nmi e_59 ?_
        refine ix_istore (i := 8) (L1 := [(8, .int x8_58), (7, .int x7_55), (6, .int r_51), (0, .ref (K.2.2.1 + a0)), (1, .int x1), (2, .int x2), (3, .int x3), (4, .int x4), (5, .int x5)]) X (ix_tb_at tb_X12_layAtMost 46 rfl) (Nat.le_of_ble_eq_true rfl) rfl (pc1 := 79) rfl ?_
        refine ix_iload (i := 5) (j := 8) X (ix_tb_at tb_X12_layAtMost 47 rfl) rfl (pc1 := 81) rfl ?_
        refine ix_iload_n (i := 3) (j := 6) X (ix_tb_at tb_X12_layAtMost 48 rfl) rfl rfl (pc1 := 82) rfl ?_
        refine ix_icmp_ge (tgt := 94) X (ix_tb_at tb_X12_layAtMost 49 rfl) (by decide) (pc1 := 85) rfl (fun q_60 => ?_) (fun q_60 => ?_)
        · have h := ix_ift q_60 h
          refine ix_sub (L1 := [(0, .ref (K.2.2.1 + a0)), (1, .int x1), (2, .int x2), (3, .int x3), (4, .int x4), (5, .int x5), (6, .int r_51), (7, .int x7_55), (8, .int x8_58)]) [3, 4, 5, 6, 7, 8, 2, 1, 0] rfl ?_
          exact t_X12_layAtMost_94 hKp X hr hlk hrec2 hrec23 h
        · have h := ix_iff q_60 h
          refine ix_aload_n (i := 0) (j := 3) X (ix_tb_at tb_X12_layAtMost 50 rfl) rfl rfl (pc1 := 86) rfl ?_
          refine ix_iload (i := 7) (j := 1) X (ix_tb_at tb_X12_layAtMost 51 rfl) rfl (pc1 := 88) rfl ?_
          refine ix_ineg X (ix_tb_at tb_X12_layAtMost 52 rfl) (pc1 := 89) rfl ?_
          refine ix_iload (i := 6) (j := 2) X (ix_tb_at tb_X12_layAtMost 53 rfl) rfl (pc1 := 91) rfl ?_
          obtain ⟨d_92, h_93, h⟩ := ix_bd1_ex h
          refine ix_callV (As := [.int (-x7_55), .int r_51]) (rest := []) (ci := 11) (T := TX12) (nf := 116) X mf_X12_layTwo mi_X12_layTwo ms_X12_layTwo rfl (Nat.le_of_ble_eq_true rfl) ml_RX12_302 ⟨Nat.le_of_ble_eq_true rfl, Nat.le_of_ble_eq_true rfl⟩ ⟨Nat.le_of_ble_eq_true rfl, Nat.le_of_ble_eq_true rfl⟩ rfl (Nat.le_of_ble_eq_true rfl) (ix_tb_at tb_X12_layAtMost 54 rfl) ⟨k_50.1, List.mem_singleton.mp k_50.2⟩ (c_X12_layTwo hKp h_93) rfl (pc1 := 94) rfl ?_
          refine ix_sub (L1 := [(0, .ref (K.2.2.1 + a0)), (1, .int x1), (2, .int x2), (3, .int x3), (4, .int x4), (5, .int x5), (6, .int r_51), (7, .int x7_55), (8, .int x8_58)]) [3, 4, 5, 6, 7, 8, 2, 1, 0] rfl ?_
          exact t_X12_layAtMost_94 hKp X hr hlk hrec2 hrec23 h
      · have h := ix_ift q_47 h
        refine ix_aload_n (i := 0) (j := 0) X (ix_tb_at tb_X12_layAtMost 26 rfl) rfl rfl (pc1 := 43) rfl ?_
        obtain ⟨k_94, h⟩ := ix_ck_some h
        obtain ⟨b_95, q_96, h⟩ := ix_bd1_ex h
        refine iz_getR X fl_RX12_89 k_94 q_96 (ix_tb_at tb_X12_layAtMost 27 rfl) (pc1 := 46) rfl ?_
        refine ix_iconst (v := 1) X (ix_tb_at tb_X12_layAtMost 28 rfl) (by decide) (pc1 := 47) rfl ?_
        refine ix_iload (i := 4) (j := 4) X (ix_tb_at tb_X12_layAtMost 29 rfl) rfl (pc1 := 49) rfl ?_
        obtain ⟨k_97, h⟩ := ix_ck_some h
        obtain ⟨d_98, e_99, h⟩ := ix_lt_ex h
        refine iz_iast X k_97 (ix_tb_at tb_X12_layAtMost 30 rfl) e_99 (pc1 := 50) rfl ?_
        refine ix_goto (tgt := 200) X (ix_tb_at tb_X12_layAtMost 31 rfl) (by decide) ?_
        refine ix_sub (L1 := [(0, .ref (K.2.2.1 + a0)), (1, .int x1), (2, .int x2), (3, .int x3), (4, .int x4), (5, .int x5)]) [0, 1, 2, 3, 4, 5] rfl ?_
        exact t_X12_layAtMost_200 hKp X hr hlk hrec2 hrec23 h
theorem t_X12_layAtMost_23 {l : Launch} {p : Program} {e : Env} {s : State} {m : MethodId} {args : Array Value} {below : List Frame} {meth : Method} {c : Code} {K : ix_Cx} (hKp : ix_Kp K) {n : Nat} {z : ix_Z} (X : ix_X p s m args c K cX12_layAtMost RX12 9) (hr : meth.sig.returnType = (none : Option Jvm.ClassFile.FieldType)) (hlk : meth.locks = false) {rec2 : Int32 → ix_D2 → Option (ix_D2)} {a0 : Nat} {x1 : Int32} {x2 : Int32} {x3 : Int32} {x4 : Int32} {d1 : ix_D2} (hrec2 : ∀ (x3 : Int32) (d : ix_D2), rec2 x3 d = some d1 → ix_G p l e (ix_rm 2 46 0 0) s m args below meth c (MQ below (ix_Post K none (ix_w z d1)) args s 0 0 (ix_A K)) K 9 0 0 2 [(0, .ref (K.2.2.1 + a0)), (1, .int x1), (2, .int x2), (3, .int x3)] [] (ix_w z d)) {x5 : Int32} {d : ix_D2} (h : f_X12_layAtMost_23 n z rec2 a0 x1 x2 x3 x4 x5 d = some d1) : ix_G p l e (ix_rm 2 46 0 0) s m args below meth c (MQ below (ix_Post K none (ix_w z d1)) args s 0 0 (ix_A K)) K 9 0 0 23 [(0, .ref (K.2.2.1 + a0)), (1, .int x1), (2, .int x2), (3, .int x3), (4, .int x4), (5, .int x5)] [] (ix_w z d) := by
  have key : ∀ (f : Nat) (x5 : Int32) (d : ix_D2), ix_fix (b_X12_layAtMost_23 n z rec2 a0 x1 x2 x3 x4) (fun _ _ => none) f x5 d = some d1 → ix_G p l e (ix_rm 2 46 0 0) s m args below meth c (MQ below (ix_Post K none (ix_w z d1)) args s 0 0 (ix_A K)) K 9 0 0 23 [(0, .ref (K.2.2.1 + a0)), (1, .int x1), (2, .int x2), (3, .int x3), (4, .int x4), (5, .int x5)] [] (ix_w z d) := by
    intro f
    induction f with
    | zero =>
      intro x5 d h
      have h : (none : Option (ix_D2)) = some d1 := h
      cases h
    | succ f ih =>
      intro x5 d h
      exact tb_X12_layAtMost_23 hKp X hr hlk (rec23 := ix_fix (b_X12_layAtMost_23 n z rec2 a0 x1 x2 x3 x4) (fun _ _ => none) f) hrec2 ih h
  exact key n x5 d h
set_option maxRecDepth 20000 in
theorem tb_X12_layAtMost_2 {l : Launch} {p : Program} {e : Env} {s : State} {m : MethodId} {args : Array Value} {below : List Frame} {meth : Method} {c : Code} {K : ix_Cx} (hKp : ix_Kp K) {n : Nat} {z : ix_Z} (X : ix_X p s m args c K cX12_layAtMost RX12 9) (hr : meth.sig.returnType = (none : Option Jvm.ClassFile.FieldType)) (hlk : meth.locks = false)  {a0 : Nat} {x1 : Int32} {x2 : Int32} {rec2 : Int32 → ix_D2 → Option (ix_D2)} {d1 : ix_D2} (hrec2 : ∀ (x3 : Int32) (d : ix_D2), rec2 x3 d = some d1 → ix_G p l e (ix_rm 2 46 0 0) s m args below meth c (MQ below (ix_Post K none (ix_w z d1)) args s 0 0 (ix_A K)) K 9 0 0 2 [(0, .ref (K.2.2.1 + a0)), (1, .int x1), (2, .int x2), (3, .int x3)] [] (ix_w z d)) {x3 : Int32} {d : ix_D2} (h : b_X12_layAtMost_2 n z  a0 x1 x2 rec2 x3 d = some d1) : ix_G p l e (ix_rm 2 46 0 0) s m args below meth c (MQ below (ix_Post K none (ix_w z d1)) args s 0 0 (ix_A K)) K 9 0 0 2 [(0, .ref (K.2.2.1 + a0)), (1, .int x1), (2, .int x2), (3, .int x3)] [] (ix_w z d) := by
  unfold b_X12_layAtMost_2 at h
  refine ix_iload_n (i := 3) (j := 3) X (ix_tb_at tb_X12_layAtMost 2 rfl) rfl rfl (pc1 := 3) rfl ?_
  refine ix_aload_n (i := 0) (j := 0) X (ix_tb_at tb_X12_layAtMost 3 rfl) rfl rfl (pc1 := 4) rfl ?_
  obtain ⟨k_1, h⟩ := ix_ck_some h
  refine iz_getI X fl_RX12_292 k_1 (ix_tb_at tb_X12_layAtMost 4 rfl) (pc1 := 7) rfl ?_
  refine ix_icmp_gt (tgt := 242) X (ix_tb_at tb_X12_layAtMost 5 rfl) (by decide) (pc1 := 10) rfl (fun q_2 => ?_) (fun q_2 => ?_)
  · have h := ix_ift q_2 h
    refine ix_aload_n (i := 0) (j := 0) X (ix_tb_at tb_X12_layAtMost 130 rfl) rfl rfl (pc1 := 243) rfl ?_
    refine iz_getI X fl_RX12_292 k_1 (ix_tb_at tb_X12_layAtMost 131 rfl) (pc1 := 246) rfl ?_
    refine ix_iload_n (i := 1) (j := 1) X (ix_tb_at tb_X12_layAtMost 132 rfl) rfl rfl (pc1 := 247) rfl ?_
    refine ix_icmp_le (tgt := 267) X (ix_tb_at tb_X12_layAtMost 133 rfl) (by decide) (pc1 := 250) rfl (fun q_3 => ?_) (fun q_3 => ?_)
    · have h := ix_ift q_3 h
      refine ix_sub (L1 := [(0, .ref (K.2.2.1 + a0)), (1, .int x1), (2, .int x2)]) [0, 1, 2] rfl ?_
      exact t_X12_layAtMost_267 hKp X hr hlk  h
    · have h := ix_iff q_3 h
      refine ix_aload_n (i := 0) (j := 0) X (ix_tb_at tb_X12_layAtMost 134 rfl) rfl rfl (pc1 := 251) rfl ?_
      refine ix_aload_n (i := 0) (j := 0) X (ix_tb_at tb_X12_layAtMost 135 rfl) rfl rfl (pc1 := 252) rfl ?_
      obtain ⟨b_19, q_20, h⟩ := ix_bd1_ex h
      refine iz_getR X fl_RX12_89 k_1 q_20 (ix_tb_at tb_X12_layAtMost 136 rfl) (pc1 := 255) rfl ?_
      refine ix_iload_n (i := 1) (j := 1) X (ix_tb_at tb_X12_layAtMost 137 rfl) rfl rfl (pc1 := 256) rfl ?_
      refine ix_iconst (v := 1) X (ix_tb_at tb_X12_layAtMost 138 rfl) (by decide) (pc1 := 257) rfl ?_
      refine ix_iadd X (ix_tb_at tb_X12_layAtMost 139 rfl) (pc1 := 258) rfl ?_
      obtain ⟨k_21, h⟩ := ix_ck_some h
      refine iz_iald X k_21 (ix_tb_at tb_X12_layAtMost 140 rfl) (pc1 := 259) rfl ?_
      refine ix_ineg X (ix_tb_at tb_X12_layAtMost 141 rfl) (pc1 := 260) rfl ?_
      obtain ⟨d_22, h_23, h⟩ := ix_bd1_ex h
      refine ix_callV (As := [.int (-(d.1 b_19 (ix_n (x1 + 1))))]) (rest := []) (ci := 11) (T := TX12) (nf := 116) X mf_X12_lay mi_X12_lay ms_X12_lay rfl (Nat.le_of_ble_eq_true rfl) ml_RX12_282 ⟨Nat.le_of_ble_eq_true rfl, Nat.le_of_ble_eq_true rfl⟩ ⟨Nat.le_of_ble_eq_true rfl, Nat.le_of_ble_eq_true rfl⟩ rfl (Nat.le_of_ble_eq_true rfl) (ix_tb_at tb_X12_layAtMost 142 rfl) ⟨k_1.1, List.mem_singleton.mp k_1.2⟩ (c_X12_lay hKp h_23) rfl (pc1 := 263) rfl ?_
      refine ix_aload_n (i := 0) (j := 0) X (ix_tb_at tb_X12_layAtMost 143 rfl) rfl rfl (pc1 := 264) rfl ?_
      obtain ⟨d_24, h_25, h⟩ := ix_bd1_ex h
      refine ix_callV (As := []) (rest := []) (ci := 11) (T := TX12) (nf := 116) X mf_X12_endRow mi_X12_endRow ms_X12_endRow rfl (Nat.le_of_ble_eq_true rfl) ml_RX12_286 ⟨Nat.le_of_ble_eq_true rfl, Nat.le_of_ble_eq_true rfl⟩ ⟨Nat.le_of_ble_eq_true rfl, Nat.le_of_ble_eq_true rfl⟩ rfl (Nat.le_of_ble_eq_true rfl) (ix_tb_at tb_X12_layAtMost 144 rfl) ⟨k_1.1, List.mem_singleton.mp k_1.2⟩ (c_X12_endRow hKp h_25) rfl (pc1 := 267) rfl ?_
      refine ix_sub (L1 := [(0, .ref (K.2.2.1 + a0)), (1, .int x1), (2, .int x2)]) [0, 1, 2] rfl ?_
      exact t_X12_layAtMost_267 hKp X hr hlk  h
  · have h := ix_iff q_2 h
    refine ix_aload_n (i := 0) (j := 0) X (ix_tb_at tb_X12_layAtMost 6 rfl) rfl rfl (pc1 := 11) rfl ?_
    obtain ⟨b_26, q_27, h⟩ := ix_bd1_ex h
    refine iz_getR X fl_RX12_86 k_1 q_27 (ix_tb_at tb_X12_layAtMost 7 rfl) (pc1 := 14) rfl ?_
    refine ix_iload_n (i := 3) (j := 3) X (ix_tb_at tb_X12_layAtMost 8 rfl) rfl rfl (pc1 := 15) rfl ?_
    refine ix_iconst (v := 1) X (ix_tb_at tb_X12_layAtMost 9 rfl) (by decide) (pc1 := 16) rfl ?_
    refine ix_isub X (ix_tb_at tb_X12_layAtMost 10 rfl) (pc1 := 17) rfl ?_
    obtain ⟨k_28, h⟩ := ix_ck_some h
    refine iz_iald X k_28 (ix_tb_at tb_X12_layAtMost 11 rfl) (pc1 := 18) rfl ?_
    obtain ⟨x4_29, e_30, h⟩ := ix_lt_ex h
    refine ix_nmi e_30 ?_
    refine ix_istore (i := 4) (L1 := [(4, .int x4_29), (0, .ref (K.2.2.1 + a0)), (1, .int x1), (2, .int x2), (3, .int x3)]) X (ix_tb_at tb_X12_layAtMost 12 rfl) (Nat.le_of_ble_eq_true rfl) rfl (pc1 := 20) rfl ?_
    refine ix_iconst (v := 1) X (ix_tb_at tb_X12_layAtMost 13 rfl) (by decide) (pc1 := 21) rfl ?_
    refine ix_istore (i := 5) (L1 := [(5, .int 1), (4, .int x4_29), (0, .ref (K.2.2.1 + a0)), (1, .int x1), (2, .int x2), (3, .int x3)]) X (ix_tb_at tb_X12_layAtMost 14 rfl) (Nat.le_of_ble_eq_true rfl) rfl (pc1 := 23) rfl ?_
    refine ix_sub (L1 := [(0, .ref (K.2.2.1 + a0)), (1, .int x1), (2, .int x2), (3, .int x3), (4, .int x4_29), (5, .int 1)]) [2, 3, 4, 5, 1, 0] rfl ?_
    exact t_X12_layAtMost_23 hKp X hr hlk hrec2 h
theorem t_X12_layAtMost_2 {l : Launch} {p : Program} {e : Env} {s : State} {m : MethodId} {args : Array Value} {below : List Frame} {meth : Method} {c : Code} {K : ix_Cx} (hKp : ix_Kp K) {n : Nat} {z : ix_Z} (X : ix_X p s m args c K cX12_layAtMost RX12 9) (hr : meth.sig.returnType = (none : Option Jvm.ClassFile.FieldType)) (hlk : meth.locks = false)  {a0 : Nat} {x1 : Int32} {x2 : Int32} {d1 : ix_D2}  {x3 : Int32} {d : ix_D2} (h : f_X12_layAtMost_2 n z  a0 x1 x2 x3 d = some d1) : ix_G p l e (ix_rm 2 46 0 0) s m args below meth c (MQ below (ix_Post K none (ix_w z d1)) args s 0 0 (ix_A K)) K 9 0 0 2 [(0, .ref (K.2.2.1 + a0)), (1, .int x1), (2, .int x2), (3, .int x3)] [] (ix_w z d) := by
  have key : ∀ (f : Nat) (x3 : Int32) (d : ix_D2), ix_fix (b_X12_layAtMost_2 n z  a0 x1 x2) (fun _ _ => none) f x3 d = some d1 → ix_G p l e (ix_rm 2 46 0 0) s m args below meth c (MQ below (ix_Post K none (ix_w z d1)) args s 0 0 (ix_A K)) K 9 0 0 2 [(0, .ref (K.2.2.1 + a0)), (1, .int x1), (2, .int x2), (3, .int x3)] [] (ix_w z d) := by
    intro f
    induction f with
    | zero =>
      intro x3 d h
      have h : (none : Option (ix_D2)) = some d1 := h
      cases h
    | succ f ih =>
      intro x3 d h
      exact tb_X12_layAtMost_2 hKp X hr hlk (rec2 := ix_fix (b_X12_layAtMost_2 n z  a0 x1 x2) (fun _ _ => none) f)  ih h
  exact key n x3 d h
set_option maxRecDepth 20000 in
theorem c_X12_layAtMost {l : Launch} {K : ix_Cx} (hKp : ix_Kp K) {n : Nat} {z : ix_Z} {a0 : Nat} {x1 : Int32} {x2 : Int32} {d : ix_D2} {d1 : ix_D2} (h : f_X12_layAtMost n z a0 x1 x2 d = some d1) : ix_M l K yX12_layAtMost cX12_layAtMost 9 (none : Option Jvm.ClassFile.FieldType) 2 46 0 0 [.ref (K.2.2.1 + a0), .int x1, .int x2] (ix_w z d) none (ix_w z d1) := by
  refine ix_met mf_X12_layAtMost hKp (Nat.le_of_ble_eq_true rfl) ?_
  intro p e s m args below meth c hr hlk hnm X
  have X : ix_X p s m args c K cX12_layAtMost RX12 9 := X
  show ix_G p l e (ix_rm 2 46 0 0) s m args below meth c (MQ below (ix_Post K none (ix_w z d1)) args s 0 0 (ix_A K)) K 9 0 0 0 [(0, .ref (K.2.2.1 + a0)), (1, .int x1), (2, .int x2)] [] (ix_w z d)
  unfold f_X12_layAtMost at h
  refine ix_iconst (v := 1) X (ix_tb_at tb_X12_layAtMost 0 rfl) (by decide) (pc1 := 1) rfl ?_
  refine ix_istore_n (i := 3) (L1 := [(3, .int 1), (0, .ref (K.2.2.1 + a0)), (1, .int x1), (2, .int x2)]) X (ix_tb_at tb_X12_layAtMost 1 rfl) rfl (Nat.le_of_ble_eq_true rfl) rfl (pc1 := 2) rfl ?_
  refine ix_sub (L1 := [(0, .ref (K.2.2.1 + a0)), (1, .int x1), (2, .int x2), (3, .int 1)]) [1, 2, 3, 0] rfl ?_
  exact t_X12_layAtMost_2 hKp X hr hlk  h
def tab_X12_layParity : List (Nat × Instr × Nat) := [(0, .iconst 0, 1), (1, .istore_n 2, 1), (2, .iconst 0, 1), (3, .istore_n 3, 1), (4, .iload_n 3, 1), (5, .aload_n 0, 1), (6, .getfield 292, 3), (9, .if_icmp .ge 78, 3), (12, .aload_n 0, 1), (13, .getfield 86, 3), (16, .iload_n 3, 1), (17, .iaload, 1), (18, .istore 4, 2), (20, .iload_n 3, 1), (21, .ifCond .ne 9, 3), (24, .iload 4, 2), (26, .istore_n 2, 1), (27, .goto 54, 3), (30, .aload_n 0, 1), (31, .invokevirtual 298, 3), (34, .istore 5, 2), (36, .aload_n 0, 1), (37, .iload_n 2, 1), (38, .ineg, 1), (39, .iload 4, 2), (41, .ineg, 1), (42, .iload 5, 2), (44, .ineg, 1), (45, .invokevirtual 306, 3), (48, .aload_n 0, 1), (49, .iload_n 2, 1), (50, .iload 4, 2), (52, .iload 5, 2), (54, .ineg, 1), (55, .invokevirtual 306, 3), (58, .aload_n 0, 1), (59, .iload_n 2, 1), (60, .iload 4, 2), (62, .ineg, 1), (63, .iload 5, 2), (65, .invokevirtual 306, 3), (68, .aload_n 0, 1), (69, .iload_n 2, 1), (70, .ineg, 1), (71, .iload 4, 2), (73, .iload 5, 2), (75, .invokevirtual 306, 3), (78, .iload 5, 2), (80, .istore_n 2, 1), (81, .iinc 3 1, 3), (84, .goto (-80), 3), (87, .aload_n 0, 1), (88, .getfield 292, 3), (91, .ifCond .le 24, 3), (94, .aload_n 0, 1), (95, .iload_n 1, 1), (96, .ifCond .eq 7, 3), (99, .iload_n 2, 1), (100, .goto 5, 3), (103, .iload_n 2, 1), (104, .ineg, 1), (105, .invokevirtual 282, 3), (108, .aload_n 0, 1), (109, .invokevirtual 286, 3), (112, .goto 11, 3), (115, .iload_n 1, 1), (116, .ifCond .eq 7, 3), (119, .aload_n 0, 1), (120, .invokevirtual 286, 3), (123, .return_, 1)]
theorem tb_X12_layParity : ix_tab cX12_layParity tab_X12_layParity := by
  unfold ix_tab
  decide +kernel
noncomputable def f_X12_layParity_105 (n : Nat) (z : ix_Z)  (a0 : Nat) (s0 : Int32) (s1 : Nat) (d : ix_D2) : Option (ix_D2) :=
  ix_ck (ix_ok z [11] s1) (ix_bd1 (f_X12_lay n z s1 s0 d) (fun d_8 => ix_ck (ix_ok z [11] a0) (ix_bd1 (f_X12_endRow n z a0 d_8) (fun d_11 => some d_11))))
noncomputable def f_X12_layParity_81 (n : Nat) (z : ix_Z) (rec4 : Int32 → Int32 → ix_D2 → Option (ix_D2)) (a0 : Nat) (x1 : Int32) (x2 : Int32) (x3 : Int32) (d : ix_D2) : Option (ix_D2) :=
  ix_lt (x3 + 1) (fun x3_31 => rec4 x2 x3_31 d)
noncomputable def b_X12_layParity_4 (n : Nat) (z : ix_Z)  (a0 : Nat) (x1 : Int32) (rec4 : Int32 → Int32 → ix_D2 → Option (ix_D2)) (x2 : Int32) (x3 : Int32) (d : ix_D2) : Option (ix_D2) :=
  ix_ck (ix_ok z [11] a0) (ix_if (d.1 a0 42 ≤ x3) (ix_if (d.1 a0 42 ≤ 0) (ix_if (x1 = 0) (some d) (ix_bd1 (f_X12_endRow n z a0 d) (fun d_5 => some d_5))) (ix_if (x1 = 0) (f_X12_layParity_105 n z  a0 (-x2) a0 d) (f_X12_layParity_105 n z  a0 x2 a0 d))) (ix_bd1 (z.1 a0 41) (fun b_14 => ix_ck (ix_ix z 20 b_14 x3) (ix_lt (d.1 b_14 (ix_n x3)) (fun x4_17 => ix_if (x3 = 0) (f_X12_layParity_81 n z rec4 a0 x1 x4_17 x3 d) (ix_bd2 (f_X12_newName n z a0 d) (fun r_22 d_20 => ix_bd1 (f_X12_layThree n z a0 (-x2) (-x4_17) (-r_22) d_20) (fun d_23 => ix_bd1 (f_X12_layThree n z a0 x2 x4_17 (-r_22) d_23) (fun d_25 => ix_bd1 (f_X12_layThree n z a0 x2 (-x4_17) r_22 d_25) (fun d_27 => ix_bd1 (f_X12_layThree n z a0 (-x2) x4_17 r_22 d_27) (fun d_29 => f_X12_layParity_81 n z rec4 a0 x1 r_22 x3 d_29)))))))))))
noncomputable def f_X12_layParity_4 (n : Nat) (z : ix_Z)  (a0 : Nat) (x1 : Int32) (x2 : Int32) (x3 : Int32) (d : ix_D2) : Option (ix_D2) := ix_fix (b_X12_layParity_4 n z  a0 x1) (fun _ _ _ => none) n x2 x3 d
noncomputable def f_X12_layParity (n : Nat) (z : ix_Z) (a0 : Nat) (x1 : Int32) (d : ix_D2) : Option (ix_D2) :=
  f_X12_layParity_4 n z  a0 x1 0 0 d
set_option maxRecDepth 20000 in
theorem t_X12_layParity_105 {l : Launch} {p : Program} {e : Env} {s : State} {m : MethodId} {args : Array Value} {below : List Frame} {meth : Method} {c : Code} {K : ix_Cx} (hKp : ix_Kp K) {n : Nat} {z : ix_Z} (X : ix_X p s m args c K cX12_layParity RX12 6) (hr : meth.sig.returnType = (none : Option Jvm.ClassFile.FieldType)) (hlk : meth.locks = false)  {a0 : Nat} {s0 : Int32} {s1 : Nat} {d1 : ix_D2}  {d : ix_D2} (h : f_X12_layParity_105 n z  a0 s0 s1 d = some d1) : ix_G p l e (ix_rm 2 46 0 0) s m args below meth c (MQ below (ix_Post K none (ix_w z d1)) args s 0 0 (ix_A K)) K 6 0 0 105 [(0, .ref (K.2.2.1 + a0))] [.int s0, .ref (K.2.2.1 + s1)] (ix_w z d) := by
  unfold f_X12_layParity_105 at h
  obtain ⟨k_10, h⟩ := ix_ck_some h
  obtain ⟨d_8, h_9, h⟩ := ix_bd1_ex h
  refine ix_callV (As := [.int s0]) (rest := []) (ci := 11) (T := TX12) (nf := 116) X mf_X12_lay mi_X12_lay ms_X12_lay rfl (Nat.le_of_ble_eq_true rfl) ml_RX12_282 ⟨Nat.le_of_ble_eq_true rfl, Nat.le_of_ble_eq_true rfl⟩ ⟨Nat.le_of_ble_eq_true rfl, Nat.le_of_ble_eq_true rfl⟩ rfl (Nat.le_of_ble_eq_true rfl) (ix_tb_at tb_X12_layParity 61 rfl) ⟨k_10.1, List.mem_singleton.mp k_10.2⟩ (c_X12_lay hKp h_9) rfl (pc1 := 108) rfl ?_
  refine ix_aload_n (i := 0) (j := 0) X (ix_tb_at tb_X12_layParity 62 rfl) rfl rfl (pc1 := 109) rfl ?_
  obtain ⟨k_13, h⟩ := ix_ck_some h
  obtain ⟨d_11, h_12, h⟩ := ix_bd1_ex h
  refine ix_callV (As := []) (rest := []) (ci := 11) (T := TX12) (nf := 116) X mf_X12_endRow mi_X12_endRow ms_X12_endRow rfl (Nat.le_of_ble_eq_true rfl) ml_RX12_286 ⟨Nat.le_of_ble_eq_true rfl, Nat.le_of_ble_eq_true rfl⟩ ⟨Nat.le_of_ble_eq_true rfl, Nat.le_of_ble_eq_true rfl⟩ rfl (Nat.le_of_ble_eq_true rfl) (ix_tb_at tb_X12_layParity 63 rfl) ⟨k_13.1, List.mem_singleton.mp k_13.2⟩ (c_X12_endRow hKp h_12) rfl (pc1 := 112) rfl ?_
  refine ix_goto (tgt := 123) X (ix_tb_at tb_X12_layParity 64 rfl) (by decide) ?_
  exact ix_vret X hr hlk (ix_r1 (g := ix_w z) h) (ix_tb_at tb_X12_layParity 69 rfl)
set_option maxRecDepth 20000 in
theorem t_X12_layParity_81 {l : Launch} {p : Program} {e : Env} {s : State} {m : MethodId} {args : Array Value} {below : List Frame} {meth : Method} {c : Code} {K : ix_Cx} (hKp : ix_Kp K) {n : Nat} {z : ix_Z} (X : ix_X p s m args c K cX12_layParity RX12 6) (hr : meth.sig.returnType = (none : Option Jvm.ClassFile.FieldType)) (hlk : meth.locks = false) {rec4 : Int32 → Int32 → ix_D2 → Option (ix_D2)} {a0 : Nat} {x1 : Int32} {x2 : Int32} {x3 : Int32} {d1 : ix_D2} (hrec4 : ∀ (x2 : Int32) (x3 : Int32) (d : ix_D2), rec4 x2 x3 d = some d1 → ix_G p l e (ix_rm 2 46 0 0) s m args below meth c (MQ below (ix_Post K none (ix_w z d1)) args s 0 0 (ix_A K)) K 6 0 0 4 [(0, .ref (K.2.2.1 + a0)), (1, .int x1), (2, .int x2), (3, .int x3)] [] (ix_w z d)) {d : ix_D2} (h : f_X12_layParity_81 n z rec4 a0 x1 x2 x3 d = some d1) : ix_G p l e (ix_rm 2 46 0 0) s m args below meth c (MQ below (ix_Post K none (ix_w z d1)) args s 0 0 (ix_A K)) K 6 0 0 81 [(0, .ref (K.2.2.1 + a0)), (1, .int x1), (2, .int x2), (3, .int x3)] [] (ix_w z d) := by
  unfold f_X12_layParity_81 at h
  obtain ⟨x3_31, e_32, h⟩ := ix_lt_ex h
  refine ix_iinc (i := 3) (j := 3) (v := x3_31) (L1 := [(3, .int x3_31), (0, .ref (K.2.2.1 + a0)), (1, .int x1), (2, .int x2)]) X (ix_tb_at tb_X12_layParity 49 rfl) rfl (by rw [oi_1]; exact e_32.symm) (Nat.le_of_ble_eq_true rfl) rfl (pc1 := 84) rfl ?_
  refine ix_goto (tgt := 4) X (ix_tb_at tb_X12_layParity 50 rfl) (by decide) ?_
  refine ix_sub (L1 := [(0, .ref (K.2.2.1 + a0)), (1, .int x1), (2, .int x2), (3, .int x3_31)]) [1, 2, 3, 0] rfl ?_
  exact hrec4 x2 x3_31 d h
set_option maxRecDepth 20000 in
theorem tb_X12_layParity_4 {l : Launch} {p : Program} {e : Env} {s : State} {m : MethodId} {args : Array Value} {below : List Frame} {meth : Method} {c : Code} {K : ix_Cx} (hKp : ix_Kp K) {n : Nat} {z : ix_Z} (X : ix_X p s m args c K cX12_layParity RX12 6) (hr : meth.sig.returnType = (none : Option Jvm.ClassFile.FieldType)) (hlk : meth.locks = false)  {a0 : Nat} {x1 : Int32} {rec4 : Int32 → Int32 → ix_D2 → Option (ix_D2)} {d1 : ix_D2} (hrec4 : ∀ (x2 : Int32) (x3 : Int32) (d : ix_D2), rec4 x2 x3 d = some d1 → ix_G p l e (ix_rm 2 46 0 0) s m args below meth c (MQ below (ix_Post K none (ix_w z d1)) args s 0 0 (ix_A K)) K 6 0 0 4 [(0, .ref (K.2.2.1 + a0)), (1, .int x1), (2, .int x2), (3, .int x3)] [] (ix_w z d)) {x2 : Int32} {x3 : Int32} {d : ix_D2} (h : b_X12_layParity_4 n z  a0 x1 rec4 x2 x3 d = some d1) : ix_G p l e (ix_rm 2 46 0 0) s m args below meth c (MQ below (ix_Post K none (ix_w z d1)) args s 0 0 (ix_A K)) K 6 0 0 4 [(0, .ref (K.2.2.1 + a0)), (1, .int x1), (2, .int x2), (3, .int x3)] [] (ix_w z d) := by
  unfold b_X12_layParity_4 at h
  refine ix_iload_n (i := 3) (j := 3) X (ix_tb_at tb_X12_layParity 4 rfl) rfl rfl (pc1 := 5) rfl ?_
  refine ix_aload_n (i := 0) (j := 0) X (ix_tb_at tb_X12_layParity 5 rfl) rfl rfl (pc1 := 6) rfl ?_
  obtain ⟨k_1, h⟩ := ix_ck_some h
  refine iz_getI X fl_RX12_292 k_1 (ix_tb_at tb_X12_layParity 6 rfl) (pc1 := 9) rfl ?_
  refine ix_icmp_ge (tgt := 87) X (ix_tb_at tb_X12_layParity 7 rfl) (by decide) (pc1 := 12) rfl (fun q_2 => ?_) (fun q_2 => ?_)
  · have h := ix_ift q_2 h
    refine ix_aload_n (i := 0) (j := 0) X (ix_tb_at tb_X12_layParity 51 rfl) rfl rfl (pc1 := 88) rfl ?_
    refine iz_getI X fl_RX12_292 k_1 (ix_tb_at tb_X12_layParity 52 rfl) (pc1 := 91) rfl ?_
    refine ix_if_le (tgt := 115) X (ix_tb_at tb_X12_layParity 53 rfl) (by decide) (pc1 := 94) rfl (fun q_3 => ?_) (fun q_3 => ?_)
    · have h := ix_ift q_3 h
      refine ix_iload_n (i := 1) (j := 1) X (ix_tb_at tb_X12_layParity 65 rfl) rfl rfl (pc1 := 116) rfl ?_
      refine ix_if_eq (tgt := 123) X (ix_tb_at tb_X12_layParity 66 rfl) (by decide) (pc1 := 119) rfl (fun q_4 => ?_) (fun q_4 => ?_)
      · have h := ix_ift q_4 h
        exact ix_vret X hr hlk (ix_r1 (g := ix_w z) h) (ix_tb_at tb_X12_layParity 69 rfl)
      · have h := ix_iff q_4 h
        refine ix_aload_n (i := 0) (j := 0) X (ix_tb_at tb_X12_layParity 67 rfl) rfl rfl (pc1 := 120) rfl ?_
        obtain ⟨d_5, h_6, h⟩ := ix_bd1_ex h
        refine ix_callV (As := []) (rest := []) (ci := 11) (T := TX12) (nf := 116) X mf_X12_endRow mi_X12_endRow ms_X12_endRow rfl (Nat.le_of_ble_eq_true rfl) ml_RX12_286 ⟨Nat.le_of_ble_eq_true rfl, Nat.le_of_ble_eq_true rfl⟩ ⟨Nat.le_of_ble_eq_true rfl, Nat.le_of_ble_eq_true rfl⟩ rfl (Nat.le_of_ble_eq_true rfl) (ix_tb_at tb_X12_layParity 68 rfl) ⟨k_1.1, List.mem_singleton.mp k_1.2⟩ (c_X12_endRow hKp h_6) rfl (pc1 := 123) rfl ?_
        exact ix_vret X hr hlk (ix_r1 (g := ix_w z) h) (ix_tb_at tb_X12_layParity 69 rfl)
    · have h := ix_iff q_3 h
      refine ix_aload_n (i := 0) (j := 0) X (ix_tb_at tb_X12_layParity 54 rfl) rfl rfl (pc1 := 95) rfl ?_
      refine ix_iload_n (i := 1) (j := 1) X (ix_tb_at tb_X12_layParity 55 rfl) rfl rfl (pc1 := 96) rfl ?_
      refine ix_if_eq (tgt := 103) X (ix_tb_at tb_X12_layParity 56 rfl) (by decide) (pc1 := 99) rfl (fun q_7 => ?_) (fun q_7 => ?_)
      · have h := ix_ift q_7 h
        refine ix_iload_n (i := 2) (j := 2) X (ix_tb_at tb_X12_layParity 59 rfl) rfl rfl (pc1 := 104) rfl ?_
        refine ix_ineg X (ix_tb_at tb_X12_layParity 60 rfl) (pc1 := 105) rfl ?_
        refine ix_sub (L1 := [(0, .ref (K.2.2.1 + a0))]) [0] rfl ?_
        exact t_X12_layParity_105 hKp X hr hlk  h
      · have h := ix_iff q_7 h
        refine ix_iload_n (i := 2) (j := 2) X (ix_tb_at tb_X12_layParity 57 rfl) rfl rfl (pc1 := 100) rfl ?_
        refine ix_goto (tgt := 105) X (ix_tb_at tb_X12_layParity 58 rfl) (by decide) ?_
        refine ix_sub (L1 := [(0, .ref (K.2.2.1 + a0))]) [0] rfl ?_
        exact t_X12_layParity_105 hKp X hr hlk  h
  · have h := ix_iff q_2 h
    refine ix_aload_n (i := 0) (j := 0) X (ix_tb_at tb_X12_layParity 8 rfl) rfl rfl (pc1 := 13) rfl ?_
    obtain ⟨b_14, q_15, h⟩ := ix_bd1_ex h
    refine iz_getR X fl_RX12_86 k_1 q_15 (ix_tb_at tb_X12_layParity 9 rfl) (pc1 := 16) rfl ?_
    refine ix_iload_n (i := 3) (j := 3) X (ix_tb_at tb_X12_layParity 10 rfl) rfl rfl (pc1 := 17) rfl ?_
    obtain ⟨k_16, h⟩ := ix_ck_some h
    refine iz_iald X k_16 (ix_tb_at tb_X12_layParity 11 rfl) (pc1 := 18) rfl ?_
    obtain ⟨x4_17, e_18, h⟩ := ix_lt_ex h
    refine ix_nmi e_18 ?_
    refine ix_istore (i := 4) (L1 := [(4, .int x4_17), (0, .ref (K.2.2.1 + a0)), (1, .int x1), (2, .int x2), (3, .int x3)]) X (ix_tb_at tb_X12_layParity 12 rfl) (Nat.le_of_ble_eq_true rfl) rfl (pc1 := 20) rfl ?_
    refine ix_iload_n (i := 3) (j := 4) X (ix_tb_at tb_X12_layParity 13 rfl) rfl rfl (pc1 := 21) rfl ?_
    refine ix_if_ne (tgt := 30) X (ix_tb_at tb_X12_layParity 14 rfl) (by decide) (pc1 := 24) rfl (fun q_19 => ?_) (fun q_19 => ?_)
    · have h := ix_iff q_19 h
      refine ix_aload_n (i := 0) (j := 1) X (ix_tb_at tb_X12_layParity 18 rfl) rfl rfl (pc1 := 31) rfl ?_
      obtain ⟨r_22, d_20, h_21, h⟩ := ix_bd2_ex h
      refine ix_callV (As := []) (rest := []) (ci := 11) (T := TX12) (nf := 116) X mf_X12_newName mi_X12_newName ms_X12_newName rfl (Nat.le_of_ble_eq_true rfl) ml_RX12_298 ⟨Nat.le_of_ble_eq_true rfl, Nat.le_of_ble_eq_true rfl⟩ ⟨Nat.le_of_ble_eq_true rfl, Nat.le_of_ble_eq_true rfl⟩ rfl (Nat.le_of_ble_eq_true rfl) (ix_tb_at tb_X12_layParity 19 rfl) ⟨k_1.1, List.mem_singleton.mp k_1.2⟩ (c_X12_newName hKp h_21) rfl (pc1 := 34) rfl ?_
      refine ix_istore (i := 5) (L1 := [(5, .int r_22), (4, .int x4_17), (0, .ref (K.2.2.1 + a0)), (1, .int x1), (2, .int x2), (3, .int x3)]) X (ix_tb_at tb_X12_layParity 20 rfl) (Nat.le_of_ble_eq_true rfl) rfl (pc1 := 36) rfl ?_
      refine ix_aload_n (i := 0) (j := 2) X (ix_tb_at tb_X12_layParity 21 rfl) rfl rfl (pc1 := 37) rfl ?_
      refine ix_iload_n (i := 2) (j := 4) X (ix_tb_at tb_X12_layParity 22 rfl) rfl rfl (pc1 := 38) rfl ?_
      refine ix_ineg X (ix_tb_at tb_X12_layParity 23 rfl) (pc1 := 39) rfl ?_
      refine ix_iload (i := 4) (j := 1) X (ix_tb_at tb_X12_layParity 24 rfl) rfl (pc1 := 41) rfl ?_
      refine ix_ineg X (ix_tb_at tb_X12_layParity 25 rfl) (pc1 := 42) rfl ?_
      refine ix_iload (i := 5) (j := 0) X (ix_tb_at tb_X12_layParity 26 rfl) rfl (pc1 := 44) rfl ?_
      refine ix_ineg X (ix_tb_at tb_X12_layParity 27 rfl) (pc1 := 45) rfl ?_
      obtain ⟨d_23, h_24, h⟩ := ix_bd1_ex h
      refine ix_callV (As := [.int (-x2), .int (-x4_17), .int (-r_22)]) (rest := []) (ci := 11) (T := TX12) (nf := 116) X mf_X12_layThree mi_X12_layThree ms_X12_layThree rfl (Nat.le_of_ble_eq_true rfl) ml_RX12_306 ⟨Nat.le_of_ble_eq_true rfl, Nat.le_of_ble_eq_true rfl⟩ ⟨Nat.le_of_ble_eq_true rfl, Nat.le_of_ble_eq_true rfl⟩ rfl (Nat.le_of_ble_eq_true rfl) (ix_tb_at tb_X12_layParity 28 rfl) ⟨k_1.1, List.mem_singleton.mp k_1.2⟩ (c_X12_layThree hKp h_24) rfl (pc1 := 48) rfl ?_
      refine ix_aload_n (i := 0) (j := 2) X (ix_tb_at tb_X12_layParity 29 rfl) rfl rfl (pc1 := 49) rfl ?_
      refine ix_iload_n (i := 2) (j := 4) X (ix_tb_at tb_X12_layParity 30 rfl) rfl rfl (pc1 := 50) rfl ?_
      refine ix_iload (i := 4) (j := 1) X (ix_tb_at tb_X12_layParity 31 rfl) rfl (pc1 := 52) rfl ?_
      refine ix_iload (i := 5) (j := 0) X (ix_tb_at tb_X12_layParity 32 rfl) rfl (pc1 := 54) rfl ?_
      refine ix_ineg X (ix_tb_at tb_X12_layParity 33 rfl) (pc1 := 55) rfl ?_
      obtain ⟨d_25, h_26, h⟩ := ix_bd1_ex h
      refine ix_callV (As := [.int x2, .int x4_17, .int (-r_22)]) (rest := []) (ci := 11) (T := TX12) (nf := 116) X mf_X12_layThree mi_X12_layThree ms_X12_layThree rfl (Nat.le_of_ble_eq_true rfl) ml_RX12_306 ⟨Nat.le_of_ble_eq_true rfl, Nat.le_of_ble_eq_true rfl⟩ ⟨Nat.le_of_ble_eq_true rfl, Nat.le_of_ble_eq_true rfl⟩ rfl (Nat.le_of_ble_eq_true rfl) (ix_tb_at tb_X12_layParity 34 rfl) ⟨k_1.1, List.mem_singleton.mp k_1.2⟩ (c_X12_layThree hKp h_26) rfl (pc1 := 58) rfl ?_
      refine ix_aload_n (i := 0) (j := 2) X (ix_tb_at tb_X12_layParity 35 rfl) rfl rfl (pc1 := 59) rfl ?_
      refine ix_iload_n (i := 2) (j := 4) X (ix_tb_at tb_X12_layParity 36 rfl) rfl rfl (pc1 := 60) rfl ?_
      refine ix_iload (i := 4) (j := 1) X (ix_tb_at tb_X12_layParity 37 rfl) rfl (pc1 := 62) rfl ?_
      refine ix_ineg X (ix_tb_at tb_X12_layParity 38 rfl) (pc1 := 63) rfl ?_
      refine ix_iload (i := 5) (j := 0) X (ix_tb_at tb_X12_layParity 39 rfl) rfl (pc1 := 65) rfl ?_
      obtain ⟨d_27, h_28, h⟩ := ix_bd1_ex h
      refine ix_callV (As := [.int x2, .int (-x4_17), .int r_22]) (rest := []) (ci := 11) (T := TX12) (nf := 116) X mf_X12_layThree mi_X12_layThree ms_X12_layThree rfl (Nat.le_of_ble_eq_true rfl) ml_RX12_306 ⟨Nat.le_of_ble_eq_true rfl, Nat.le_of_ble_eq_true rfl⟩ ⟨Nat.le_of_ble_eq_true rfl, Nat.le_of_ble_eq_true rfl⟩ rfl (Nat.le_of_ble_eq_true rfl) (ix_tb_at tb_X12_layParity 40 rfl) ⟨k_1.1, List.mem_singleton.mp k_1.2⟩ (c_X12_layThree hKp h_28) rfl (pc1 := 68) rfl ?_
      refine ix_aload_n (i := 0) (j := 2) X (ix_tb_at tb_X12_layParity 41 rfl) rfl rfl (pc1 := 69) rfl ?_
      refine ix_iload_n (i := 2) (j := 4) X (ix_tb_at tb_X12_layParity 42 rfl) rfl rfl (pc1 := 70) rfl ?_
      refine ix_ineg X (ix_tb_at tb_X12_layParity 43 rfl) (pc1 := 71) rfl ?_
      refine ix_iload (i := 4) (j := 1) X (ix_tb_at tb_X12_layParity 44 rfl) rfl (pc1 := 73) rfl ?_
      refine ix_iload (i := 5) (j := 0) X (ix_tb_at tb_X12_layParity 45 rfl) rfl (pc1 := 75) rfl ?_
      obtain ⟨d_29, h_30, h⟩ := ix_bd1_ex h
      refine ix_callV (As := [.int (-x2), .int x4_17, .int r_22]) (rest := []) (ci := 11) (T := TX12) (nf := 116) X mf_X12_layThree mi_X12_layThree ms_X12_layThree rfl (Nat.le_of_ble_eq_true rfl) ml_RX12_306 ⟨Nat.le_of_ble_eq_true rfl, Nat.le_of_ble_eq_true rfl⟩ ⟨Nat.le_of_ble_eq_true rfl, Nat.le_of_ble_eq_true rfl⟩ rfl (Nat.le_of_ble_eq_true rfl) (ix_tb_at tb_X12_layParity 46 rfl) ⟨k_1.1, List.mem_singleton.mp k_1.2⟩ (c_X12_layThree hKp h_30) rfl (pc1 := 78) rfl ?_
      refine ix_iload (i := 5) (j := 0) X (ix_tb_at tb_X12_layParity 47 rfl) rfl (pc1 := 80) rfl ?_
      refine ix_istore_n (i := 2) (L1 := [(2, .int r_22), (5, .int r_22), (4, .int x4_17), (0, .ref (K.2.2.1 + a0)), (1, .int x1), (3, .int x3)]) X (ix_tb_at tb_X12_layParity 48 rfl) rfl (Nat.le_of_ble_eq_true rfl) rfl (pc1 := 81) rfl ?_
      refine ix_sub (L1 := [(0, .ref (K.2.2.1 + a0)), (1, .int x1), (2, .int r_22), (3, .int x3)]) [3, 4, 0, 5] rfl ?_
      exact t_X12_layParity_81 hKp X hr hlk hrec4 h
    · have h := ix_ift q_19 h
      refine ix_iload (i := 4) (j := 0) X (ix_tb_at tb_X12_layParity 15 rfl) rfl (pc1 := 26) rfl ?_
      refine ix_istore_n (i := 2) (L1 := [(2, .int x4_17), (4, .int x4_17), (0, .ref (K.2.2.1 + a0)), (1, .int x1), (3, .int x3)]) X (ix_tb_at tb_X12_layParity 16 rfl) rfl (Nat.le_of_ble_eq_true rfl) rfl (pc1 := 27) rfl ?_
      refine ix_goto (tgt := 81) X (ix_tb_at tb_X12_layParity 17 rfl) (by decide) ?_
      refine ix_sub (L1 := [(0, .ref (K.2.2.1 + a0)), (1, .int x1), (2, .int x4_17), (3, .int x3)]) [2, 3, 0, 4] rfl ?_
      exact t_X12_layParity_81 hKp X hr hlk hrec4 h
theorem t_X12_layParity_4 {l : Launch} {p : Program} {e : Env} {s : State} {m : MethodId} {args : Array Value} {below : List Frame} {meth : Method} {c : Code} {K : ix_Cx} (hKp : ix_Kp K) {n : Nat} {z : ix_Z} (X : ix_X p s m args c K cX12_layParity RX12 6) (hr : meth.sig.returnType = (none : Option Jvm.ClassFile.FieldType)) (hlk : meth.locks = false)  {a0 : Nat} {x1 : Int32} {d1 : ix_D2}  {x2 : Int32} {x3 : Int32} {d : ix_D2} (h : f_X12_layParity_4 n z  a0 x1 x2 x3 d = some d1) : ix_G p l e (ix_rm 2 46 0 0) s m args below meth c (MQ below (ix_Post K none (ix_w z d1)) args s 0 0 (ix_A K)) K 6 0 0 4 [(0, .ref (K.2.2.1 + a0)), (1, .int x1), (2, .int x2), (3, .int x3)] [] (ix_w z d) := by
  have key : ∀ (f : Nat) (x2 : Int32) (x3 : Int32) (d : ix_D2), ix_fix (b_X12_layParity_4 n z  a0 x1) (fun _ _ _ => none) f x2 x3 d = some d1 → ix_G p l e (ix_rm 2 46 0 0) s m args below meth c (MQ below (ix_Post K none (ix_w z d1)) args s 0 0 (ix_A K)) K 6 0 0 4 [(0, .ref (K.2.2.1 + a0)), (1, .int x1), (2, .int x2), (3, .int x3)] [] (ix_w z d) := by
    intro f
    induction f with
    | zero =>
      intro x2 x3 d h
      have h : (none : Option (ix_D2)) = some d1 := h
      cases h
    | succ f ih =>
      intro x2 x3 d h
      exact tb_X12_layParity_4 hKp X hr hlk (rec4 := ix_fix (b_X12_layParity_4 n z  a0 x1) (fun _ _ _ => none) f)  ih h
  exact key n x2 x3 d h
set_option maxRecDepth 20000 in
theorem c_X12_layParity {l : Launch} {K : ix_Cx} (hKp : ix_Kp K) {n : Nat} {z : ix_Z} {a0 : Nat} {x1 : Int32} {d : ix_D2} {d1 : ix_D2} (h : f_X12_layParity n z a0 x1 d = some d1) : ix_M l K yX12_layParity cX12_layParity 6 (none : Option Jvm.ClassFile.FieldType) 2 46 0 0 [.ref (K.2.2.1 + a0), .int x1] (ix_w z d) none (ix_w z d1) := by
  refine ix_met mf_X12_layParity hKp (Nat.le_of_ble_eq_true rfl) ?_
  intro p e s m args below meth c hr hlk hnm X
  have X : ix_X p s m args c K cX12_layParity RX12 6 := X
  show ix_G p l e (ix_rm 2 46 0 0) s m args below meth c (MQ below (ix_Post K none (ix_w z d1)) args s 0 0 (ix_A K)) K 6 0 0 0 [(0, .ref (K.2.2.1 + a0)), (1, .int x1)] [] (ix_w z d)
  unfold f_X12_layParity at h
  refine ix_iconst (v := 0) X (ix_tb_at tb_X12_layParity 0 rfl) (by decide) (pc1 := 1) rfl ?_
  refine ix_istore_n (i := 2) (L1 := [(2, .int 0), (0, .ref (K.2.2.1 + a0)), (1, .int x1)]) X (ix_tb_at tb_X12_layParity 1 rfl) rfl (Nat.le_of_ble_eq_true rfl) rfl (pc1 := 2) rfl ?_
  refine ix_iconst (v := 0) X (ix_tb_at tb_X12_layParity 2 rfl) (by decide) (pc1 := 3) rfl ?_
  refine ix_istore_n (i := 3) (L1 := [(3, .int 0), (2, .int 0), (0, .ref (K.2.2.1 + a0)), (1, .int x1)]) X (ix_tb_at tb_X12_layParity 3 rfl) rfl (Nat.le_of_ble_eq_true rfl) rfl (pc1 := 4) rfl ?_
  refine ix_sub (L1 := [(0, .ref (K.2.2.1 + a0)), (1, .int x1), (2, .int 0), (3, .int 0)]) [2, 3, 1, 0] rfl ?_
  exact t_X12_layParity_4 hKp X hr hlk  h
def tab_X12_keepRule : List (Nat × Instr × Nat) := [(0, .aload_n 0, 1), (1, .getfield 267, 3), (4, .ifCond .eq 27, 3), (7, .aload_n 0, 1), (8, .aload_n 0, 1), (9, .getfield 270, 3), (12, .putfield 246, 3), (15, .aload_n 0, 1), (16, .aload_n 0, 1), (17, .getfield 276, 3), (20, .putfield 273, 3), (23, .aload_n 0, 1), (24, .sipush (-1003), 3), (27, .invokevirtual 242, 3), (30, .ireturn, 1), (31, .aload_n 0, 1), (32, .getfield 264, 3), (35, .istore 4, 2), (37, .aload_n 0, 1), (38, .getfield 29, 3), (41, .iload 4, 2), (43, .iload_n 1, 1), (44, .iastore, 1), (45, .aload_n 0, 1), (46, .getfield 32, 3), (49, .iload 4, 2), (51, .iload_n 2, 1), (52, .iastore, 1), (53, .aload_n 0, 1), (54, .getfield 35, 3), (57, .iload 4, 2), (59, .iload_n 3, 1), (60, .bastore, 1), (61, .aload_n 0, 1), (62, .getfield 38, 3), (65, .iload 4, 2), (67, .aload_n 0, 1), (68, .getfield 292, 3), (71, .iastore, 1), (72, .iconst 0, 1), (73, .istore 5, 2), (75, .iload 5, 2), (77, .aload_n 0, 1), (78, .getfield 292, 3), (81, .if_icmp .ge 29, 3), (84, .aload_n 0, 1), (85, .getfield 41, 3), (88, .bipush 30, 2), (90, .iload 4, 2), (92, .imul, 1), (93, .iload 5, 2), (95, .iadd, 1), (96, .aload_n 0, 1), (97, .getfield 86, 3), (100, .iload 5, 2), (102, .iaload, 1), (103, .iastore, 1), (104, .iinc 5 1, 3), (107, .goto (-32), 3), (110, .aload_n 0, 1), (111, .getfield 44, 3), (114, .iload 4, 2), (116, .aload_n 0, 1), (117, .getfield 276, 3), (120, .iastore, 1), (121, .aload_n 0, 1), (122, .getfield 47, 3), (125, .iload 4, 2), (127, .aload_n 0, 1), (128, .getfield 273, 3), (131, .aload_n 0, 1), (132, .getfield 276, 3), (135, .isub, 1), (136, .iastore, 1), (137, .aload_n 0, 1), (138, .dup, 1), (139, .getfield 264, 3), (142, .iconst 1, 1), (143, .iadd, 1), (144, .putfield 264, 3), (147, .aload_n 0, 1), (148, .iconst 0, 1), (149, .putfield 249, 3), (152, .iload 4, 2), (154, .ireturn, 1)]
theorem tb_X12_keepRule : ix_tab cX12_keepRule tab_X12_keepRule := by
  unfold ix_tab
  decide +kernel
noncomputable def b_X12_keepRule_75 (n : Nat) (z : ix_Z)  (a0 : Nat) (x4 : Int32) (rec75 : Int32 → ix_D2 → Option (Int32 × ix_D2)) (x5 : Int32) (d : ix_D2) : Option (Int32 × ix_D2) :=
  ix_ck (ix_ok z [11] a0) (ix_if (d.1 a0 42 ≤ x5) (ix_bd1 (z.1 a0 17) (fun b_27 => ix_ck (ix_ix z 20 b_27 x4) (ix_lt (ix_di d b_27 (ix_n x4) (d.1 a0 38)) (fun d_30 => ix_bd1 (z.1 a0 18) (fun b_32 => ix_ck (ix_ix z 20 b_32 x4) (ix_lt (ix_di d_30 b_32 (ix_n x4) ((d_30.1 a0 23) - (d_30.1 a0 38))) (fun d_35 => ix_lt (ix_di d_35 a0 11 ((d_35.1 a0 11) + 1)) (fun d_37 => ix_lt (ix_di d_37 a0 57 0) (fun d_39 => some (x4, d_39)))))))))) (ix_bd1 (z.1 a0 16) (fun b_41 => ix_bd1 (z.1 a0 41) (fun b_43 => ix_ck (ix_ix z 20 b_43 x5) (ix_ck (ix_ix z 20 b_41 ((30 * x4) + x5)) (ix_lt (ix_di d b_41 (ix_n ((30 * x4) + x5)) (d.1 b_43 (ix_n x5))) (fun d_47 => ix_lt (x5 + 1) (fun x5_49 => rec75 x5_49 d_47))))))))
noncomputable def f_X12_keepRule_75 (n : Nat) (z : ix_Z)  (a0 : Nat) (x4 : Int32) (x5 : Int32) (d : ix_D2) : Option (Int32 × ix_D2) := ix_fix (b_X12_keepRule_75 n z  a0 x4) (fun _ _ => none) n x5 d
noncomputable def f_X12_keepRule (n : Nat) (z : ix_Z) (a0 : Nat) (x1 : Int32) (x2 : Int32) (x3 : Int32) (d : ix_D2) : Option (Int32 × ix_D2) :=
  ix_ck (ix_ok z [11] a0) (ix_if (d.1 a0 36 = 0) (ix_lt (d.1 a0 11) (fun x4_3 => ix_bd1 (z.1 a0 12) (fun b_5 => ix_ck (ix_ix z 20 b_5 x4_3) (ix_lt (ix_di d b_5 (ix_n x4_3) x1) (fun d_8 => ix_bd1 (z.1 a0 13) (fun b_10 => ix_ck (ix_ix z 20 b_10 x4_3) (ix_lt (ix_di d_8 b_10 (ix_n x4_3) x2) (fun d_13 => ix_bd1 (z.1 a0 14) (fun b_15 => ix_ck (ix_ix z 22 b_15 x4_3) (ix_lt (ix_di d_13 b_15 (ix_n x4_3) (vp_nar .boolean x3)) (fun d_18 => ix_bd1 (z.1 a0 15) (fun b_20 => ix_ck (ix_ix z 20 b_20 x4_3) (ix_lt (ix_di d_18 b_20 (ix_n x4_3) (d_18.1 a0 42)) (fun d_23 => f_X12_keepRule_75 n z  a0 x4_3 0 d_23)))))))))))))) (ix_lt (ix_di d a0 1 (d.1 a0 37)) (fun d_51 => ix_lt (ix_di d_51 a0 23 (d_51.1 a0 38)) (fun d_53 => ix_bd2 (f_X12_fail n z a0 ((-1003)) d_53) (fun r_57 d_55 => some (r_57, d_55))))))
set_option maxRecDepth 20000 in
theorem tb_X12_keepRule_75 {l : Launch} {p : Program} {e : Env} {s : State} {m : MethodId} {args : Array Value} {below : List Frame} {meth : Method} {c : Code} {K : ix_Cx} (hKp : ix_Kp K) {n : Nat} {z : ix_Z} (X : ix_X p s m args c K cX12_keepRule RX12 6) (hr : meth.sig.returnType = (some .int)) (hlk : meth.locks = false)  {a0 : Nat} {x4 : Int32} {rec75 : Int32 → ix_D2 → Option (Int32 × ix_D2)} {r : Int32} {d1 : ix_D2} (hrec75 : ∀ (x5 : Int32) (d : ix_D2), rec75 x5 d = some (r, d1) → ix_G p l e (ix_rm 1 21 0 0) s m args below meth c (MQ below (ix_Post K (some (.int r)) (ix_w z d1)) args s 0 0 (ix_A K)) K 6 0 0 75 [(0, .ref (K.2.2.1 + a0)), (4, .int x4), (5, .int x5)] [] (ix_w z d)) {x5 : Int32} {d : ix_D2} (h : b_X12_keepRule_75 n z  a0 x4 rec75 x5 d = some (r, d1)) : ix_G p l e (ix_rm 1 21 0 0) s m args below meth c (MQ below (ix_Post K (some (.int r)) (ix_w z d1)) args s 0 0 (ix_A K)) K 6 0 0 75 [(0, .ref (K.2.2.1 + a0)), (4, .int x4), (5, .int x5)] [] (ix_w z d) := by
  unfold b_X12_keepRule_75 at h
  refine ix_iload (i := 5) (j := 2) X (ix_tb_at tb_X12_keepRule 41 rfl) rfl (pc1 := 77) rfl ?_
  refine ix_aload_n (i := 0) (j := 0) X (ix_tb_at tb_X12_keepRule 42 rfl) rfl rfl (pc1 := 78) rfl ?_
  obtain ⟨k_25, h⟩ := ix_ck_some h
  refine iz_getI X fl_RX12_292 k_25 (ix_tb_at tb_X12_keepRule 43 rfl) (pc1 := 81) rfl ?_
  refine ix_icmp_ge (tgt := 110) X (ix_tb_at tb_X12_keepRule 44 rfl) (by decide) (pc1 := 84) rfl (fun q_26 => ?_) (fun q_26 => ?_)
  · have h := ix_ift q_26 h
    refine ix_aload_n (i := 0) (j := 0) X (ix_tb_at tb_X12_keepRule 59 rfl) rfl rfl (pc1 := 111) rfl ?_
    obtain ⟨b_27, q_28, h⟩ := ix_bd1_ex h
    refine iz_getR X fl_RX12_44 k_25 q_28 (ix_tb_at tb_X12_keepRule 60 rfl) (pc1 := 114) rfl ?_
    refine ix_iload (i := 4) (j := 1) X (ix_tb_at tb_X12_keepRule 61 rfl) rfl (pc1 := 116) rfl ?_
    refine ix_aload_n (i := 0) (j := 0) X (ix_tb_at tb_X12_keepRule 62 rfl) rfl rfl (pc1 := 117) rfl ?_
    refine iz_getI X fl_RX12_276 k_25 (ix_tb_at tb_X12_keepRule 63 rfl) (pc1 := 120) rfl ?_
    obtain ⟨k_29, h⟩ := ix_ck_some h
    obtain ⟨d_30, e_31, h⟩ := ix_lt_ex h
    refine iz_iast X k_29 (ix_tb_at tb_X12_keepRule 64 rfl) e_31 (pc1 := 121) rfl ?_
    refine ix_aload_n (i := 0) (j := 0) X (ix_tb_at tb_X12_keepRule 65 rfl) rfl rfl (pc1 := 122) rfl ?_
    obtain ⟨b_32, q_33, h⟩ := ix_bd1_ex h
    refine iz_getR X fl_RX12_47 k_25 q_33 (ix_tb_at tb_X12_keepRule 66 rfl) (pc1 := 125) rfl ?_
    refine ix_iload (i := 4) (j := 1) X (ix_tb_at tb_X12_keepRule 67 rfl) rfl (pc1 := 127) rfl ?_
    refine ix_aload_n (i := 0) (j := 0) X (ix_tb_at tb_X12_keepRule 68 rfl) rfl rfl (pc1 := 128) rfl ?_
    refine iz_getI X fl_RX12_273 k_25 (ix_tb_at tb_X12_keepRule 69 rfl) (pc1 := 131) rfl ?_
    refine ix_aload_n (i := 0) (j := 0) X (ix_tb_at tb_X12_keepRule 70 rfl) rfl rfl (pc1 := 132) rfl ?_
    refine iz_getI X fl_RX12_276 k_25 (ix_tb_at tb_X12_keepRule 71 rfl) (pc1 := 135) rfl ?_
    refine ix_isub X (ix_tb_at tb_X12_keepRule 72 rfl) (pc1 := 136) rfl ?_
    obtain ⟨k_34, h⟩ := ix_ck_some h
    obtain ⟨d_35, e_36, h⟩ := ix_lt_ex h
    refine iz_iast X k_34 (ix_tb_at tb_X12_keepRule 73 rfl) e_36 (pc1 := 137) rfl ?_
    refine ix_aload_n (i := 0) (j := 0) X (ix_tb_at tb_X12_keepRule 74 rfl) rfl rfl (pc1 := 138) rfl ?_
    refine ix_dup X (ix_tb_at tb_X12_keepRule 75 rfl) rfl (pc1 := 139) rfl ?_
    refine iz_getI X fl_RX12_264 k_25 (ix_tb_at tb_X12_keepRule 76 rfl) (pc1 := 142) rfl ?_
    refine ix_iconst (v := 1) X (ix_tb_at tb_X12_keepRule 77 rfl) (by decide) (pc1 := 143) rfl ?_
    refine ix_iadd X (ix_tb_at tb_X12_keepRule 78 rfl) (pc1 := 144) rfl ?_
    obtain ⟨d_37, e_38, h⟩ := ix_lt_ex h
    refine iz_putI X fp_RX12_264 k_25 (ix_tb_at tb_X12_keepRule 79 rfl) e_38 (pc1 := 147) rfl ?_
    refine ix_aload_n (i := 0) (j := 0) X (ix_tb_at tb_X12_keepRule 80 rfl) rfl rfl (pc1 := 148) rfl ?_
    refine ix_iconst (v := 0) X (ix_tb_at tb_X12_keepRule 81 rfl) (by decide) (pc1 := 149) rfl ?_
    obtain ⟨d_39, e_40, h⟩ := ix_lt_ex h
    refine iz_putZ X fp_RX12_249 k_25 (ix_tb_at tb_X12_keepRule 82 rfl) (by decide) e_40 (pc1 := 152) rfl ?_
    refine ix_iload (i := 4) (j := 1) X (ix_tb_at tb_X12_keepRule 83 rfl) rfl (pc1 := 154) rfl ?_
    exact ix_iret X hr hlk (ix_r2 (f := fun r => some (.int r)) (g := ix_w z) h) (ix_tb_at tb_X12_keepRule 84 rfl)
  · have h := ix_iff q_26 h
    refine ix_aload_n (i := 0) (j := 0) X (ix_tb_at tb_X12_keepRule 45 rfl) rfl rfl (pc1 := 85) rfl ?_
    obtain ⟨b_41, q_42, h⟩ := ix_bd1_ex h
    refine iz_getR X fl_RX12_41 k_25 q_42 (ix_tb_at tb_X12_keepRule 46 rfl) (pc1 := 88) rfl ?_
    refine ix_bipush (v := 30) X (ix_tb_at tb_X12_keepRule 47 rfl) (by decide) (pc1 := 90) rfl ?_
    refine ix_iload (i := 4) (j := 1) X (ix_tb_at tb_X12_keepRule 48 rfl) rfl (pc1 := 92) rfl ?_
    refine ix_imul X (ix_tb_at tb_X12_keepRule 49 rfl) (pc1 := 93) rfl ?_
    refine ix_iload (i := 5) (j := 2) X (ix_tb_at tb_X12_keepRule 50 rfl) rfl (pc1 := 95) rfl ?_
    refine ix_iadd X (ix_tb_at tb_X12_keepRule 51 rfl) (pc1 := 96) rfl ?_
    refine ix_aload_n (i := 0) (j := 0) X (ix_tb_at tb_X12_keepRule 52 rfl) rfl rfl (pc1 := 97) rfl ?_
    obtain ⟨b_43, q_44, h⟩ := ix_bd1_ex h
    refine iz_getR X fl_RX12_86 k_25 q_44 (ix_tb_at tb_X12_keepRule 53 rfl) (pc1 := 100) rfl ?_
    refine ix_iload (i := 5) (j := 2) X (ix_tb_at tb_X12_keepRule 54 rfl) rfl (pc1 := 102) rfl ?_
    obtain ⟨k_45, h⟩ := ix_ck_some h
    refine iz_iald X k_45 (ix_tb_at tb_X12_keepRule 55 rfl) (pc1 := 103) rfl ?_
    obtain ⟨k_46, h⟩ := ix_ck_some h
    obtain ⟨d_47, e_48, h⟩ := ix_lt_ex h
    refine iz_iast X k_46 (ix_tb_at tb_X12_keepRule 56 rfl) e_48 (pc1 := 104) rfl ?_
    obtain ⟨x5_49, e_50, h⟩ := ix_lt_ex h
    refine ix_iinc (i := 5) (j := 2) (v := x5_49) (L1 := [(5, .int x5_49), (0, .ref (K.2.2.1 + a0)), (4, .int x4)]) X (ix_tb_at tb_X12_keepRule 57 rfl) rfl (by rw [oi_1]; exact e_50.symm) (Nat.le_of_ble_eq_true rfl) rfl (pc1 := 107) rfl ?_
    refine ix_goto (tgt := 75) X (ix_tb_at tb_X12_keepRule 58 rfl) (by decide) ?_
    refine ix_sub (L1 := [(0, .ref (K.2.2.1 + a0)), (4, .int x4), (5, .int x5_49)]) [1, 2, 0] rfl ?_
    exact hrec75 x5_49 d_47 h
theorem t_X12_keepRule_75 {l : Launch} {p : Program} {e : Env} {s : State} {m : MethodId} {args : Array Value} {below : List Frame} {meth : Method} {c : Code} {K : ix_Cx} (hKp : ix_Kp K) {n : Nat} {z : ix_Z} (X : ix_X p s m args c K cX12_keepRule RX12 6) (hr : meth.sig.returnType = (some .int)) (hlk : meth.locks = false)  {a0 : Nat} {x4 : Int32} {r : Int32} {d1 : ix_D2}  {x5 : Int32} {d : ix_D2} (h : f_X12_keepRule_75 n z  a0 x4 x5 d = some (r, d1)) : ix_G p l e (ix_rm 1 21 0 0) s m args below meth c (MQ below (ix_Post K (some (.int r)) (ix_w z d1)) args s 0 0 (ix_A K)) K 6 0 0 75 [(0, .ref (K.2.2.1 + a0)), (4, .int x4), (5, .int x5)] [] (ix_w z d) := by
  have key : ∀ (f : Nat) (x5 : Int32) (d : ix_D2), ix_fix (b_X12_keepRule_75 n z  a0 x4) (fun _ _ => none) f x5 d = some (r, d1) → ix_G p l e (ix_rm 1 21 0 0) s m args below meth c (MQ below (ix_Post K (some (.int r)) (ix_w z d1)) args s 0 0 (ix_A K)) K 6 0 0 75 [(0, .ref (K.2.2.1 + a0)), (4, .int x4), (5, .int x5)] [] (ix_w z d) := by
    intro f
    induction f with
    | zero =>
      intro x5 d h
      have h : (none : Option (Int32 × ix_D2)) = some (r, d1) := h
      cases h
    | succ f ih =>
      intro x5 d h
      exact tb_X12_keepRule_75 hKp X hr hlk (rec75 := ix_fix (b_X12_keepRule_75 n z  a0 x4) (fun _ _ => none) f)  ih h
  exact key n x5 d h
set_option maxRecDepth 20000 in
theorem c_X12_keepRule {l : Launch} {K : ix_Cx} (hKp : ix_Kp K) {n : Nat} {z : ix_Z} {a0 : Nat} {x1 : Int32} {x2 : Int32} {x3 : Int32} {d : ix_D2} {r : Int32} {d1 : ix_D2} (h : f_X12_keepRule n z a0 x1 x2 x3 d = some (r, d1)) : ix_M l K yX12_keepRule cX12_keepRule 6 (some .int) 1 21 0 0 [.ref (K.2.2.1 + a0), .int x1, .int x2, .int x3] (ix_w z d) (some (.int r)) (ix_w z d1) := by
  refine ix_met mf_X12_keepRule hKp (Nat.le_of_ble_eq_true rfl) ?_
  intro p e s m args below meth c hr hlk hnm X
  have X : ix_X p s m args c K cX12_keepRule RX12 6 := X
  show ix_G p l e (ix_rm 1 21 0 0) s m args below meth c (MQ below (ix_Post K (some (.int r)) (ix_w z d1)) args s 0 0 (ix_A K)) K 6 0 0 0 [(0, .ref (K.2.2.1 + a0)), (1, .int x1), (2, .int x2), (3, .int x3)] [] (ix_w z d)
  unfold f_X12_keepRule at h
  refine ix_aload_n (i := 0) (j := 0) X (ix_tb_at tb_X12_keepRule 0 rfl) rfl rfl (pc1 := 1) rfl ?_
  obtain ⟨k_1, h⟩ := ix_ck_some h
  refine iz_getI X fl_RX12_267 k_1 (ix_tb_at tb_X12_keepRule 1 rfl) (pc1 := 4) rfl ?_
  refine ix_if_eq (tgt := 31) X (ix_tb_at tb_X12_keepRule 2 rfl) (by decide) (pc1 := 7) rfl (fun q_2 => ?_) (fun q_2 => ?_)
  · have h := ix_ift q_2 h
    refine ix_aload_n (i := 0) (j := 0) X (ix_tb_at tb_X12_keepRule 15 rfl) rfl rfl (pc1 := 32) rfl ?_
    refine iz_getI X fl_RX12_264 k_1 (ix_tb_at tb_X12_keepRule 16 rfl) (pc1 := 35) rfl ?_
    obtain ⟨x4_3, e_4, h⟩ := ix_lt_ex h
    refine ix_nmi e_4 ?_
    refine ix_istore (i := 4) (L1 := [(4, .int x4_3), (0, .ref (K.2.2.1 + a0)), (1, .int x1), (2, .int x2), (3, .int x3)]) X (ix_tb_at tb_X12_keepRule 17 rfl) (Nat.le_of_ble_eq_true rfl) rfl (pc1 := 37) rfl ?_
    refine ix_aload_n (i := 0) (j := 1) X (ix_tb_at tb_X12_keepRule 18 rfl) rfl rfl (pc1 := 38) rfl ?_
    obtain ⟨b_5, q_6, h⟩ := ix_bd1_ex h
    refine iz_getR X fl_RX12_29 k_1 q_6 (ix_tb_at tb_X12_keepRule 19 rfl) (pc1 := 41) rfl ?_
    refine ix_iload (i := 4) (j := 0) X (ix_tb_at tb_X12_keepRule 20 rfl) rfl (pc1 := 43) rfl ?_
    refine ix_iload_n (i := 1) (j := 2) X (ix_tb_at tb_X12_keepRule 21 rfl) rfl rfl (pc1 := 44) rfl ?_
    obtain ⟨k_7, h⟩ := ix_ck_some h
    obtain ⟨d_8, e_9, h⟩ := ix_lt_ex h
    refine iz_iast X k_7 (ix_tb_at tb_X12_keepRule 22 rfl) e_9 (pc1 := 45) rfl ?_
    refine ix_aload_n (i := 0) (j := 1) X (ix_tb_at tb_X12_keepRule 23 rfl) rfl rfl (pc1 := 46) rfl ?_
    obtain ⟨b_10, q_11, h⟩ := ix_bd1_ex h
    refine iz_getR X fl_RX12_32 k_1 q_11 (ix_tb_at tb_X12_keepRule 24 rfl) (pc1 := 49) rfl ?_
    refine ix_iload (i := 4) (j := 0) X (ix_tb_at tb_X12_keepRule 25 rfl) rfl (pc1 := 51) rfl ?_
    refine ix_iload_n (i := 2) (j := 3) X (ix_tb_at tb_X12_keepRule 26 rfl) rfl rfl (pc1 := 52) rfl ?_
    obtain ⟨k_12, h⟩ := ix_ck_some h
    obtain ⟨d_13, e_14, h⟩ := ix_lt_ex h
    refine iz_iast X k_12 (ix_tb_at tb_X12_keepRule 27 rfl) e_14 (pc1 := 53) rfl ?_
    refine ix_aload_n (i := 0) (j := 1) X (ix_tb_at tb_X12_keepRule 28 rfl) rfl rfl (pc1 := 54) rfl ?_
    obtain ⟨b_15, q_16, h⟩ := ix_bd1_ex h
    refine iz_getR X fl_RX12_35 k_1 q_16 (ix_tb_at tb_X12_keepRule 29 rfl) (pc1 := 57) rfl ?_
    refine ix_iload (i := 4) (j := 0) X (ix_tb_at tb_X12_keepRule 30 rfl) rfl (pc1 := 59) rfl ?_
    refine ix_iload_n (i := 3) (j := 4) X (ix_tb_at tb_X12_keepRule 31 rfl) rfl rfl (pc1 := 60) rfl ?_
    obtain ⟨k_17, h⟩ := ix_ck_some h
    obtain ⟨d_18, e_19, h⟩ := ix_lt_ex h
    refine iz_zast X k_17 (ix_tb_at tb_X12_keepRule 32 rfl) e_19 (pc1 := 61) rfl ?_
    refine ix_aload_n (i := 0) (j := 1) X (ix_tb_at tb_X12_keepRule 33 rfl) rfl rfl (pc1 := 62) rfl ?_
    obtain ⟨b_20, q_21, h⟩ := ix_bd1_ex h
    refine iz_getR X fl_RX12_38 k_1 q_21 (ix_tb_at tb_X12_keepRule 34 rfl) (pc1 := 65) rfl ?_
    refine ix_iload (i := 4) (j := 0) X (ix_tb_at tb_X12_keepRule 35 rfl) rfl (pc1 := 67) rfl ?_
    refine ix_aload_n (i := 0) (j := 1) X (ix_tb_at tb_X12_keepRule 36 rfl) rfl rfl (pc1 := 68) rfl ?_
    refine iz_getI X fl_RX12_292 k_1 (ix_tb_at tb_X12_keepRule 37 rfl) (pc1 := 71) rfl ?_
    obtain ⟨k_22, h⟩ := ix_ck_some h
    obtain ⟨d_23, e_24, h⟩ := ix_lt_ex h
    refine iz_iast X k_22 (ix_tb_at tb_X12_keepRule 38 rfl) e_24 (pc1 := 72) rfl ?_
    refine ix_iconst (v := 0) X (ix_tb_at tb_X12_keepRule 39 rfl) (by decide) (pc1 := 73) rfl ?_
    refine ix_istore (i := 5) (L1 := [(5, .int 0), (4, .int x4_3), (0, .ref (K.2.2.1 + a0)), (1, .int x1), (2, .int x2), (3, .int x3)]) X (ix_tb_at tb_X12_keepRule 40 rfl) (Nat.le_of_ble_eq_true rfl) rfl (pc1 := 75) rfl ?_
    refine ix_sub (L1 := [(0, .ref (K.2.2.1 + a0)), (4, .int x4_3), (5, .int 0)]) [2, 1, 0] rfl ?_
    exact t_X12_keepRule_75 hKp X hr hlk  h
  · have h := ix_iff q_2 h
    refine ix_aload_n (i := 0) (j := 0) X (ix_tb_at tb_X12_keepRule 3 rfl) rfl rfl (pc1 := 8) rfl ?_
    refine ix_aload_n (i := 0) (j := 0) X (ix_tb_at tb_X12_keepRule 4 rfl) rfl rfl (pc1 := 9) rfl ?_
    refine iz_getI X fl_RX12_270 k_1 (ix_tb_at tb_X12_keepRule 5 rfl) (pc1 := 12) rfl ?_
    obtain ⟨d_51, e_52, h⟩ := ix_lt_ex h
    refine iz_putI X fp_RX12_246 k_1 (ix_tb_at tb_X12_keepRule 6 rfl) e_52 (pc1 := 15) rfl ?_
    refine ix_aload_n (i := 0) (j := 0) X (ix_tb_at tb_X12_keepRule 7 rfl) rfl rfl (pc1 := 16) rfl ?_
    refine ix_aload_n (i := 0) (j := 0) X (ix_tb_at tb_X12_keepRule 8 rfl) rfl rfl (pc1 := 17) rfl ?_
    refine iz_getI X fl_RX12_276 k_1 (ix_tb_at tb_X12_keepRule 9 rfl) (pc1 := 20) rfl ?_
    obtain ⟨d_53, e_54, h⟩ := ix_lt_ex h
    refine iz_putI X fp_RX12_273 k_1 (ix_tb_at tb_X12_keepRule 10 rfl) e_54 (pc1 := 23) rfl ?_
    refine ix_aload_n (i := 0) (j := 0) X (ix_tb_at tb_X12_keepRule 11 rfl) rfl rfl (pc1 := 24) rfl ?_
    refine ix_sipush (v := (-1003)) X (ix_tb_at tb_X12_keepRule 12 rfl) (by decide) (pc1 := 27) rfl ?_
    obtain ⟨r_57, d_55, h_56, h⟩ := ix_bd2_ex h
    refine ix_callV (As := [.int ((-1003))]) (rest := []) (ci := 11) (T := TX12) (nf := 116) X mf_X12_fail mi_X12_fail ms_X12_fail rfl (Nat.le_of_ble_eq_true rfl) ml_RX12_242 ⟨Nat.le_of_ble_eq_true rfl, Nat.le_of_ble_eq_true rfl⟩ ⟨Nat.le_of_ble_eq_true rfl, Nat.le_of_ble_eq_true rfl⟩ rfl (Nat.le_of_ble_eq_true rfl) (ix_tb_at tb_X12_keepRule 13 rfl) ⟨k_1.1, List.mem_singleton.mp k_1.2⟩ (c_X12_fail hKp h_56) rfl (pc1 := 30) rfl ?_
    exact ix_iret X hr hlk (ix_r2 (f := fun r => some (.int r)) (g := ix_w z) h) (ix_tb_at tb_X12_keepRule 14 rfl)

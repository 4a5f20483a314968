theorem mf_X10_greatest : ix_mf yX10_greatest cX10_greatest 2 (some .int) 1 := ⟨ix_wm (i := 1001) (by decide +kernel), ix_wm (i := 14) (by decide +kernel), ⟨by decide +kernel, by decide +kernel⟩, by decide +kernel, by decide +kernel⟩
theorem mi_X10_greatest : Cond.instanceMethod yX10_greatest ∈ lw_tbl := ix_wm (i := 1000) (by decide +kernel)
theorem fl_RX10_23 : ix_flb 825 0 false RX10 23 "ClauseCourt$Told" [9] 3 2 = true := by decide +kernel
theorem ml_RX10_104 : tables_1[1084]? = some (Cond.methodLink RX10 104 yX4_writeByte) := by decide +kernel
theorem mf_X10_write : ix_mf yX10_write cX10_write 3 (none : Option Jvm.ClassFile.FieldType) 1 := ⟨ix_wm (i := 1083) (by decide +kernel), ix_wm (i := 14) (by decide +kernel), ⟨by decide +kernel, by decide +kernel⟩, by decide +kernel, by decide +kernel⟩
theorem mi_X10_write : Cond.instanceMethod yX10_write ∈ lw_tbl := ix_wm (i := 1082) (by decide +kernel)
theorem fp_RX11_402 : ix_fpb 362 0 false RX11 402 "ClauseCourt" [10] 17 "I" false = true := by decide +kernel
theorem mf_X11_refuse : ix_mf yX11_refuse cX11_refuse 2 (some .int) 1 := ⟨ix_wm (i := 407) (by decide +kernel), ix_wm (i := 1) (by decide +kernel), ⟨by decide +kernel, by decide +kernel⟩, by decide +kernel, by decide +kernel⟩
theorem mi_X11_refuse : Cond.instanceMethod yX11_refuse ∈ lw_tbl := ix_wm (i := 406) (by decide +kernel)
theorem ms_X11_refuse : Cond.selects yX11_refuse.cls yX11_refuse yX11_refuse ∈ lw_tbl := List.mem_append_left _ (List.mem_of_getElem? (i := 0) (by decide +kernel))
theorem ml_RX11_73 : tables_1[404]? = some (Cond.methodLink RX11 73 yX11_refuse) := by decide +kernel
theorem fl_RX11_28 : ix_flb 348 0 false RX11 28 "ClauseCourt" [10] 3 2 = true := by decide +kernel
theorem fl_RX11_77 : ix_flb 145 0 true RX11 77 "ClauseCourt$Case" [2] 5 0 = true := by decide +kernel
theorem fp_RX11_77 : ix_fpb 145 0 true RX11 77 "ClauseCourt$Case" [2] 5 "I" false = true := by decide +kernel
theorem fp_RX11_80 : ix_fpb 359 0 false RX11 80 "ClauseCourt" [10] 14 "Z" false = true := by decide +kernel
theorem mf_X11_names : ix_mf yX11_names cX11_names 2 (some .int) 1 := ⟨ix_wm (i := 403) (by decide +kernel), ix_wm (i := 1) (by decide +kernel), ⟨by decide +kernel, by decide +kernel⟩, by decide +kernel, by decide +kernel⟩
theorem mi_X11_names : Cond.instanceMethod yX11_names ∈ lw_tbl := ix_wm (i := 401) (by decide +kernel)
theorem mf_X11_isPaper : ix_mf yX11_isPaper cX11_isPaper 1 (some .boolean) 1 := ⟨ix_wm (i := 414) (by decide +kernel), ix_wm (i := 1) (by decide +kernel), ⟨by decide +kernel, by decide +kernel⟩, by decide +kernel, by decide +kernel⟩
theorem st_X11_isPaper : Cond.static yX11_isPaper ∈ lw_tbl := ix_wm (i := 413) (by decide +kernel)
theorem ml_RX11_84 : tables_1[412]? = some (Cond.methodLink RX11 84 yX11_isPaper) := by decide +kernel
theorem fl_RX11_11 : ix_flb 345 0 false RX11 11 "ClauseCourt" [10] 0 2 = true := by decide +kernel
theorem ml_RX11_67 : tables_1[344]? = some (Cond.methodLink RX11 67 yJ7_fill_53178) := by decide +kernel
theorem fl_RX11_14 : ix_flb 346 0 false RX11 14 "ClauseCourt" [10] 1 2 = true := by decide +kernel
theorem mf_X11_row : ix_mf yX11_row cX11_row 3 (some .int) 2 := ⟨ix_wm (i := 411) (by decide +kernel), ix_wm (i := 1) (by decide +kernel), ⟨by decide +kernel, by decide +kernel⟩, by decide +kernel, by decide +kernel⟩
theorem mi_X11_row : Cond.instanceMethod yX11_row ∈ lw_tbl := ix_wm (i := 409) (by decide +kernel)
theorem mf_X11_drop : ix_mf yX11_drop cX11_drop 2 (some .int) 1 := ⟨ix_wm (i := 418) (by decide +kernel), ix_wm (i := 1) (by decide +kernel), ⟨by decide +kernel, by decide +kernel⟩, by decide +kernel, by decide +kernel⟩
theorem mi_X11_drop : Cond.instanceMethod yX11_drop ∈ lw_tbl := ix_wm (i := 416) (by decide +kernel)
theorem mf_X11_lookForRow : ix_mf yX11_lookForRow cX11_lookForRow 2 (some .int) 1 := ⟨ix_wm (i := 430) (by decide +kernel), ix_wm (i := 1) (by decide +kernel), ⟨by decide +kernel, by decide +kernel⟩, by decide +kernel, by decide +kernel⟩
theorem mi_X11_lookForRow : Cond.instanceMethod yX11_lookForRow ∈ lw_tbl := ix_wm (i := 429) (by decide +kernel)
theorem ms_X11_lookForRow : Cond.selects yX11_lookForRow.cls yX11_lookForRow yX11_lookForRow ∈ lw_tbl := List.mem_append_left _ (List.mem_of_getElem? (i := 2) (by decide +kernel))
theorem ml_RX11_92 : tables_1[427]? = some (Cond.methodLink RX11 92 yX11_lookForRow) := by decide +kernel
theorem mf_X11_lookForPlace : ix_mf yX11_lookForPlace cX11_lookForPlace 4 (some .int) 2 := ⟨ix_wm (i := 426) (by decide +kernel), ix_wm (i := 1) (by decide +kernel), ⟨by decide +kernel, by decide +kernel⟩, by decide +kernel, by decide +kernel⟩
theorem mi_X11_lookForPlace : Cond.instanceMethod yX11_lookForPlace ∈ lw_tbl := ix_wm (i := 425) (by decide +kernel)
theorem ms_X11_lookForPlace : Cond.selects yX11_lookForPlace.cls yX11_lookForPlace yX11_lookForPlace ∈ lw_tbl := List.mem_append_left _ (List.mem_of_getElem? (i := 1) (by decide +kernel))
theorem ml_RX11_88 : tables_1[423]? = some (Cond.methodLink RX11 88 yX11_lookForPlace) := by decide +kernel
theorem mf_X11_put : ix_mf yX11_put cX11_put 5 (some .int) 3 := ⟨ix_wm (i := 422) (by decide +kernel), ix_wm (i := 1) (by decide +kernel), ⟨by decide +kernel, by decide +kernel⟩, by decide +kernel, by decide +kernel⟩
theorem mi_X11_put : Cond.instanceMethod yX11_put ∈ lw_tbl := ix_wm (i := 420) (by decide +kernel)
theorem mf_X11_get : ix_mf yX11_get cX11_get 4 (some .long) 2 := ⟨ix_wm (i := 434) (by decide +kernel), ix_wm (i := 1) (by decide +kernel), ⟨by decide +kernel, by decide +kernel⟩, by decide +kernel, by decide +kernel⟩
theorem mi_X11_get : Cond.instanceMethod yX11_get ∈ lw_tbl := ix_wm (i := 432) (by decide +kernel)
theorem ml_RX11_97 : tables_1[440]? = some (Cond.methodLink RX11 97 arraycopyName) := by decide +kernel
theorem mf_X11_copy : ix_mf yX11_copy cX11_copy 6 (some .int) 5 := ⟨ix_wm (i := 439) (by decide +kernel), ix_wm (i := 1) (by decide +kernel), ⟨by decide +kernel, by decide +kernel⟩, by decide +kernel, by decide +kernel⟩
theorem mi_X11_copy : Cond.instanceMethod yX11_copy ∈ lw_tbl := ix_wm (i := 437) (by decide +kernel)
theorem mf_X11_cut : ix_mf yX11_cut cX11_cut 3 (some .int) 2 := ⟨ix_wm (i := 446) (by decide +kernel), ix_wm (i := 1) (by decide +kernel), ⟨by decide +kernel, by decide +kernel⟩, by decide +kernel, by decide +kernel⟩
theorem mi_X11_cut : Cond.instanceMethod yX11_cut ∈ lw_tbl := ix_wm (i := 444) (by decide +kernel)
theorem fl_RX11_21 : ix_flb 347 0 false RX11 21 "ClauseCourt" [10] 2 2 = true := by decide +kernel
theorem ms_X4_takesBytes : Cond.selects yX4_takesBytes.cls yX4_takesBytes yX4_takesBytes ∈ lw_tbl := ix_wm (i := 453) (by decide +kernel)
theorem ml_RX11_103 : tables_1[451]? = some (Cond.methodLink RX11 103 yX4_takesBytes) := by decide +kernel
theorem ms_X4_takeBytes : Cond.selects yX4_takeBytes.cls yX4_takeBytes yX4_takeBytes ∈ lw_tbl := ix_wm (i := 457) (by decide +kernel)
theorem ml_RX11_106 : tables_1[455]? = some (Cond.methodLink RX11 106 yX4_takeBytes) := by decide +kernel
theorem mf_X11_feed : ix_mf yX11_feed cX11_feed 4 (some .int) 2 := ⟨ix_wm (i := 450) (by decide +kernel), ix_wm (i := 1) (by decide +kernel), ⟨by decide +kernel, by decide +kernel⟩, by decide +kernel, by decide +kernel⟩
theorem mi_X11_feed : Cond.instanceMethod yX11_feed ∈ lw_tbl := ix_wm (i := 448) (by decide +kernel)
theorem ms_X4_emptyTape : Cond.selects yX4_emptyTape.cls yX4_emptyTape yX4_emptyTape ∈ lw_tbl := ix_wm (i := 465) (by decide +kernel)
theorem ml_RX11_110 : tables_1[463]? = some (Cond.methodLink RX11 110 yX4_emptyTape) := by decide +kernel
theorem mf_X11_wipe : ix_mf yX11_wipe cX11_wipe 1 (some .int) 0 := ⟨ix_wm (i := 462) (by decide +kernel), ix_wm (i := 1) (by decide +kernel), ⟨by decide +kernel, by decide +kernel⟩, by decide +kernel, by decide +kernel⟩
theorem mi_X11_wipe : Cond.instanceMethod yX11_wipe ∈ lw_tbl := ix_wm (i := 460) (by decide +kernel)
theorem ml_RX11_235 : tables_1[475]? = some (Cond.methodLink RX11 235 yX2_look) := by decide +kernel
theorem mf_X11_lookForItems : ix_mf yX11_lookForItems cX11_lookForItems 4 (some .int) 1 := ⟨ix_wm (i := 474) (by decide +kernel), ix_wm (i := 1) (by decide +kernel), ⟨by decide +kernel, by decide +kernel⟩, by decide +kernel, by decide +kernel⟩
theorem mi_X11_lookForItems : Cond.instanceMethod yX11_lookForItems ∈ lw_tbl := ix_wm (i := 473) (by decide +kernel)
theorem fl_RX11_281 : ix_flb 350 0 false RX11 281 "ClauseCourt" [10] 5 0 = true := by decide +kernel
theorem fl_RX11_34 : ix_flb 349 0 false RX11 34 "ClauseCourt" [10] 4 2 = true := by decide +kernel
theorem mf_X11_ruleAt : ix_mf yX11_ruleAt cX11_ruleAt 2 (some (.object "ClauseCourt$Rule")) 1 := ⟨ix_wm (i := 845) (by decide +kernel), ix_wm (i := 1) (by decide +kernel), ⟨by decide +kernel, by decide +kernel⟩, by decide +kernel, by decide +kernel⟩
theorem mi_X11_ruleAt : Cond.instanceMethod yX11_ruleAt ∈ lw_tbl := ix_wm (i := 844) (by decide +kernel)
theorem ms_X11_ruleAt : Cond.selects yX11_ruleAt.cls yX11_ruleAt yX11_ruleAt ∈ lw_tbl := List.mem_append_left _ (List.mem_of_getElem? (i := 17) (by decide +kernel))
theorem ml_RX11_154 : tables_1[842]? = some (Cond.methodLink RX11 154 yX11_ruleAt) := by decide +kernel
theorem ml_RX11_158 : tables_1[846]? = some (Cond.methodLink RX11 158 (⟨"ClauseCourt$Rule", "kindNumber", "()I"⟩ : MethodName)) := by decide +kernel
theorem mf_X11_kind : ix_mf yX11_kind cX11_kind 3 (some .int) 1 := ⟨ix_wm (i := 841) (by decide +kernel), ix_wm (i := 1) (by decide +kernel), ⟨by decide +kernel, by decide +kernel⟩, by decide +kernel, by decide +kernel⟩
theorem mi_X11_kind : Cond.instanceMethod yX11_kind ∈ lw_tbl := ix_wm (i := 839) (by decide +kernel)
theorem it_RX11_117 {l : Launch} {p : Program} {e : Env} {s : State} {m : MethodId} {args : Array Value} {below : List Frame} {meth : Method} {c : Code} {K : ix_Cx} {R : Room} {Q : State → Prop} {nL k n pc : Nat} {cc : ByteArray} {L : List (Nat × Value)} {S : List Value} {z : ix_Z} {d : ix_D2} (hF : ix_Fc K) (X : ix_X p s m args c K cc RX11 nL) {a : Nat} (hk : ix_ok z [0, 3, 5, 6, 9] a) (hd : decode cc pc = .ok (.instanceof 117, 3)) {pc1 : Nat} (hp : pc + 3 = pc1) (kk : ix_G p l e R s m args below meth c Q K nL k n pc1 L (.int (ix_if ((z.2.1 a).1 ∈ [0, 3, 5, 9]) 1 0) :: S) (ix_w z d)) : ix_G p l e R s m args below meth c Q K nL k n pc L (.ref (K.2.2.1 + a) :: S) (ix_w z d) := by
  have h2 := hk.2
  simp only [List.mem_cons, List.not_mem_nil, or_false] at h2
  rcases h2 with h2 | h2 | h2 | h2 | h2
  · rw [ix_if_pos (by rw [h2]; decide)] at kk
    exact ix_inY (ci := 0) (C := RX0) (T := RX3) (TT := TX0) (nf := 4) X rfl (by decide) (pl := 482) (by decide +kernel) (ix_wm (i := 2475) (by decide +kernel)) ⟨hk.1, h2⟩ hd hp kk
  · rw [ix_if_pos (by rw [h2]; decide)] at kk
    exact ix_inY (ci := 3) (C := RX3) (T := RX3) (TT := TX3) (nf := 3) X rfl (by decide) (pl := 482) (by decide +kernel) (ix_wm (i := 2476) (by decide +kernel)) ⟨hk.1, h2⟩ hd hp kk
  · rw [ix_if_pos (by rw [h2]; decide)] at kk
    exact ix_inY (ci := 5) (C := RX5) (T := RX3) (TT := TX5) (nf := 4) X rfl (by decide) (pl := 482) (by decide +kernel) (ix_wm (i := 2477) (by decide +kernel)) ⟨hk.1, h2⟩ hd hp kk
  · rw [ix_if_neg (by rw [h2]; decide)] at kk
    exact ix_inN (ci := 6) (C := RX6) (T := RX3) (TT := TX6) (nf := 4) X hF rfl (by decide) (pl := 482) (by decide +kernel) (by decide +kernel) ⟨hk.1, h2⟩ hd hp kk
  · rw [ix_if_pos (by rw [h2]; decide)] at kk
    exact ix_inY (ci := 9) (C := RX10) (T := RX3) (TT := TX10) (nf := 6) X rfl (by decide) (pl := 482) (by decide +kernel) (ix_wm (i := 2478) (by decide +kernel)) ⟨hk.1, h2⟩ hd hp kk
theorem it_RX11_130 {l : Launch} {p : Program} {e : Env} {s : State} {m : MethodId} {args : Array Value} {below : List Frame} {meth : Method} {c : Code} {K : ix_Cx} {R : Room} {Q : State → Prop} {nL k n pc : Nat} {cc : ByteArray} {L : List (Nat × Value)} {S : List Value} {z : ix_Z} {d : ix_D2} (hF : ix_Fc K) (X : ix_X p s m args c K cc RX11 nL) {a : Nat} (hk : ix_ok z [0, 3, 5, 6, 9] a) (hd : decode cc pc = .ok (.instanceof 130, 3)) {pc1 : Nat} (hp : pc + 3 = pc1) (kk : ix_G p l e R s m args below meth c Q K nL k n pc1 L (.int (ix_if ((z.2.1 a).1 ∈ [0, 5]) 1 0) :: S) (ix_w z d)) : ix_G p l e R s m args below meth c Q K nL k n pc L (.ref (K.2.2.1 + a) :: S) (ix_w z d) := by
  have h2 := hk.2
  simp only [List.mem_cons, List.not_mem_nil, or_false] at h2
  rcases h2 with h2 | h2 | h2 | h2 | h2
  · rw [ix_if_pos (by rw [h2]; decide)] at kk
    exact ix_inY (ci := 0) (C := RX0) (T := RX0) (TT := TX0) (nf := 4) X rfl (by decide) (pl := 632) (by decide +kernel) (ix_wm (i := 2479) (by decide +kernel)) ⟨hk.1, h2⟩ hd hp kk
  · rw [ix_if_neg (by rw [h2]; decide)] at kk
    exact ix_inN (ci := 3) (C := RX3) (T := RX0) (TT := TX3) (nf := 3) X hF rfl (by decide) (pl := 632) (by decide +kernel) (by decide +kernel) ⟨hk.1, h2⟩ hd hp kk
  · rw [ix_if_pos (by rw [h2]; decide)] at kk
    exact ix_inY (ci := 5) (C := RX5) (T := RX0) (TT := TX5) (nf := 4) X rfl (by decide) (pl := 632) (by decide +kernel) (ix_wm (i := 2480) (by decide +kernel)) ⟨hk.1, h2⟩ hd hp kk
  · rw [ix_if_neg (by rw [h2]; decide)] at kk
    exact ix_inN (ci := 6) (C := RX6) (T := RX0) (TT := TX6) (nf := 4) X hF rfl (by decide) (pl := 632) (by decide +kernel) (by decide +kernel) ⟨hk.1, h2⟩ hd hp kk
  · rw [ix_if_neg (by rw [h2]; decide)] at kk
    exact ix_inN (ci := 9) (C := RX10) (T := RX0) (TT := TX10) (nf := 6) X hF rfl (by decide) (pl := 632) (by decide +kernel) (by decide +kernel) ⟨hk.1, h2⟩ hd hp kk
theorem it_RX11_134 {l : Launch} {p : Program} {e : Env} {s : State} {m : MethodId} {args : Array Value} {below : List Frame} {meth : Method} {c : Code} {K : ix_Cx} {R : Room} {Q : State → Prop} {nL k n pc : Nat} {cc : ByteArray} {L : List (Nat × Value)} {S : List Value} {z : ix_Z} {d : ix_D2} (hF : ix_Fc K) (X : ix_X p s m args c K cc RX11 nL) {a : Nat} (hk : ix_ok z [0, 3, 5, 6, 9] a) (hd : decode cc pc = .ok (.instanceof 134, 3)) {pc1 : Nat} (hp : pc + 3 = pc1) (kk : ix_G p l e R s m args below meth c Q K nL k n pc1 L (.int (ix_if ((z.2.1 a).1 ∈ [5]) 1 0) :: S) (ix_w z d)) : ix_G p l e R s m args below meth c Q K nL k n pc L (.ref (K.2.2.1 + a) :: S) (ix_w z d) := by
  have h2 := hk.2
  simp only [List.mem_cons, List.not_mem_nil, or_false] at h2
  rcases h2 with h2 | h2 | h2 | h2 | h2
  · rw [ix_if_neg (by rw [h2]; decide)] at kk
    exact ix_inN (ci := 0) (C := RX0) (T := RX5) (TT := TX0) (nf := 4) X hF rfl (by decide) (pl := 651) (by decide +kernel) (by decide +kernel) ⟨hk.1, h2⟩ hd hp kk
  · rw [ix_if_neg (by rw [h2]; decide)] at kk
    exact ix_inN (ci := 3) (C := RX3) (T := RX5) (TT := TX3) (nf := 3) X hF rfl (by decide) (pl := 651) (by decide +kernel) (by decide +kernel) ⟨hk.1, h2⟩ hd hp kk
  · rw [ix_if_pos (by rw [h2]; decide)] at kk
    exact ix_inY (ci := 5) (C := RX5) (T := RX5) (TT := TX5) (nf := 4) X rfl (by decide) (pl := 651) (by decide +kernel) (ix_wm (i := 2481) (by decide +kernel)) ⟨hk.1, h2⟩ hd hp kk
  · rw [ix_if_neg (by rw [h2]; decide)] at kk
    exact ix_inN (ci := 6) (C := RX6) (T := RX5) (TT := TX6) (nf := 4) X hF rfl (by decide) (pl := 651) (by decide +kernel) (by decide +kernel) ⟨hk.1, h2⟩ hd hp kk
  · rw [ix_if_neg (by rw [h2]; decide)] at kk
    exact ix_inN (ci := 9) (C := RX10) (T := RX5) (TT := TX10) (nf := 6) X hF rfl (by decide) (pl := 651) (by decide +kernel) (by decide +kernel) ⟨hk.1, h2⟩ hd hp kk
theorem it_RX11_137 {l : Launch} {p : Program} {e : Env} {s : State} {m : MethodId} {args : Array Value} {below : List Frame} {meth : Method} {c : Code} {K : ix_Cx} {R : Room} {Q : State → Prop} {nL k n pc : Nat} {cc : ByteArray} {L : List (Nat × Value)} {S : List Value} {z : ix_Z} {d : ix_D2} (hF : ix_Fc K) (X : ix_X p s m args c K cc RX11 nL) {a : Nat} (hk : ix_ok z [0, 3, 5, 6, 9] a) (hd : decode cc pc = .ok (.instanceof 137, 3)) {pc1 : Nat} (hp : pc + 3 = pc1) (kk : ix_G p l e R s m args below meth c Q K nL k n pc1 L (.int (ix_if ((z.2.1 a).1 ∈ [6]) 1 0) :: S) (ix_w z d)) : ix_G p l e R s m args below meth c Q K nL k n pc L (.ref (K.2.2.1 + a) :: S) (ix_w z d) := by
  have h2 := hk.2
  simp only [List.mem_cons, List.not_mem_nil, or_false] at h2
  rcases h2 with h2 | h2 | h2 | h2 | h2
  · rw [ix_if_neg (by rw [h2]; decide)] at kk
    exact ix_inN (ci := 0) (C := RX0) (T := RX6) (TT := TX0) (nf := 4) X hF rfl (by decide) (pl := 666) (by decide +kernel) (by decide +kernel) ⟨hk.1, h2⟩ hd hp kk
  · rw [ix_if_neg (by rw [h2]; decide)] at kk
    exact ix_inN (ci := 3) (C := RX3) (T := RX6) (TT := TX3) (nf := 3) X hF rfl (by decide) (pl := 666) (by decide +kernel) (by decide +kernel) ⟨hk.1, h2⟩ hd hp kk
  · rw [ix_if_neg (by rw [h2]; decide)] at kk
    exact ix_inN (ci := 5) (C := RX5) (T := RX6) (TT := TX5) (nf := 4) X hF rfl (by decide) (pl := 666) (by decide +kernel) (by decide +kernel) ⟨hk.1, h2⟩ hd hp kk
  · rw [ix_if_pos (by rw [h2]; decide)] at kk
    exact ix_inY (ci := 6) (C := RX6) (T := RX6) (TT := TX6) (nf := 4) X rfl (by decide) (pl := 666) (by decide +kernel) (ix_wm (i := 2482) (by decide +kernel)) ⟨hk.1, h2⟩ hd hp kk
  · rw [ix_if_neg (by rw [h2]; decide)] at kk
    exact ix_inN (ci := 9) (C := RX10) (T := RX6) (TT := TX10) (nf := 6) X hF rfl (by decide) (pl := 666) (by decide +kernel) (by decide +kernel) ⟨hk.1, h2⟩ hd hp kk
theorem it_RX11_149 {l : Launch} {p : Program} {e : Env} {s : State} {m : MethodId} {args : Array Value} {below : List Frame} {meth : Method} {c : Code} {K : ix_Cx} {R : Room} {Q : State → Prop} {nL k n pc : Nat} {cc : ByteArray} {L : List (Nat × Value)} {S : List Value} {z : ix_Z} {d : ix_D2} (hF : ix_Fc K) (X : ix_X p s m args c K cc RX11 nL) {a : Nat} (hk : ix_ok z [0, 3, 5, 6, 9] a) (hd : decode cc pc = .ok (.instanceof 149, 3)) {pc1 : Nat} (hp : pc + 3 = pc1) (kk : ix_G p l e R s m args below meth c Q K nL k n pc1 L (.int (ix_if ((z.2.1 a).1 ∈ [9]) 1 0) :: S) (ix_w z d)) : ix_G p l e R s m args below meth c Q K nL k n pc L (.ref (K.2.2.1 + a) :: S) (ix_w z d) := by
  have h2 := hk.2
  simp only [List.mem_cons, List.not_mem_nil, or_false] at h2
  rcases h2 with h2 | h2 | h2 | h2 | h2
  · rw [ix_if_neg (by rw [h2]; decide)] at kk
    exact ix_inN (ci := 0) (C := RX0) (T := RX10) (TT := TX0) (nf := 4) X hF rfl (by decide) (pl := 806) (by decide +kernel) (by decide +kernel) ⟨hk.1, h2⟩ hd hp kk
  · rw [ix_if_neg (by rw [h2]; decide)] at kk
    exact ix_inN (ci := 3) (C := RX3) (T := RX10) (TT := TX3) (nf := 3) X hF rfl (by decide) (pl := 806) (by decide +kernel) (by decide +kernel) ⟨hk.1, h2⟩ hd hp kk
  · rw [ix_if_neg (by rw [h2]; decide)] at kk
    exact ix_inN (ci := 5) (C := RX5) (T := RX10) (TT := TX5) (nf := 4) X hF rfl (by decide) (pl := 806) (by decide +kernel) (by decide +kernel) ⟨hk.1, h2⟩ hd hp kk
  · rw [ix_if_neg (by rw [h2]; decide)] at kk
    exact ix_inN (ci := 6) (C := RX6) (T := RX10) (TT := TX6) (nf := 4) X hF rfl (by decide) (pl := 806) (by decide +kernel) (by decide +kernel) ⟨hk.1, h2⟩ hd hp kk
  · rw [ix_if_pos (by rw [h2]; decide)] at kk
    exact ix_inY (ci := 9) (C := RX10) (T := RX10) (TT := TX10) (nf := 6) X rfl (by decide) (pl := 806) (by decide +kernel) (ix_wm (i := 2483) (by decide +kernel)) ⟨hk.1, h2⟩ hd hp kk
theorem mf_X11_isOfKind : ix_mf yX11_isOfKind cX11_isOfKind 2 (some .boolean) 2 := ⟨ix_wm (i := 870) (by decide +kernel), ix_wm (i := 1) (by decide +kernel), ⟨by decide +kernel, by decide +kernel⟩, by decide +kernel, by decide +kernel⟩
theorem st_X11_isOfKind : Cond.static yX11_isOfKind ∈ lw_tbl := ix_wm (i := 869) (by decide +kernel)
theorem ml_RX11_161 : tables_1[868]? = some (Cond.methodLink RX11 161 yX11_isOfKind) := by decide +kernel
theorem mf_X11_as : ix_mf yX11_as cX11_as 4 (some .int) 2 := ⟨ix_wm (i := 867) (by decide +kernel), ix_wm (i := 1) (by decide +kernel), ⟨by decide +kernel, by decide +kernel⟩, by decide +kernel, by decide +kernel⟩
theorem mi_X11_as : Cond.instanceMethod yX11_as ∈ lw_tbl := ix_wm (i := 865) (by decide +kernel)
theorem fl_RX11_165 : ix_flb 518 0 false RX11 165 "ClauseCourt$Rule" [0, 3, 5, 6, 9] 0 2 = true := by decide +kernel
theorem mf_X11_item : ix_mf yX11_item cX11_item 4 (some .int) 2 := ⟨ix_wm (i := 874) (by decide +kernel), ix_wm (i := 1) (by decide +kernel), ⟨by decide +kernel, by decide +kernel⟩, by decide +kernel, by decide +kernel⟩
theorem mi_X11_item : Cond.instanceMethod yX11_item ∈ lw_tbl := ix_wm (i := 872) (by decide +kernel)
theorem fl_RX11_168 : ix_flb 521 0 false RX11 168 "ClauseCourt$Rule" [0, 3, 5, 6, 9] 2 0 = true := by decide +kernel
theorem fl_RX11_171 : ix_flb 519 0 false RX11 171 "ClauseCourt$Rule" [0, 3, 5, 6, 9] 1 0 = true := by decide +kernel
theorem mf_X11_rows : ix_mf yX11_rows cX11_rows 4 (some .int) 2 := ⟨ix_wm (i := 878) (by decide +kernel), ix_wm (i := 1) (by decide +kernel), ⟨by decide +kernel, by decide +kernel⟩, by decide +kernel, by decide +kernel⟩
theorem mi_X11_rows : Cond.instanceMethod yX11_rows ∈ lw_tbl := ix_wm (i := 876) (by decide +kernel)
theorem fl_RX11_195 : ix_flb 133 0 true RX11 195 "ClauseCourt$Case" [2] 0 2 = true := by decide +kernel
theorem ml_RX11_189 : tables_1[883]? = some (Cond.methodLink RX11 189 yX7_tell) := by decide +kernel
theorem fl_RX11_41 : ix_flb 351 0 false RX11 41 "ClauseCourt" [10] 6 2 = true := by decide +kernel
theorem fl_RX11_192 : ix_flb 279 0 true RX11 192 "ClauseCourt$Solver" [8] 1 2 = true := by decide +kernel
theorem fl_RX11_174 : ix_flb 290 0 true RX11 174 "ClauseCourt$Solver" [8] 10 2 = true := by decide +kernel
theorem fl_RX11_177 : ix_flb 277 0 true RX11 177 "ClauseCourt$Solver" [8] 0 2 = true := by decide +kernel
theorem fl_RX11_181 : ix_flb 202 0 true RX11 181 "ClauseCourt$Board" [1] 0 2 = true := by decide +kernel
theorem fl_RX11_186 : ix_flb 234 0 true RX11 186 "ClauseCourt$Board" [1] 16 0 = true := by decide +kernel
theorem mf_X11_line : ix_mf yX11_line cX11_line 4 (some .int) 2 := ⟨ix_wm (i := 882) (by decide +kernel), ix_wm (i := 1) (by decide +kernel), ⟨by decide +kernel, by decide +kernel⟩, by decide +kernel, by decide +kernel⟩
theorem mi_X11_line : Cond.instanceMethod yX11_line ∈ lw_tbl := ix_wm (i := 880) (by decide +kernel)
theorem mf_X11_saidYes : ix_mf yX11_saidYes cX11_saidYes 1 (some .boolean) 0 := ⟨ix_wm (i := 902) (by decide +kernel), ix_wm (i := 1) (by decide +kernel), ⟨by decide +kernel, by decide +kernel⟩, by decide +kernel, by decide +kernel⟩
theorem mi_X11_saidYes : Cond.instanceMethod yX11_saidYes ∈ lw_tbl := ix_wm (i := 901) (by decide +kernel)
theorem ms_X11_saidYes : Cond.selects yX11_saidYes.cls yX11_saidYes yX11_saidYes ∈ lw_tbl := List.mem_append_left _ (List.mem_of_getElem? (i := 18) (by decide +kernel))
theorem ml_RX11_196 : tables_1[899]? = some (Cond.methodLink RX11 196 yX11_saidYes) := by decide +kernel
theorem fl_RX11_200 : ix_flb 360 0 false RX11 200 "ClauseCourt" [10] 15 0 = true := by decide +kernel
theorem ml_RX11_203 : tables_1[903]? = some (Cond.methodLink RX11 203 (⟨"ClauseCourt$Rule", "holds", "(LClauseCourt$Board;LClauseCourt$Desk;)Z"⟩ : MethodName)) := by decide +kernel
theorem ml_RX11_207 : tables_1[962]? = some (Cond.methodLink RX11 207 (⟨"ClauseCourt$Rule", "fewest", "(LClauseCourt$Desk;)I"⟩ : MethodName)) := by decide +kernel
theorem ml_RX11_211 : tables_1[983]? = some (Cond.methodLink RX11 211 (⟨"ClauseCourt$Rule", "greatest", "(LClauseCourt$Desk;)I"⟩ : MethodName)) := by decide +kernel
theorem ml_RX11_214 : tables_1[1003]? = some (Cond.methodLink RX11 214 (⟨"ClauseCourt$Rule", "laid", "(LClauseCourt$Desk;)I"⟩ : MethodName)) := by decide +kernel
theorem mf_X11_ask : ix_mf yX11_ask cX11_ask 4 (some .int) 2 := ⟨ix_wm (i := 898) (by decide +kernel), ix_wm (i := 1) (by decide +kernel), ⟨by decide +kernel, by decide +kernel⟩, by decide +kernel, by decide +kernel⟩
theorem mi_X11_ask : Cond.instanceMethod yX11_ask ∈ lw_tbl := ix_wm (i := 896) (by decide +kernel)
theorem fp_RX11_217 : ix_fpb 47 0 true RX11 217 "ClauseCourt$Desk" [4] 3 "I" false = true := by decide +kernel
theorem ml_RX11_220 : tables_1[1016]? = some (Cond.methodLink RX11 220 (⟨"ClauseCourt$Rule", "write", "(LClauseCourt$Desk;)V"⟩ : MethodName)) := by decide +kernel
theorem fl_RX11_217 : ix_flb 47 0 true RX11 217 "ClauseCourt$Desk" [4] 3 0 = true := by decide +kernel
theorem mf_X11_print : ix_mf yX11_print cX11_print 3 (some .int) 1 := ⟨ix_wm (i := 1015) (by decide +kernel), ix_wm (i := 1) (by decide +kernel), ⟨by decide +kernel, by decide +kernel⟩, by decide +kernel, by decide +kernel⟩
theorem mi_X11_print : Cond.instanceMethod yX11_print ∈ lw_tbl := ix_wm (i := 1013) (by decide +kernel)
theorem fl_RX11_224 : ix_flb 123 0 true RX11 224 "ClauseCourt$Rows" [7] 2 0 = true := by decide +kernel
theorem ms_X4_writeRow : Cond.selects yX4_writeRow.cls yX4_writeRow yX4_writeRow ∈ lw_tbl := ix_wm (i := 1091) (by decide +kernel)
theorem ml_RX11_227 : tables_1[1089]? = some (Cond.methodLink RX11 227 yX4_writeRow) := by decide +kernel
theorem mf_X11_export : ix_mf yX11_export cX11_export 2 (some .int) 0 := ⟨ix_wm (i := 1088) (by decide +kernel), ix_wm (i := 1) (by decide +kernel), ⟨by decide +kernel, by decide +kernel⟩, by decide +kernel, by decide +kernel⟩
theorem mi_X11_export : Cond.instanceMethod yX11_export ∈ lw_tbl := ix_wm (i := 1086) (by decide +kernel)
theorem fl_RX11_231 : ix_flb 45 0 true RX11 231 "ClauseCourt$Desk" [4] 2 2 = true := by decide +kernel
theorem mf_X11_out : ix_mf yX11_out cX11_out 2 (some .int) 1 := ⟨ix_wm (i := 1098) (by decide +kernel), ix_wm (i := 1) (by decide +kernel), ⟨by decide +kernel, by decide +kernel⟩, by decide +kernel, by decide +kernel⟩
theorem mi_X11_out : Cond.instanceMethod yX11_out ∈ lw_tbl := ix_wm (i := 1096) (by decide +kernel)
theorem ms_X2_isAssumed : Cond.selects yX2_isAssumed.cls yX2_isAssumed yX2_isAssumed ∈ lw_tbl := ix_wm (i := 1105) (by decide +kernel)
theorem ml_RX11_238 : tables_1[1103]? = some (Cond.methodLink RX11 238 yX2_isAssumed) := by decide +kernel
theorem fl_RX11_241 : ix_flb 149 0 true RX11 241 "ClauseCourt$Case" [2] 7 0 = true := by decide +kernel
theorem fl_RX11_244 : ix_flb 141 0 true RX11 244 "ClauseCourt$Case" [2] 3 2 = true := by decide +kernel
theorem fp_RX11_241 : ix_fpb 149 0 true RX11 241 "ClauseCourt$Case" [2] 7 "I" false = true := by decide +kernel
theorem mf_X11_assume : ix_mf yX11_assume cX11_assume 3 (some .int) 1 := ⟨ix_wm (i := 1102) (by decide +kernel), ix_wm (i := 1) (by decide +kernel), ⟨by decide +kernel, by decide +kernel⟩, by decide +kernel, by decide +kernel⟩
theorem mi_X11_assume : Cond.instanceMethod yX11_assume ∈ lw_tbl := ix_wm (i := 1100) (by decide +kernel)
theorem mf_X11_free : ix_mf yX11_free cX11_free 2 (some .int) 0 := ⟨ix_wm (i := 1110) (by decide +kernel), ix_wm (i := 1) (by decide +kernel), ⟨by decide +kernel, by decide +kernel⟩, by decide +kernel, by decide +kernel⟩
theorem mi_X11_free : Cond.instanceMethod yX11_free ∈ lw_tbl := ix_wm (i := 1108) (by decide +kernel)
theorem mf_X11_isName : ix_mf yX11_isName cX11_isName 2 (some .boolean) 1 := ⟨ix_wm (i := 1118) (by decide +kernel), ix_wm (i := 1) (by decide +kernel), ⟨by decide +kernel, by decide +kernel⟩, by decide +kernel, by decide +kernel⟩
theorem mi_X11_isName : Cond.instanceMethod yX11_isName ∈ lw_tbl := ix_wm (i := 1117) (by decide +kernel)
theorem ms_X11_isName : Cond.selects yX11_isName.cls yX11_isName yX11_isName ∈ lw_tbl := List.mem_append_left _ (List.mem_of_getElem? (i := 20) (by decide +kernel))
theorem ml_RX11_247 : tables_1[1115]? = some (Cond.methodLink RX11 247 yX11_isName) := by decide +kernel
theorem fl_RX11_250 : ix_flb 136 0 true RX11 250 "ClauseCourt$Case" [2] 1 2 = true := by decide +kernel
theorem mf_X11_weight : ix_mf yX11_weight cX11_weight 4 (some .int) 2 := ⟨ix_wm (i := 1114) (by decide +kernel), ix_wm (i := 1) (by decide +kernel), ⟨by decide +kernel, by decide +kernel⟩, by decide +kernel, by decide +kernel⟩
theorem mi_X11_weight : Cond.instanceMethod yX11_weight ∈ lw_tbl := ix_wm (i := 1112) (by decide +kernel)
theorem fl_RX11_253 : ix_flb 229 0 true RX11 253 "ClauseCourt$Board" [1] 14 0 = true := by decide +kernel
theorem fl_RX11_254 : ix_flb 281 0 true RX11 254 "ClauseCourt$Solver" [8] 2 2 = true := by decide +kernel
theorem mf_X11_weighs : ix_mf yX11_weighs cX11_weighs 2 (some .long) 1 := ⟨ix_wm (i := 1122) (by decide +kernel), ix_wm (i := 1) (by decide +kernel), ⟨by decide +kernel, by decide +kernel⟩, by decide +kernel, by decide +kernel⟩
theorem mi_X11_weighs : Cond.instanceMethod yX11_weighs ∈ lw_tbl := ix_wm (i := 1120) (by decide +kernel)
theorem fl_RX11_257 : ix_flb 151 0 true RX11 257 "ClauseCourt$Case" [2] 8 0 = true := by decide +kernel
theorem fp_RX11_257 : ix_fpb 151 0 true RX11 257 "ClauseCourt$Case" [2] 8 "I" false = true := by decide +kernel
theorem mf_X11_begin : ix_mf yX11_begin cX11_begin 3 (some .int) 1 := ⟨ix_wm (i := 1126) (by decide +kernel), ix_wm (i := 1) (by decide +kernel), ⟨by decide +kernel, by decide +kernel⟩, by decide +kernel, by decide +kernel⟩
theorem mi_X11_begin : Cond.instanceMethod yX11_begin ∈ lw_tbl := ix_wm (i := 1124) (by decide +kernel)
theorem fl_RX11_260 : ix_flb 153 0 true RX11 260 "ClauseCourt$Case" [2] 9 0 = true := by decide +kernel
theorem fp_RX11_260 : ix_fpb 153 0 true RX11 260 "ClauseCourt$Case" [2] 9 "I" false = true := by decide +kernel
theorem mf_X11_forget : ix_mf yX11_forget cX11_forget 3 (some .int) 1 := ⟨ix_wm (i := 1130) (by decide +kernel), ix_wm (i := 1) (by decide +kernel), ⟨by decide +kernel, by decide +kernel⟩, by decide +kernel, by decide +kernel⟩
theorem mi_X11_forget : Cond.instanceMethod yX11_forget ∈ lw_tbl := ix_wm (i := 1128) (by decide +kernel)
theorem mf_X11_areSteps : ix_mf yX11_areSteps cX11_areSteps 1 (some .boolean) 1 := ⟨ix_wm (i := 1137) (by decide +kernel), ix_wm (i := 1) (by decide +kernel), ⟨by decide +kernel, by decide +kernel⟩, by decide +kernel, by decide +kernel⟩
theorem st_X11_areSteps : Cond.static yX11_areSteps ∈ lw_tbl := ix_wm (i := 1136) (by decide +kernel)
theorem fp_RX11_302 : ix_fpb 355 0 false RX11 302 "ClauseCourt" [10] 10 "I" false = true := by decide +kernel
theorem ml_RX11_335 : tables_1[1366]? = some (Cond.methodLink RX11 335 yX7_size) := by decide +kernel
theorem ml_RX11_428 : tables_1[1367]? = some (Cond.methodLink RX11 428 Lib.Math.min.name) := by decide +kernel
theorem fp_RX11_305 : ix_fpb 357 0 false RX11 305 "ClauseCourt" [10] 12 "I" false = true := by decide +kernel
theorem fl_RX11_305 : ix_flb 357 0 false RX11 305 "ClauseCourt" [10] 12 0 = true := by decide +kernel
theorem fl_RX11_60 : ix_flb 356 0 false RX11 60 "ClauseCourt" [10] 11 2 = true := by decide +kernel
theorem ms_X9_hasSource : Cond.selects yX9_hasSource.cls yX9_hasSource yX9_hasSource ∈ lw_tbl := ix_wm (i := 1364) (by decide +kernel)
theorem ml_RX11_424 : tables_1[1362]? = some (Cond.methodLink RX11 424 yX9_hasSource) := by decide +kernel
theorem fl_RX11_57 : ix_flb 354 0 false RX11 57 "ClauseCourt" [10] 9 2 = true := by decide +kernel
theorem fl_RX11_302 : ix_flb 355 0 false RX11 302 "ClauseCourt" [10] 10 0 = true := by decide +kernel
theorem mf_X11_keepCore : ix_mf yX11_keepCore cX11_keepCore 5 (none : Option Jvm.ClassFile.FieldType) 0 := ⟨ix_wm (i := 1361) (by decide +kernel), ix_wm (i := 1) (by decide +kernel), ⟨by decide +kernel, by decide +kernel⟩, by decide +kernel, by decide +kernel⟩
theorem mi_X11_keepCore : Cond.instanceMethod yX11_keepCore ∈ lw_tbl := ix_wm (i := 1360) (by decide +kernel)
def tab_X10_greatest : List (Nat × Instr × Nat) := [(0, .aload_n 1, 1), (1, .bipush 42, 2), (3, .invokevirtual 91, 3), (6, .iconst 1, 1), (7, .ireturn, 1)]
theorem tb_X10_greatest : ix_tab cX10_greatest tab_X10_greatest := by
  unfold ix_tab
  decide +kernel
noncomputable def f_X10_greatest (n : Nat) (z : ix_Z) (a0 : Nat) (a1 : Nat) (d : ix_D2) : Option (Int32 × ix_D2) :=
  ix_ck (ix_ok z [4] a1) (ix_bd1 (f_X4_note n z a1 42 d) (fun d_1 => some (1, d_1)))
set_option maxRecDepth 20000 in
theorem c_X10_greatest {l : Launch} {K : ix_Cx} (hKp : ix_Kp K) {n : Nat} {z : ix_Z} {a0 : Nat} {a1 : Nat} {d : ix_D2} {r : Int32} {d1 : ix_D2} (h : f_X10_greatest n z a0 a1 d = some (r, d1)) : ix_M l K yX10_greatest cX10_greatest 2 (some .int) 1 21 0 0 [.ref (K.2.2.1 + a0), .ref (K.2.2.1 + a1)] (ix_w z d) (some (.int r)) (ix_w z d1) := by
  refine ix_met mf_X10_greatest hKp (Nat.le_of_ble_eq_true rfl) ?_
  intro p e s m args below meth c hr hlk hnm X
  have X : ix_X p s m args c K cX10_greatest RX10 2 := X
  show ix_G p l e (ix_rm 1 21 0 0) s m args below meth c (MQ below (ix_Post K (some (.int r)) (ix_w z d1)) args s 0 0 (ix_A K)) K 2 0 0 0 [(0, .ref (K.2.2.1 + a0)), (1, .ref (K.2.2.1 + a1))] [] (ix_w z d)
  unfold f_X10_greatest at h
  refine ix_aload_n (i := 1) (j := 1) X (ix_tb_at tb_X10_greatest 0 rfl) rfl rfl (pc1 := 1) rfl ?_
  refine ix_bipush (v := 42) X (ix_tb_at tb_X10_greatest 1 rfl) (by decide) (pc1 := 3) rfl ?_
  obtain ⟨k_3, h⟩ := ix_ck_some h
  obtain ⟨d_1, h_2, h⟩ := ix_bd1_ex h
  refine ix_callV (As := [.int 42]) (rest := []) (ci := 4) (T := TX4) (nf := 17) X mf_X4_note mi_X4_note ms_X4_note rfl (Nat.le_of_ble_eq_true rfl) ml_RX10_91 ⟨Nat.le_of_ble_eq_true rfl, Nat.le_of_ble_eq_true rfl⟩ ⟨Nat.le_of_ble_eq_true rfl, Nat.le_of_ble_eq_true rfl⟩ rfl (Nat.le_of_ble_eq_true rfl) (ix_tb_at tb_X10_greatest 2 rfl) ⟨k_3.1, List.mem_singleton.mp k_3.2⟩ (c_X4_note hKp h_2) rfl (pc1 := 6) rfl ?_
  refine ix_iconst (v := 1) X (ix_tb_at tb_X10_greatest 3 rfl) (by decide) (pc1 := 7) rfl ?_
  exact ix_iret X hr hlk (ix_r2 (f := fun r => some (.int r)) (g := ix_w z) h) (ix_tb_at tb_X10_greatest 4 rfl)
def tab_X10_write : List (Nat × Instr × Nat) := [(0, .aload_n 1, 1), (1, .bipush 44, 2), (3, .invokevirtual 91, 3), (6, .iconst 0, 1), (7, .istore_n 2, 1), (8, .iload_n 2, 1), (9, .aload_n 0, 1), (10, .getfield 23, 3), (13, .arraylength, 1), (14, .if_icmp .ge 19, 3), (17, .aload_n 1, 1), (18, .aload_n 0, 1), (19, .getfield 23, 3), (22, .iload_n 2, 1), (23, .baload, 1), (24, .invokevirtual 104, 3), (27, .iinc 2 1, 3), (30, .goto (-22), 3), (33, .return_, 1)]
theorem tb_X10_write : ix_tab cX10_write tab_X10_write := by
  unfold ix_tab
  decide +kernel
noncomputable def b_X10_write_8 (n : Nat) (z : ix_Z)  (a0 : Nat) (a1 : Nat) (rec8 : Int32 → ix_D2 → Option (ix_D2)) (x2 : Int32) (d : ix_D2) : Option (ix_D2) :=
  ix_ck (ix_ok z [9] a0) (ix_bd1 (z.1 a0 3) (fun b_5 => ix_ck (b_5 < z.2.2 ∧ 20 ≤ (z.2.1 b_5).1 ∧ (z.2.1 b_5).1 < 26) (ix_if (nI (z.2.1 b_5).2 ≤ x2) (some d) (ix_ck (ix_ix z 21 b_5 x2) (ix_ck (ix_ok z [4] a1) (ix_bd1 (f_X4_writeByte n z a1 (d.1 b_5 (ix_n x2)) d) (fun d_10 => ix_lt (x2 + 1) (fun x2_13 => rec8 x2_13 d_10))))))))
noncomputable def f_X10_write_8 (n : Nat) (z : ix_Z)  (a0 : Nat) (a1 : Nat) (x2 : Int32) (d : ix_D2) : Option (ix_D2) := ix_fix (b_X10_write_8 n z  a0 a1) (fun _ _ => none) n x2 d
noncomputable def f_X10_write (n : Nat) (z : ix_Z) (a0 : Nat) (a1 : Nat) (d : ix_D2) : Option (ix_D2) :=
  ix_ck (ix_ok z [4] a1) (ix_bd1 (f_X4_note n z a1 44 d) (fun d_1 => f_X10_write_8 n z  a0 a1 0 d_1))
set_option maxRecDepth 20000 in
theorem tb_X10_write_8 {l : Launch} {p : Program} {e : Env} {s : State} {m : MethodId} {args : Array Value} {below : List Frame} {meth : Method} {c : Code} {K : ix_Cx} (hKp : ix_Kp K) {n : Nat} {z : ix_Z} (X : ix_X p s m args c K cX10_write RX10 3) (hr : meth.sig.returnType = (none : Option Jvm.ClassFile.FieldType)) (hlk : meth.locks = false)  {a0 : Nat} {a1 : Nat} {rec8 : Int32 → ix_D2 → Option (ix_D2)} {d1 : ix_D2} (hrec8 : ∀ (x2 : Int32) (d : ix_D2), rec8 x2 d = some d1 → ix_G p l e (ix_rm 1 21 0 0) s m args below meth c (MQ below (ix_Post K none (ix_w z d1)) args s 0 0 (ix_A K)) K 3 0 0 8 [(0, .ref (K.2.2.1 + a0)), (1, .ref (K.2.2.1 + a1)), (2, .int x2)] [] (ix_w z d)) {x2 : Int32} {d : ix_D2} (h : b_X10_write_8 n z  a0 a1 rec8 x2 d = some d1) : ix_G p l e (ix_rm 1 21 0 0) s m args below meth c (MQ below (ix_Post K none (ix_w z d1)) args s 0 0 (ix_A K)) K 3 0 0 8 [(0, .ref (K.2.2.1 + a0)), (1, .ref (K.2.2.1 + a1)), (2, .int x2)] [] (ix_w z d) := by
  unfold b_X10_write_8 at h
  refine ix_iload_n (i := 2) (j := 2) X (ix_tb_at tb_X10_write 5 rfl) rfl rfl (pc1 := 9) rfl ?_
  refine ix_aload_n (i := 0) (j := 0) X (ix_tb_at tb_X10_write 6 rfl) rfl rfl (pc1 := 10) rfl ?_
  obtain ⟨k_4, h⟩ := ix_ck_some h
  obtain ⟨b_5, q_6, h⟩ := ix_bd1_ex h
  refine iz_getR X fl_RX10_23 k_4 q_6 (ix_tb_at tb_X10_write 7 rfl) (pc1 := 13) rfl ?_
  obtain ⟨k_7, h⟩ := ix_ck_some h
  refine iz_alen X k_7 (ix_tb_at tb_X10_write 8 rfl) (pc1 := 14) rfl ?_
  refine ix_icmp_ge (tgt := 33) X (ix_tb_at tb_X10_write 9 rfl) (by decide) (pc1 := 17) rfl (fun q_8 => ?_) (fun q_8 => ?_)
  · have h := ix_ift q_8 h
    exact ix_vret X hr hlk (ix_r1 (g := ix_w z) h) (ix_tb_at tb_X10_write 18 rfl)
  · have h := ix_iff q_8 h
    refine ix_aload_n (i := 1) (j := 1) X (ix_tb_at tb_X10_write 10 rfl) rfl rfl (pc1 := 18) rfl ?_
    refine ix_aload_n (i := 0) (j := 0) X (ix_tb_at tb_X10_write 11 rfl) rfl rfl (pc1 := 19) rfl ?_
    refine iz_getR X fl_RX10_23 k_4 q_6 (ix_tb_at tb_X10_write 12 rfl) (pc1 := 22) rfl ?_
    refine ix_iload_n (i := 2) (j := 2) X (ix_tb_at tb_X10_write 13 rfl) rfl rfl (pc1 := 23) rfl ?_
    obtain ⟨k_9, h⟩ := ix_ck_some h
    refine iz_bald X k_9 (ix_tb_at tb_X10_write 14 rfl) (pc1 := 24) rfl ?_
    obtain ⟨k_12, h⟩ := ix_ck_some h
    obtain ⟨d_10, h_11, h⟩ := ix_bd1_ex h
    refine ix_callV (As := [.int (d.1 b_5 (ix_n x2))]) (rest := []) (ci := 4) (T := TX4) (nf := 17) X mf_X4_writeByte mi_X4_writeByte ms_X4_writeByte rfl (Nat.le_of_ble_eq_true rfl) ml_RX10_104 ⟨Nat.le_of_ble_eq_true rfl, Nat.le_of_ble_eq_true rfl⟩ ⟨Nat.le_of_ble_eq_true rfl, Nat.le_of_ble_eq_true rfl⟩ rfl (Nat.le_of_ble_eq_true rfl) (ix_tb_at tb_X10_write 15 rfl) ⟨k_12.1, List.mem_singleton.mp k_12.2⟩ (c_X4_writeByte hKp h_11) rfl (pc1 := 27) rfl ?_
    obtain ⟨x2_13, e_14, h⟩ := ix_lt_ex h
    refine ix_iinc (i := 2) (j := 2) (v := x2_13) (L1 := [(2, .int x2_13), (0, .ref (K.2.2.1 + a0)), (1, .ref (K.2.2.1 + a1))]) X (ix_tb_at tb_X10_write 16 rfl) rfl (by rw [oi_1]; exact e_14.symm) (Nat.le_of_ble_eq_true rfl) rfl (pc1 := 30) rfl ?_
    refine ix_goto (tgt := 8) X (ix_tb_at tb_X10_write 17 rfl) (by decide) ?_
    refine ix_sub (L1 := [(0, .ref (K.2.2.1 + a0)), (1, .ref (K.2.2.1 + a1)), (2, .int x2_13)]) [1, 2, 0] rfl ?_
    exact hrec8 x2_13 d_10 h
theorem t_X10_write_8 {l : Launch} {p : Program} {e : Env} {s : State} {m : MethodId} {args : Array Value} {below : List Frame} {meth : Method} {c : Code} {K : ix_Cx} (hKp : ix_Kp K) {n : Nat} {z : ix_Z} (X : ix_X p s m args c K cX10_write RX10 3) (hr : meth.sig.returnType = (none : Option Jvm.ClassFile.FieldType)) (hlk : meth.locks = false)  {a0 : Nat} {a1 : Nat} {d1 : ix_D2}  {x2 : Int32} {d : ix_D2} (h : f_X10_write_8 n z  a0 a1 x2 d = some d1) : ix_G p l e (ix_rm 1 21 0 0) s m args below meth c (MQ below (ix_Post K none (ix_w z d1)) args s 0 0 (ix_A K)) K 3 0 0 8 [(0, .ref (K.2.2.1 + a0)), (1, .ref (K.2.2.1 + a1)), (2, .int x2)] [] (ix_w z d) := by
  have key : ∀ (f : Nat) (x2 : Int32) (d : ix_D2), ix_fix (b_X10_write_8 n z  a0 a1) (fun _ _ => none) f x2 d = some d1 → ix_G p l e (ix_rm 1 21 0 0) s m args below meth c (MQ below (ix_Post K none (ix_w z d1)) args s 0 0 (ix_A K)) K 3 0 0 8 [(0, .ref (K.2.2.1 + a0)), (1, .ref (K.2.2.1 + a1)), (2, .int x2)] [] (ix_w z d) := by
    intro f
    induction f with
    | zero =>
      intro x2 d h
      have h : (none : Option (ix_D2)) = some d1 := h
      cases h
    | succ f ih =>
      intro x2 d h
      exact tb_X10_write_8 hKp X hr hlk (rec8 := ix_fix (b_X10_write_8 n z  a0 a1) (fun _ _ => none) f)  ih h
  exact key n x2 d h
set_option maxRecDepth 20000 in
theorem c_X10_write {l : Launch} {K : ix_Cx} (hKp : ix_Kp K) {n : Nat} {z : ix_Z} {a0 : Nat} {a1 : Nat} {d : ix_D2} {d1 : ix_D2} (h : f_X10_write n z a0 a1 d = some d1) : ix_M l K yX10_write cX10_write 3 (none : Option Jvm.ClassFile.FieldType) 1 21 0 0 [.ref (K.2.2.1 + a0), .ref (K.2.2.1 + a1)] (ix_w z d) none (ix_w z d1) := by
  refine ix_met mf_X10_write hKp (Nat.le_of_ble_eq_true rfl) ?_
  intro p e s m args below meth c hr hlk hnm X
  have X : ix_X p s m args c K cX10_write RX10 3 := X
  show ix_G p l e (ix_rm 1 21 0 0) s m args below meth c (MQ below (ix_Post K none (ix_w z d1)) args s 0 0 (ix_A K)) K 3 0 0 0 [(0, .ref (K.2.2.1 + a0)), (1, .ref (K.2.2.1 + a1))] [] (ix_w z d)
  unfold f_X10_write at h
  refine ix_aload_n (i := 1) (j := 1) X (ix_tb_at tb_X10_write 0 rfl) rfl rfl (pc1 := 1) rfl ?_
  refine ix_bipush (v := 44) X (ix_tb_at tb_X10_write 1 rfl) (by decide) (pc1 := 3) rfl ?_
  obtain ⟨k_3, h⟩ := ix_ck_some h
  obtain ⟨d_1, h_2, h⟩ := ix_bd1_ex h
  refine ix_callV (As := [.int 44]) (rest := []) (ci := 4) (T := TX4) (nf := 17) X mf_X4_note mi_X4_note ms_X4_note rfl (Nat.le_of_ble_eq_true rfl) ml_RX10_91 ⟨Nat.le_of_ble_eq_true rfl, Nat.le_of_ble_eq_true rfl⟩ ⟨Nat.le_of_ble_eq_true rfl, Nat.le_of_ble_eq_true rfl⟩ rfl (Nat.le_of_ble_eq_true rfl) (ix_tb_at tb_X10_write 2 rfl) ⟨k_3.1, List.mem_singleton.mp k_3.2⟩ (c_X4_note hKp h_2) rfl (pc1 := 6) rfl ?_
  refine ix_iconst (v := 0) X (ix_tb_at tb_X10_write 3 rfl) (by decide) (pc1 := 7) rfl ?_
  refine ix_istore_n (i := 2) (L1 := [(2, .int 0), (0, .ref (K.2.2.1 + a0)), (1, .ref (K.2.2.1 + a1))]) X (ix_tb_at tb_X10_write 4 rfl) rfl (Nat.le_of_ble_eq_true rfl) rfl (pc1 := 8) rfl ?_
  refine ix_sub (L1 := [(0, .ref (K.2.2.1 + a0)), (1, .ref (K.2.2.1 + a1)), (2, .int 0)]) [1, 2, 0] rfl ?_
  exact t_X10_write_8 hKp X hr hlk  h
def tab_X11_refuse : List (Nat × Instr × Nat) := [(0, .aload_n 0, 1), (1, .iload_n 1, 1), (2, .putfield 402, 3), (5, .iload_n 1, 1), (6, .ireturn, 1)]
theorem tb_X11_refuse : ix_tab cX11_refuse tab_X11_refuse := by
  unfold ix_tab
  decide +kernel
noncomputable def f_X11_refuse (n : Nat) (z : ix_Z) (a0 : Nat) (x1 : Int32) (d : ix_D2) : Option (Int32 × ix_D2) :=
  ix_ck (ix_ok z [10] a0) (ix_lt (ix_di d a0 17 x1) (fun d_2 => some (x1, d_2)))
set_option maxRecDepth 20000 in
theorem c_X11_refuse {l : Launch} {K : ix_Cx} (hKp : ix_Kp K) {n : Nat} {z : ix_Z} {a0 : Nat} {x1 : Int32} {d : ix_D2} {r : Int32} {d1 : ix_D2} (h : f_X11_refuse n z a0 x1 d = some (r, d1)) : ix_M l K yX11_refuse cX11_refuse 2 (some .int) 0 0 0 0 [.ref (K.2.2.1 + a0), .int x1] (ix_w z d) (some (.int r)) (ix_w z d1) := by
  refine ix_met mf_X11_refuse hKp (Nat.le_of_ble_eq_true rfl) ?_
  intro p e s m args below meth c hr hlk hnm X
  have X : ix_X p s m args c K cX11_refuse RX11 2 := X
  show ix_G p l e (ix_rm 0 0 0 0) s m args below meth c (MQ below (ix_Post K (some (.int r)) (ix_w z d1)) args s 0 0 (ix_A K)) K 2 0 0 0 [(0, .ref (K.2.2.1 + a0)), (1, .int x1)] [] (ix_w z d)
  unfold f_X11_refuse at h
  refine ix_aload_n (i := 0) (j := 0) X (ix_tb_at tb_X11_refuse 0 rfl) rfl rfl (pc1 := 1) rfl ?_
  refine ix_iload_n (i := 1) (j := 1) X (ix_tb_at tb_X11_refuse 1 rfl) rfl rfl (pc1 := 2) rfl ?_
  obtain ⟨k_1, h⟩ := ix_ck_some h
  obtain ⟨d_2, e_3, h⟩ := ix_lt_ex h
  refine iz_putI X fp_RX11_402 k_1 (ix_tb_at tb_X11_refuse 2 rfl) e_3 (pc1 := 5) rfl ?_
  refine ix_iload_n (i := 1) (j := 1) X (ix_tb_at tb_X11_refuse 3 rfl) rfl rfl (pc1 := 6) rfl ?_
  exact ix_iret X hr hlk (ix_r2 (f := fun r => some (.int r)) (g := ix_w z) h) (ix_tb_at tb_X11_refuse 4 rfl)
def tab_X11_names : List (Nat × Instr × Nat) := [(0, .iload_n 1, 1), (1, .ifCond .lt 10, 3), (4, .iload_n 1, 1), (5, .sipush 300, 3), (8, .if_icmp .le 11, 3), (11, .aload_n 0, 1), (12, .sipush (-1001), 3), (15, .invokevirtual 73, 3), (18, .ireturn, 1), (19, .iload_n 1, 1), (20, .sipush 300, 3), (23, .aload_n 0, 1), (24, .getfield 28, 3), (27, .getfield 77, 3), (30, .isub, 1), (31, .if_icmp .le 11, 3), (34, .aload_n 0, 1), (35, .sipush (-1003), 3), (38, .invokevirtual 73, 3), (41, .ireturn, 1), (42, .aload_n 0, 1), (43, .getfield 28, 3), (46, .dup, 1), (47, .getfield 77, 3), (50, .iload_n 1, 1), (51, .iadd, 1), (52, .putfield 77, 3), (55, .aload_n 0, 1), (56, .iconst 0, 1), (57, .putfield 80, 3), (60, .aload_n 0, 1), (61, .getfield 28, 3), (64, .getfield 77, 3), (67, .ireturn, 1)]
theorem tb_X11_names : ix_tab cX11_names tab_X11_names := by
  unfold ix_tab
  decide +kernel
noncomputable def f_X11_names_11 (n : Nat) (z : ix_Z)  (a0 : Nat) (d : ix_D2) : Option (Int32 × ix_D2) :=
  ix_ck (ix_ok z [10] a0) (ix_bd2 (f_X11_refuse n z a0 ((-1001)) d) (fun r_5 d_2 => some (r_5, d_2)))
noncomputable def f_X11_names (n : Nat) (z : ix_Z) (a0 : Nat) (x1 : Int32) (d : ix_D2) : Option (Int32 × ix_D2) :=
  ix_if (x1 < 0) (f_X11_names_11 n z  a0 d) (ix_if (x1 ≤ 300) (ix_ck (ix_ok z [10] a0) (ix_bd1 (z.1 a0 3) (fun b_8 => ix_ck (ix_ok z [2] b_8) (ix_if (x1 ≤ 300 - (d.1 b_8 5)) (ix_lt (ix_di d b_8 5 ((d.1 b_8 5) + x1)) (fun d_12 => ix_lt (ix_di d_12 a0 14 0) (fun d_14 => some (d_14.1 b_8 5, d_14)))) (ix_bd2 (f_X11_refuse n z a0 ((-1003)) d) (fun r_18 d_16 => some (r_18, d_16))))))) (f_X11_names_11 n z  a0 d))
set_option maxRecDepth 20000 in
theorem t_X11_names_11 {l : Launch} {p : Program} {e : Env} {s : State} {m : MethodId} {args : Array Value} {below : List Frame} {meth : Method} {c : Code} {K : ix_Cx} (hKp : ix_Kp K) {n : Nat} {z : ix_Z} (X : ix_X p s m args c K cX11_names RX11 2) (hr : meth.sig.returnType = (some .int)) (hlk : meth.locks = false)  {a0 : Nat} {r : Int32} {d1 : ix_D2}  {d : ix_D2} (h : f_X11_names_11 n z  a0 d = some (r, d1)) : ix_G p l e (ix_rm 1 21 0 0) s m args below meth c (MQ below (ix_Post K (some (.int r)) (ix_w z d1)) args s 0 0 (ix_A K)) K 2 0 0 11 [(0, .ref (K.2.2.1 + a0))] [] (ix_w z d) := by
  unfold f_X11_names_11 at h
  refine ix_aload_n (i := 0) (j := 0) X (ix_tb_at tb_X11_names 5 rfl) rfl rfl (pc1 := 12) rfl ?_
  refine ix_sipush (v := (-1001)) X (ix_tb_at tb_X11_names 6 rfl) (by decide) (pc1 := 15) rfl ?_
  obtain ⟨k_4, h⟩ := ix_ck_some h
  obtain ⟨r_5, d_2, h_3, h⟩ := ix_bd2_ex h
  refine ix_callV (As := [.int ((-1001))]) (rest := []) (ci := 10) (T := TX11) (nf := 18) X mf_X11_refuse mi_X11_refuse ms_X11_refuse rfl (Nat.le_of_ble_eq_true rfl) ml_RX11_73 ⟨Nat.le_of_ble_eq_true rfl, Nat.le_of_ble_eq_true rfl⟩ ⟨Nat.le_of_ble_eq_true rfl, Nat.le_of_ble_eq_true rfl⟩ rfl (Nat.le_of_ble_eq_true rfl) (ix_tb_at tb_X11_names 7 rfl) ⟨k_4.1, List.mem_singleton.mp k_4.2⟩ (c_X11_refuse hKp h_3) rfl (pc1 := 18) rfl ?_
  exact ix_iret X hr hlk (ix_r2 (f := fun r => some (.int r)) (g := ix_w z) h) (ix_tb_at tb_X11_names 8 rfl)
set_option maxRecDepth 20000 in
theorem c_X11_names {l : Launch} {K : ix_Cx} (hKp : ix_Kp K) {n : Nat} {z : ix_Z} {a0 : Nat} {x1 : Int32} {d : ix_D2} {r : Int32} {d1 : ix_D2} (h : f_X11_names n z a0 x1 d = some (r, d1)) : ix_M l K yX11_names cX11_names 2 (some .int) 1 21 0 0 [.ref (K.2.2.1 + a0), .int x1] (ix_w z d) (some (.int r)) (ix_w z d1) := by
  refine ix_met mf_X11_names hKp (Nat.le_of_ble_eq_true rfl) ?_
  intro p e s m args below meth c hr hlk hnm X
  have X : ix_X p s m args c K cX11_names RX11 2 := X
  show ix_G p l e (ix_rm 1 21 0 0) s m args below meth c (MQ below (ix_Post K (some (.int r)) (ix_w z d1)) args s 0 0 (ix_A K)) K 2 0 0 0 [(0, .ref (K.2.2.1 + a0)), (1, .int x1)] [] (ix_w z d)
  unfold f_X11_names at h
  refine ix_iload_n (i := 1) (j := 1) X (ix_tb_at tb_X11_names 0 rfl) rfl rfl (pc1 := 1) rfl ?_
  refine ix_if_lt (tgt := 11) X (ix_tb_at tb_X11_names 1 rfl) (by decide) (pc1 := 4) rfl (fun q_1 => ?_) (fun q_1 => ?_)
  · have h := ix_ift q_1 h
    refine ix_sub (L1 := [(0, .ref (K.2.2.1 + a0))]) [0] rfl ?_
    exact t_X11_names_11 hKp X hr hlk  h
  · have h := ix_iff q_1 h
    refine ix_iload_n (i := 1) (j := 1) X (ix_tb_at tb_X11_names 2 rfl) rfl rfl (pc1 := 5) rfl ?_
    refine ix_sipush (v := 300) X (ix_tb_at tb_X11_names 3 rfl) (by decide) (pc1 := 8) rfl ?_
    refine ix_icmp_le (tgt := 19) X (ix_tb_at tb_X11_names 4 rfl) (by decide) (pc1 := 11) rfl (fun q_6 => ?_) (fun q_6 => ?_)
    · have h := ix_ift q_6 h
      refine ix_iload_n (i := 1) (j := 1) X (ix_tb_at tb_X11_names 9 rfl) rfl rfl (pc1 := 20) rfl ?_
      refine ix_sipush (v := 300) X (ix_tb_at tb_X11_names 10 rfl) (by decide) (pc1 := 23) rfl ?_
      refine ix_aload_n (i := 0) (j := 0) X (ix_tb_at tb_X11_names 11 rfl) rfl rfl (pc1 := 24) rfl ?_
      obtain ⟨k_7, h⟩ := ix_ck_some h
      obtain ⟨b_8, q_9, h⟩ := ix_bd1_ex h
      refine iz_getR X fl_RX11_28 k_7 q_9 (ix_tb_at tb_X11_names 12 rfl) (pc1 := 27) rfl ?_
      obtain ⟨k_10, h⟩ := ix_ck_some h
      refine iz_getI X fl_RX11_77 k_10 (ix_tb_at tb_X11_names 13 rfl) (pc1 := 30) rfl ?_
      refine ix_isub X (ix_tb_at tb_X11_names 14 rfl) (pc1 := 31) rfl ?_
      refine ix_icmp_le (tgt := 42) X (ix_tb_at tb_X11_names 15 rfl) (by decide) (pc1 := 34) rfl (fun q_11 => ?_) (fun q_11 => ?_)
      · have h := ix_ift q_11 h
        refine ix_aload_n (i := 0) (j := 0) X (ix_tb_at tb_X11_names 20 rfl) rfl rfl (pc1 := 43) rfl ?_
        refine iz_getR X fl_RX11_28 k_7 q_9 (ix_tb_at tb_X11_names 21 rfl) (pc1 := 46) rfl ?_
        refine ix_dup X (ix_tb_at tb_X11_names 22 rfl) rfl (pc1 := 47) rfl ?_
        refine iz_getI X fl_RX11_77 k_10 (ix_tb_at tb_X11_names 23 rfl) (pc1 := 50) rfl ?_
        refine ix_iload_n (i := 1) (j := 1) X (ix_tb_at tb_X11_names 24 rfl) rfl rfl (pc1 := 51) rfl ?_
        refine ix_iadd X (ix_tb_at tb_X11_names 25 rfl) (pc1 := 52) rfl ?_
        obtain ⟨d_12, e_13, h⟩ := ix_lt_ex h
        refine iz_putI X fp_RX11_77 k_10 (ix_tb_at tb_X11_names 26 rfl) e_13 (pc1 := 55) rfl ?_
        refine ix_aload_n (i := 0) (j := 0) X (ix_tb_at tb_X11_names 27 rfl) rfl rfl (pc1 := 56) rfl ?_
        refine ix_iconst (v := 0) X (ix_tb_at tb_X11_names 28 rfl) (by decide) (pc1 := 57) rfl ?_
        obtain ⟨d_14, e_15, h⟩ := ix_lt_ex h
        refine iz_putZ X fp_RX11_80 k_7 (ix_tb_at tb_X11_names 29 rfl) (by decide) e_15 (pc1 := 60) rfl ?_
        refine ix_aload_n (i := 0) (j := 0) X (ix_tb_at tb_X11_names 30 rfl) rfl rfl (pc1 := 61) rfl ?_
        refine iz_getR X fl_RX11_28 k_7 q_9 (ix_tb_at tb_X11_names 31 rfl) (pc1 := 64) rfl ?_
        refine iz_getI X fl_RX11_77 k_10 (ix_tb_at tb_X11_names 32 rfl) (pc1 := 67) rfl ?_
        exact ix_iret X hr hlk (ix_r2 (f := fun r => some (.int r)) (g := ix_w z) h) (ix_tb_at tb_X11_names 33 rfl)
      · have h := ix_iff q_11 h
        refine ix_aload_n (i := 0) (j := 0) X (ix_tb_at tb_X11_names 16 rfl) rfl rfl (pc1 := 35) rfl ?_
        refine ix_sipush (v := (-1003)) X (ix_tb_at tb_X11_names 17 rfl) (by decide) (pc1 := 38) rfl ?_
        obtain ⟨r_18, d_16, h_17, h⟩ := ix_bd2_ex h
        refine ix_callV (As := [.int ((-1003))]) (rest := []) (ci := 10) (T := TX11) (nf := 18) X mf_X11_refuse mi_X11_refuse ms_X11_refuse rfl (Nat.le_of_ble_eq_true rfl) ml_RX11_73 ⟨Nat.le_of_ble_eq_true rfl, Nat.le_of_ble_eq_true rfl⟩ ⟨Nat.le_of_ble_eq_true rfl, Nat.le_of_ble_eq_true rfl⟩ rfl (Nat.le_of_ble_eq_true rfl) (ix_tb_at tb_X11_names 18 rfl) ⟨k_7.1, List.mem_singleton.mp k_7.2⟩ (c_X11_refuse hKp h_17) rfl (pc1 := 41) rfl ?_
        exact ix_iret X hr hlk (ix_r2 (f := fun r => some (.int r)) (g := ix_w z) h) (ix_tb_at tb_X11_names 19 rfl)
    · have h := ix_iff q_6 h
      refine ix_sub (L1 := [(0, .ref (K.2.2.1 + a0))]) [0] rfl ?_
      exact t_X11_names_11 hKp X hr hlk  h
def tab_X11_isPaper : List (Nat × Instr × Nat) := [(0, .iload_n 0, 1), (1, .ifCond .lt 13, 3), (4, .iload_n 0, 1), (5, .bipush 40, 2), (7, .if_icmp .ge 7, 3), (10, .iconst 1, 1), (11, .goto 4, 3), (14, .iconst 0, 1), (15, .ireturn, 1)]
theorem tb_X11_isPaper : ix_tab cX11_isPaper tab_X11_isPaper := by
  unfold ix_tab
  decide +kernel
noncomputable def f_X11_isPaper (n : Nat) (z : ix_Z) (x0 : Int32) (d : ix_D2) : Option (Int32 × ix_D2) :=
  ix_if (x0 < 0) (some (0, d)) (ix_if (40 ≤ x0) (some (0, d)) (some (1, d)))
set_option maxRecDepth 20000 in
theorem c_X11_isPaper {l : Launch} {K : ix_Cx} (hKp : ix_Kp K) {n : Nat} {z : ix_Z} {x0 : Int32} {d : ix_D2} {r : Int32} {d1 : ix_D2} (h : f_X11_isPaper n z x0 d = some (r, d1)) : ix_M l K yX11_isPaper cX11_isPaper 1 (some .boolean) 0 0 0 0 [.int x0] (ix_w z d) (some (.int r)) (ix_w z d1) := by
  refine ix_met mf_X11_isPaper hKp (Nat.le_of_ble_eq_true rfl) ?_
  intro p e s m args below meth c hr hlk hnm X
  have X : ix_X p s m args c K cX11_isPaper RX11 1 := X
  show ix_G p l e (ix_rm 0 0 0 0) s m args below meth c (MQ below (ix_Post K (some (.int r)) (ix_w z d1)) args s 0 0 (ix_A K)) K 1 0 0 0 [(0, .int x0)] [] (ix_w z d)
  unfold f_X11_isPaper at h
  refine ix_iload_n (i := 0) (j := 0) X (ix_tb_at tb_X11_isPaper 0 rfl) rfl rfl (pc1 := 1) rfl ?_
  refine ix_if_lt (tgt := 14) X (ix_tb_at tb_X11_isPaper 1 rfl) (by decide) (pc1 := 4) rfl (fun q_1 => ?_) (fun q_1 => ?_)
  · have h := ix_ift q_1 h
    refine ix_iconst (v := 0) X (ix_tb_at tb_X11_isPaper 7 rfl) (by decide) (pc1 := 15) rfl ?_
    exact ix_zret X hr hlk (by decide) (ix_r2 (f := fun r => some (.int r)) (g := ix_w z) h) (ix_tb_at tb_X11_isPaper 8 rfl)
  · have h := ix_iff q_1 h
    refine ix_iload_n (i := 0) (j := 0) X (ix_tb_at tb_X11_isPaper 2 rfl) rfl rfl (pc1 := 5) rfl ?_
    refine ix_bipush (v := 40) X (ix_tb_at tb_X11_isPaper 3 rfl) (by decide) (pc1 := 7) rfl ?_
    refine ix_icmp_ge (tgt := 14) X (ix_tb_at tb_X11_isPaper 4 rfl) (by decide) (pc1 := 10) rfl (fun q_2 => ?_) (fun q_2 => ?_)
    · have h := ix_ift q_2 h
      refine ix_iconst (v := 0) X (ix_tb_at tb_X11_isPaper 7 rfl) (by decide) (pc1 := 15) rfl ?_
      exact ix_zret X hr hlk (by decide) (ix_r2 (f := fun r => some (.int r)) (g := ix_w z) h) (ix_tb_at tb_X11_isPaper 8 rfl)
    · have h := ix_iff q_2 h
      refine ix_iconst (v := 1) X (ix_tb_at tb_X11_isPaper 5 rfl) (by decide) (pc1 := 11) rfl ?_
      refine ix_goto (tgt := 15) X (ix_tb_at tb_X11_isPaper 6 rfl) (by decide) ?_
      exact ix_zret X hr hlk (by decide) (ix_r2 (f := fun r => some (.int r)) (g := ix_w z) h) (ix_tb_at tb_X11_isPaper 8 rfl)
def tab_X11_row : List (Nat × Instr × Nat) := [(0, .iload_n 1, 1), (1, .invokestatic 84, 3), (4, .ifCond .eq 9, 3), (7, .iload_n 2, 1), (8, .bipush 12, 2), (10, .if_icmp .le 11, 3), (13, .aload_n 0, 1), (14, .sipush (-1001), 3), (17, .invokevirtual 73, 3), (20, .ireturn, 1), (21, .iload_n 2, 1), (22, .ifCond .ge 11, 3), (25, .aload_n 0, 1), (26, .sipush (-1014), 3), (29, .invokevirtual 73, 3), (32, .ireturn, 1), (33, .aload_n 0, 1), (34, .getfield 11, 3), (37, .iload_n 1, 1), (38, .aaload, 1), (39, .iconst 0, 1), (40, .invokestatic 67, 3), (43, .aload_n 0, 1), (44, .getfield 14, 3), (47, .iload_n 1, 1), (48, .iload_n 2, 1), (49, .iastore, 1), (50, .iload_n 2, 1), (51, .ireturn, 1)]
theorem tb_X11_row : ix_tab cX11_row tab_X11_row := by
  unfold ix_tab
  decide +kernel
noncomputable def f_X11_row_13 (n : Nat) (z : ix_Z)  (a0 : Nat) (d : ix_D2) : Option (Int32 × ix_D2) :=
  ix_ck (ix_ok z [10] a0) (ix_bd2 (f_X11_refuse n z a0 ((-1001)) d) (fun r_8 d_5 => some (r_8, d_5)))
noncomputable def f_X11_row (n : Nat) (z : ix_Z) (a0 : Nat) (x1 : Int32) (x2 : Int32) (d : ix_D2) : Option (Int32 × ix_D2) :=
  ix_bd2 (f_X11_isPaper n z x1 d) (fun r_3 d_1 => ix_if (r_3 = 0) (f_X11_row_13 n z  a0 d_1) (ix_if (x2 ≤ 12) (ix_if (0 ≤ x2) (ix_ck (ix_ok z [10] a0) (ix_bd1 (z.1 a0 0) (fun b_12 => ix_ck (ix_ix z 25 b_12 x1) (ix_bd1 (z.1 b_12 (ix_n x1)) (fun b_15 => ix_bd1 (f_J7_fill_53178 n z b_15 0 d_1) (fun d_17 => ix_bd1 (z.1 a0 1) (fun b_19 => ix_ck (ix_ix z 20 b_19 x1) (ix_lt (ix_di d_17 b_19 (ix_n x1) x2) (fun d_22 => some (x2, d_22)))))))))) (ix_ck (ix_ok z [10] a0) (ix_bd2 (f_X11_refuse n z a0 ((-1014)) d_1) (fun r_27 d_24 => some (r_27, d_24))))) (f_X11_row_13 n z  a0 d_1)))
set_option maxRecDepth 20000 in
theorem t_X11_row_13 {l : Launch} {p : Program} {e : Env} {s : State} {m : MethodId} {args : Array Value} {below : List Frame} {meth : Method} {c : Code} {K : ix_Cx} (hKp : ix_Kp K) {n : Nat} {z : ix_Z} (X : ix_X p s m args c K cX11_row RX11 3) (hr : meth.sig.returnType = (some .int)) (hlk : meth.locks = false)  {a0 : Nat} {r : Int32} {d1 : ix_D2}  {d : ix_D2} (h : f_X11_row_13 n z  a0 d = some (r, d1)) : ix_G p l e (ix_rm 1 23 0 0) s m args below meth c (MQ below (ix_Post K (some (.int r)) (ix_w z d1)) args s 0 0 (ix_A K)) K 3 0 0 13 [(0, .ref (K.2.2.1 + a0))] [] (ix_w z d) := by
  unfold f_X11_row_13 at h
  refine ix_aload_n (i := 0) (j := 0) X (ix_tb_at tb_X11_row 6 rfl) rfl rfl (pc1 := 14) rfl ?_
  refine ix_sipush (v := (-1001)) X (ix_tb_at tb_X11_row 7 rfl) (by decide) (pc1 := 17) rfl ?_
  obtain ⟨k_7, h⟩ := ix_ck_some h
  obtain ⟨r_8, d_5, h_6, h⟩ := ix_bd2_ex h
  refine ix_callV (As := [.int ((-1001))]) (rest := []) (ci := 10) (T := TX11) (nf := 18) X mf_X11_refuse mi_X11_refuse ms_X11_refuse rfl (Nat.le_of_ble_eq_true rfl) ml_RX11_73 ⟨Nat.le_of_ble_eq_true rfl, Nat.le_of_ble_eq_true rfl⟩ ⟨Nat.le_of_ble_eq_true rfl, Nat.le_of_ble_eq_true rfl⟩ rfl (Nat.le_of_ble_eq_true rfl) (ix_tb_at tb_X11_row 8 rfl) ⟨k_7.1, List.mem_singleton.mp k_7.2⟩ (c_X11_refuse hKp h_6) rfl (pc1 := 20) rfl ?_
  exact ix_iret X hr hlk (ix_r2 (f := fun r => some (.int r)) (g := ix_w z) h) (ix_tb_at tb_X11_row 9 rfl)
set_option maxRecDepth 20000 in
theorem c_X11_row {l : Launch} {K : ix_Cx} (hKp : ix_Kp K) {n : Nat} {z : ix_Z} {a0 : Nat} {x1 : Int32} {x2 : Int32} {d : ix_D2} {r : Int32} {d1 : ix_D2} (h : f_X11_row n z a0 x1 x2 d = some (r, d1)) : ix_M l K yX11_row cX11_row 3 (some .int) 1 23 0 0 [.ref (K.2.2.1 + a0), .int x1, .int x2] (ix_w z d) (some (.int r)) (ix_w z d1) := by
  refine ix_met mf_X11_row hKp (Nat.le_of_ble_eq_true rfl) ?_
  intro p e s m args below meth c hr hlk hnm X
  have X : ix_X p s m args c K cX11_row RX11 3 := X
  show ix_G p l e (ix_rm 1 23 0 0) s m args below meth c (MQ below (ix_Post K (some (.int r)) (ix_w z d1)) args s 0 0 (ix_A K)) K 3 0 0 0 [(0, .ref (K.2.2.1 + a0)), (1, .int x1), (2, .int x2)] [] (ix_w z d)
  unfold f_X11_row at h
  refine ix_iload_n (i := 1) (j := 1) X (ix_tb_at tb_X11_row 0 rfl) rfl rfl (pc1 := 1) rfl ?_
  obtain ⟨r_3, d_1, h_2, h⟩ := ix_bd2_ex h
  refine ix_callS (As := [.int x1]) (rest := []) X mf_X11_isPaper st_X11_isPaper ml_RX11_84 ⟨Nat.le_of_ble_eq_true rfl, Nat.le_of_ble_eq_true rfl⟩ ⟨Nat.le_of_ble_eq_true rfl, Nat.le_of_ble_eq_true rfl⟩ rfl (Nat.le_of_ble_eq_true rfl) (ix_tb_at tb_X11_row 1 rfl) (c_X11_isPaper hKp h_2) rfl (pc1 := 4) rfl ?_
  refine ix_if_eq (tgt := 13) X (ix_tb_at tb_X11_row 2 rfl) (by decide) (pc1 := 7) rfl (fun q_4 => ?_) (fun q_4 => ?_)
  · have h := ix_ift q_4 h
    refine ix_sub (L1 := [(0, .ref (K.2.2.1 + a0))]) [0] rfl ?_
    exact t_X11_row_13 hKp X hr hlk  h
  · have h := ix_iff q_4 h
    refine ix_iload_n (i := 2) (j := 2) X (ix_tb_at tb_X11_row 3 rfl) rfl rfl (pc1 := 8) rfl ?_
    refine ix_bipush (v := 12) X (ix_tb_at tb_X11_row 4 rfl) (by decide) (pc1 := 10) rfl ?_
    refine ix_icmp_le (tgt := 21) X (ix_tb_at tb_X11_row 5 rfl) (by decide) (pc1 := 13) rfl (fun q_9 => ?_) (fun q_9 => ?_)
    · have h := ix_ift q_9 h
      refine ix_iload_n (i := 2) (j := 2) X (ix_tb_at tb_X11_row 10 rfl) rfl rfl (pc1 := 22) rfl ?_
      refine ix_if_ge (tgt := 33) X (ix_tb_at tb_X11_row 11 rfl) (by decide) (pc1 := 25) rfl (fun q_10 => ?_) (fun q_10 => ?_)
      · have h := ix_ift q_10 h
        refine ix_aload_n (i := 0) (j := 0) X (ix_tb_at tb_X11_row 16 rfl) rfl rfl (pc1 := 34) rfl ?_
        obtain ⟨k_11, h⟩ := ix_ck_some h
        obtain ⟨b_12, q_13, h⟩ := ix_bd1_ex h
        refine iz_getR X fl_RX11_11 k_11 q_13 (ix_tb_at tb_X11_row 17 rfl) (pc1 := 37) rfl ?_
        refine ix_iload_n (i := 1) (j := 1) X (ix_tb_at tb_X11_row 18 rfl) rfl rfl (pc1 := 38) rfl ?_
        obtain ⟨k_14, h⟩ := ix_ck_some h
        refine iz_aald X (Or.inr rfl) k_14 (ix_tb_at tb_X11_row 19 rfl) (pc1 := 39) rfl ?_
        obtain ⟨b_15, q_16, h⟩ := ix_bd1_ex h
        refine ix_rvs q_16 ?_
        refine ix_iconst (v := 0) X (ix_tb_at tb_X11_row 20 rfl) (by decide) (pc1 := 40) rfl ?_
        obtain ⟨d_17, h_18, h⟩ := ix_bd1_ex h
        refine ix_callS (As := [.ref (K.2.2.1 + b_15), .int 0]) (rest := []) X mf_J7_fill_53178 st_J7_fill_53178 ml_RX11_67 ⟨Nat.le_of_ble_eq_true rfl, Nat.le_of_ble_eq_true rfl⟩ ⟨Nat.le_of_ble_eq_true rfl, Nat.le_of_ble_eq_true rfl⟩ rfl (Nat.le_of_ble_eq_true rfl) (ix_tb_at tb_X11_row 21 rfl) (c_J7_fill_53178 hKp h_18) rfl (pc1 := 43) rfl ?_
        refine ix_aload_n (i := 0) (j := 0) X (ix_tb_at tb_X11_row 22 rfl) rfl rfl (pc1 := 44) rfl ?_
        obtain ⟨b_19, q_20, h⟩ := ix_bd1_ex h
        refine iz_getR X fl_RX11_14 k_11 q_20 (ix_tb_at tb_X11_row 23 rfl) (pc1 := 47) rfl ?_
        refine ix_iload_n (i := 1) (j := 1) X (ix_tb_at tb_X11_row 24 rfl) rfl rfl (pc1 := 48) rfl ?_
        refine ix_iload_n (i := 2) (j := 2) X (ix_tb_at tb_X11_row 25 rfl) rfl rfl (pc1 := 49) rfl ?_
        obtain ⟨k_21, h⟩ := ix_ck_some h
        obtain ⟨d_22, e_23, h⟩ := ix_lt_ex h
        refine iz_iast X k_21 (ix_tb_at tb_X11_row 26 rfl) e_23 (pc1 := 50) rfl ?_
        refine ix_iload_n (i := 2) (j := 2) X (ix_tb_at tb_X11_row 27 rfl) rfl rfl (pc1 := 51) rfl ?_
        exact ix_iret X hr hlk (ix_r2 (f := fun r => some (.int r)) (g := ix_w z) h) (ix_tb_at tb_X11_row 28 rfl)
      · have h := ix_iff q_10 h
        refine ix_aload_n (i := 0) (j := 0) X (ix_tb_at tb_X11_row 12 rfl) rfl rfl (pc1 := 26) rfl ?_
        refine ix_sipush (v := (-1014)) X (ix_tb_at tb_X11_row 13 rfl) (by decide) (pc1 := 29) rfl ?_
        obtain ⟨k_26, h⟩ := ix_ck_some h
        obtain ⟨r_27, d_24, h_25, h⟩ := ix_bd2_ex h
        refine ix_callV (As := [.int ((-1014))]) (rest := []) (ci := 10) (T := TX11) (nf := 18) X mf_X11_refuse mi_X11_refuse ms_X11_refuse rfl (Nat.le_of_ble_eq_true rfl) ml_RX11_73 ⟨Nat.le_of_ble_eq_true rfl, Nat.le_of_ble_eq_true rfl⟩ ⟨Nat.le_of_ble_eq_true rfl, Nat.le_of_ble_eq_true rfl⟩ rfl (Nat.le_of_ble_eq_true rfl) (ix_tb_at tb_X11_row 14 rfl) ⟨k_26.1, List.mem_singleton.mp k_26.2⟩ (c_X11_refuse hKp h_25) rfl (pc1 := 32) rfl ?_
        exact ix_iret X hr hlk (ix_r2 (f := fun r => some (.int r)) (g := ix_w z) h) (ix_tb_at tb_X11_row 15 rfl)
    · have h := ix_iff q_9 h
      refine ix_sub (L1 := [(0, .ref (K.2.2.1 + a0))]) [0] rfl ?_
      exact t_X11_row_13 hKp X hr hlk  h
def tab_X11_drop : List (Nat × Instr × Nat) := [(0, .iload_n 1, 1), (1, .invokestatic 84, 3), (4, .ifCond .ne 11, 3), (7, .aload_n 0, 1), (8, .sipush (-1001), 3), (11, .invokevirtual 73, 3), (14, .ireturn, 1), (15, .aload_n 0, 1), (16, .getfield 14, 3), (19, .iload_n 1, 1), (20, .iconst (-1), 1), (21, .iastore, 1), (22, .iconst 1, 1), (23, .ireturn, 1)]
theorem tb_X11_drop : ix_tab cX11_drop tab_X11_drop := by
  unfold ix_tab
  decide +kernel
noncomputable def f_X11_drop (n : Nat) (z : ix_Z) (a0 : Nat) (x1 : Int32) (d : ix_D2) : Option (Int32 × ix_D2) :=
  ix_bd2 (f_X11_isPaper n z x1 d) (fun r_3 d_1 => ix_if (r_3 = 0) (ix_ck (ix_ok z [10] a0) (ix_bd2 (f_X11_refuse n z a0 ((-1001)) d_1) (fun r_14 d_11 => some (r_14, d_11)))) (ix_ck (ix_ok z [10] a0) (ix_bd1 (z.1 a0 1) (fun b_6 => ix_ck (ix_ix z 20 b_6 x1) (ix_lt (ix_di d_1 b_6 (ix_n x1) ((-1))) (fun d_9 => some (1, d_9)))))))
set_option maxRecDepth 20000 in
theorem c_X11_drop {l : Launch} {K : ix_Cx} (hKp : ix_Kp K) {n : Nat} {z : ix_Z} {a0 : Nat} {x1 : Int32} {d : ix_D2} {r : Int32} {d1 : ix_D2} (h : f_X11_drop n z a0 x1 d = some (r, d1)) : ix_M l K yX11_drop cX11_drop 2 (some .int) 1 21 0 0 [.ref (K.2.2.1 + a0), .int x1] (ix_w z d) (some (.int r)) (ix_w z d1) := by
  refine ix_met mf_X11_drop hKp (Nat.le_of_ble_eq_true rfl) ?_
  intro p e s m args below meth c hr hlk hnm X
  have X : ix_X p s m args c K cX11_drop RX11 2 := X
  show ix_G p l e (ix_rm 1 21 0 0) s m args below meth c (MQ below (ix_Post K (some (.int r)) (ix_w z d1)) args s 0 0 (ix_A K)) K 2 0 0 0 [(0, .ref (K.2.2.1 + a0)), (1, .int x1)] [] (ix_w z d)
  unfold f_X11_drop at h
  refine ix_iload_n (i := 1) (j := 1) X (ix_tb_at tb_X11_drop 0 rfl) rfl rfl (pc1 := 1) rfl ?_
  obtain ⟨r_3, d_1, h_2, h⟩ := ix_bd2_ex h
  refine ix_callS (As := [.int x1]) (rest := []) X mf_X11_isPaper st_X11_isPaper ml_RX11_84 ⟨Nat.le_of_ble_eq_true rfl, Nat.le_of_ble_eq_true rfl⟩ ⟨Nat.le_of_ble_eq_true rfl, Nat.le_of_ble_eq_true rfl⟩ rfl (Nat.le_of_ble_eq_true rfl) (ix_tb_at tb_X11_drop 1 rfl) (c_X11_isPaper hKp h_2) rfl (pc1 := 4) rfl ?_
  refine ix_if_ne (tgt := 15) X (ix_tb_at tb_X11_drop 2 rfl) (by decide) (pc1 := 7) rfl (fun q_4 => ?_) (fun q_4 => ?_)
  · have h := ix_iff q_4 h
    refine ix_aload_n (i := 0) (j := 0) X (ix_tb_at tb_X11_drop 7 rfl) rfl rfl (pc1 := 16) rfl ?_
    obtain ⟨k_5, h⟩ := ix_ck_some h
    obtain ⟨b_6, q_7, h⟩ := ix_bd1_ex h
    refine iz_getR X fl_RX11_14 k_5 q_7 (ix_tb_at tb_X11_drop 8 rfl) (pc1 := 19) rfl ?_
    refine ix_iload_n (i := 1) (j := 1) X (ix_tb_at tb_X11_drop 9 rfl) rfl rfl (pc1 := 20) rfl ?_
    refine ix_iconst (v := (-1)) X (ix_tb_at tb_X11_drop 10 rfl) (by decide) (pc1 := 21) rfl ?_
    obtain ⟨k_8, h⟩ := ix_ck_some h
    obtain ⟨d_9, e_10, h⟩ := ix_lt_ex h
    refine iz_iast X k_8 (ix_tb_at tb_X11_drop 11 rfl) e_10 (pc1 := 22) rfl ?_
    refine ix_iconst (v := 1) X (ix_tb_at tb_X11_drop 12 rfl) (by decide) (pc1 := 23) rfl ?_
    exact ix_iret X hr hlk (ix_r2 (f := fun r => some (.int r)) (g := ix_w z) h) (ix_tb_at tb_X11_drop 13 rfl)
  · have h := ix_ift q_4 h
    refine ix_aload_n (i := 0) (j := 0) X (ix_tb_at tb_X11_drop 3 rfl) rfl rfl (pc1 := 8) rfl ?_
    refine ix_sipush (v := (-1001)) X (ix_tb_at tb_X11_drop 4 rfl) (by decide) (pc1 := 11) rfl ?_
    obtain ⟨k_13, h⟩ := ix_ck_some h
    obtain ⟨r_14, d_11, h_12, h⟩ := ix_bd2_ex h
    refine ix_callV (As := [.int ((-1001))]) (rest := []) (ci := 10) (T := TX11) (nf := 18) X mf_X11_refuse mi_X11_refuse ms_X11_refuse rfl (Nat.le_of_ble_eq_true rfl) ml_RX11_73 ⟨Nat.le_of_ble_eq_true rfl, Nat.le_of_ble_eq_true rfl⟩ ⟨Nat.le_of_ble_eq_true rfl, Nat.le_of_ble_eq_true rfl⟩ rfl (Nat.le_of_ble_eq_true rfl) (ix_tb_at tb_X11_drop 5 rfl) ⟨k_13.1, List.mem_singleton.mp k_13.2⟩ (c_X11_refuse hKp h_12) rfl (pc1 := 14) rfl ?_
    exact ix_iret X hr hlk (ix_r2 (f := fun r => some (.int r)) (g := ix_w z) h) (ix_tb_at tb_X11_drop 6 rfl)
def tab_X11_lookForRow : List (Nat × Instr × Nat) := [(0, .iload_n 1, 1), (1, .invokestatic 84, 3), (4, .ifCond .ne 7, 3), (7, .sipush (-1001), 3), (10, .ireturn, 1), (11, .aload_n 0, 1), (12, .getfield 14, 3), (15, .iload_n 1, 1), (16, .iaload, 1), (17, .iconst (-1), 1), (18, .if_icmp .ne 9, 3), (21, .sipush (-1011), 3), (24, .goto 4, 3), (27, .iconst 0, 1), (28, .ireturn, 1)]
theorem tb_X11_lookForRow : ix_tab cX11_lookForRow tab_X11_lookForRow := by
  unfold ix_tab
  decide +kernel
noncomputable def f_X11_lookForRow (n : Nat) (z : ix_Z) (a0 : Nat) (x1 : Int32) (d : ix_D2) : Option (Int32 × ix_D2) :=
  ix_bd2 (f_X11_isPaper n z x1 d) (fun r_3 d_1 => ix_if (r_3 = 0) (some ((-1001), d_1)) (ix_ck (ix_ok z [10] a0) (ix_bd1 (z.1 a0 1) (fun b_6 => ix_ck (ix_ix z 20 b_6 x1) (ix_if (d_1.1 b_6 (ix_n x1) = (-1)) (some ((-1011), d_1)) (some (0, d_1)))))))
set_option maxRecDepth 20000 in
theorem c_X11_lookForRow {l : Launch} {K : ix_Cx} (hKp : ix_Kp K) {n : Nat} {z : ix_Z} {a0 : Nat} {x1 : Int32} {d : ix_D2} {r : Int32} {d1 : ix_D2} (h : f_X11_lookForRow n z a0 x1 d = some (r, d1)) : ix_M l K yX11_lookForRow cX11_lookForRow 2 (some .int) 1 20 0 0 [.ref (K.2.2.1 + a0), .int x1] (ix_w z d) (some (.int r)) (ix_w z d1) := by
  refine ix_met mf_X11_lookForRow hKp (Nat.le_of_ble_eq_true rfl) ?_
  intro p e s m args below meth c hr hlk hnm X
  have X : ix_X p s m args c K cX11_lookForRow RX11 2 := X
  show ix_G p l e (ix_rm 1 20 0 0) s m args below meth c (MQ below (ix_Post K (some (.int r)) (ix_w z d1)) args s 0 0 (ix_A K)) K 2 0 0 0 [(0, .ref (K.2.2.1 + a0)), (1, .int x1)] [] (ix_w z d)
  unfold f_X11_lookForRow at h
  refine ix_iload_n (i := 1) (j := 1) X (ix_tb_at tb_X11_lookForRow 0 rfl) rfl rfl (pc1 := 1) rfl ?_
  obtain ⟨r_3, d_1, h_2, h⟩ := ix_bd2_ex h
  refine ix_callS (As := [.int x1]) (rest := []) X mf_X11_isPaper st_X11_isPaper ml_RX11_84 ⟨Nat.le_of_ble_eq_true rfl, Nat.le_of_ble_eq_true rfl⟩ ⟨Nat.le_of_ble_eq_true rfl, Nat.le_of_ble_eq_true rfl⟩ rfl (Nat.le_of_ble_eq_true rfl) (ix_tb_at tb_X11_lookForRow 1 rfl) (c_X11_isPaper hKp h_2) rfl (pc1 := 4) rfl ?_
  refine ix_if_ne (tgt := 11) X (ix_tb_at tb_X11_lookForRow 2 rfl) (by decide) (pc1 := 7) rfl (fun q_4 => ?_) (fun q_4 => ?_)
  · have h := ix_iff q_4 h
    refine ix_aload_n (i := 0) (j := 0) X (ix_tb_at tb_X11_lookForRow 5 rfl) rfl rfl (pc1 := 12) rfl ?_
    obtain ⟨k_5, h⟩ := ix_ck_some h
    obtain ⟨b_6, q_7, h⟩ := ix_bd1_ex h
    refine iz_getR X fl_RX11_14 k_5 q_7 (ix_tb_at tb_X11_lookForRow 6 rfl) (pc1 := 15) rfl ?_
    refine ix_iload_n (i := 1) (j := 1) X (ix_tb_at tb_X11_lookForRow 7 rfl) rfl rfl (pc1 := 16) rfl ?_
    obtain ⟨k_8, h⟩ := ix_ck_some h
    refine iz_iald X k_8 (ix_tb_at tb_X11_lookForRow 8 rfl) (pc1 := 17) rfl ?_
    refine ix_iconst (v := (-1)) X (ix_tb_at tb_X11_lookForRow 9 rfl) (by decide) (pc1 := 18) rfl ?_
    refine ix_icmp_ne (tgt := 27) X (ix_tb_at tb_X11_lookForRow 10 rfl) (by decide) (pc1 := 21) rfl (fun q_9 => ?_) (fun q_9 => ?_)
    · have h := ix_iff q_9 h
      refine ix_iconst (v := 0) X (ix_tb_at tb_X11_lookForRow 13 rfl) (by decide) (pc1 := 28) rfl ?_
      exact ix_iret X hr hlk (ix_r2 (f := fun r => some (.int r)) (g := ix_w z) h) (ix_tb_at tb_X11_lookForRow 14 rfl)
    · have h := ix_ift q_9 h
      refine ix_sipush (v := (-1011)) X (ix_tb_at tb_X11_lookForRow 11 rfl) (by decide) (pc1 := 24) rfl ?_
      refine ix_goto (tgt := 28) X (ix_tb_at tb_X11_lookForRow 12 rfl) (by decide) ?_
      exact ix_iret X hr hlk (ix_r2 (f := fun r => some (.int r)) (g := ix_w z) h) (ix_tb_at tb_X11_lookForRow 14 rfl)
  · have h := ix_ift q_4 h
    refine ix_sipush (v := (-1001)) X (ix_tb_at tb_X11_lookForRow 3 rfl) (by decide) (pc1 := 10) rfl ?_
    exact ix_iret X hr hlk (ix_r2 (f := fun r => some (.int r)) (g := ix_w z) h) (ix_tb_at tb_X11_lookForRow 4 rfl)
def tab_X11_lookForPlace : List (Nat × Instr × Nat) := [(0, .aload_n 0, 1), (1, .iload_n 1, 1), (2, .invokevirtual 92, 3), (5, .istore_n 3, 1), (6, .iload_n 3, 1), (7, .ifCond .eq 5, 3), (10, .iload_n 3, 1), (11, .ireturn, 1), (12, .iload_n 2, 1), (13, .ifCond .lt 13, 3), (16, .iload_n 2, 1), (17, .aload_n 0, 1), (18, .getfield 14, 3), (21, .iload_n 1, 1), (22, .iaload, 1), (23, .if_icmp .lt 9, 3), (26, .sipush (-1012), 3), (29, .goto 4, 3), (32, .iconst 0, 1), (33, .ireturn, 1)]
theorem tb_X11_lookForPlace : ix_tab cX11_lookForPlace tab_X11_lookForPlace := by
  unfold ix_tab
  decide +kernel
noncomputable def f_X11_lookForPlace_26 (n : Nat) (z : ix_Z)   (d : ix_D2) : Option (Int32 × ix_D2) :=
  some ((-1012), d)
noncomputable def f_X11_lookForPlace (n : Nat) (z : ix_Z) (a0 : Nat) (x1 : Int32) (x2 : Int32) (d : ix_D2) : Option (Int32 × ix_D2) :=
  ix_ck (ix_ok z [10] a0) (ix_bd2 (f_X11_lookForRow n z a0 x1 d) (fun r_4 d_1 => ix_if (r_4 = 0) (ix_if (x2 < 0) (f_X11_lookForPlace_26 n z   d_1) (ix_bd1 (z.1 a0 1) (fun b_7 => ix_ck (ix_ix z 20 b_7 x1) (ix_if (x2 < d_1.1 b_7 (ix_n x1)) (some (0, d_1)) (f_X11_lookForPlace_26 n z   d_1))))) (some (r_4, d_1))))
set_option maxRecDepth 20000 in
theorem t_X11_lookForPlace_26 {l : Launch} {p : Program} {e : Env} {s : State} {m : MethodId} {args : Array Value} {below : List Frame} {meth : Method} {c : Code} {K : ix_Cx} (hKp : ix_Kp K) {n : Nat} {z : ix_Z} (X : ix_X p s m args c K cX11_lookForPlace RX11 4) (hr : meth.sig.returnType = (some .int)) (hlk : meth.locks = false)   {r : Int32} {d1 : ix_D2}  {d : ix_D2} (h : f_X11_lookForPlace_26 n z   d = some (r, d1)) : ix_G p l e (ix_rm 2 41 0 0) s m args below meth c (MQ below (ix_Post K (some (.int r)) (ix_w z d1)) args s 0 0 (ix_A K)) K 4 0 0 26 [] [] (ix_w z d) := by
  unfold f_X11_lookForPlace_26 at h
  refine ix_sipush (v := (-1012)) X (ix_tb_at tb_X11_lookForPlace 16 rfl) (by decide) (pc1 := 29) rfl ?_
  refine ix_goto (tgt := 33) X (ix_tb_at tb_X11_lookForPlace 17 rfl) (by decide) ?_
  exact ix_iret X hr hlk (ix_r2 (f := fun r => some (.int r)) (g := ix_w z) h) (ix_tb_at tb_X11_lookForPlace 19 rfl)
set_option maxRecDepth 20000 in
theorem c_X11_lookForPlace {l : Launch} {K : ix_Cx} (hKp : ix_Kp K) {n : Nat} {z : ix_Z} {a0 : Nat} {x1 : Int32} {x2 : Int32} {d : ix_D2} {r : Int32} {d1 : ix_D2} (h : f_X11_lookForPlace n z a0 x1 x2 d = some (r, d1)) : ix_M l K yX11_lookForPlace cX11_lookForPlace 4 (some .int) 2 41 0 0 [.ref (K.2.2.1 + a0), .int x1, .int x2] (ix_w z d) (some (.int r)) (ix_w z d1) := by
  refine ix_met mf_X11_lookForPlace hKp (Nat.le_of_ble_eq_true rfl) ?_
  intro p e s m args below meth c hr hlk hnm X
  have X : ix_X p s m args c K cX11_lookForPlace RX11 4 := X
  show ix_G p l e (ix_rm 2 41 0 0) s m args below meth c (MQ below (ix_Post K (some (.int r)) (ix_w z d1)) args s 0 0 (ix_A K)) K 4 0 0 0 [(0, .ref (K.2.2.1 + a0)), (1, .int x1), (2, .int x2)] [] (ix_w z d)
  unfold f_X11_lookForPlace at h
  refine ix_aload_n (i := 0) (j := 0) X (ix_tb_at tb_X11_lookForPlace 0 rfl) rfl rfl (pc1 := 1) rfl ?_
  refine ix_iload_n (i := 1) (j := 1) X (ix_tb_at tb_X11_lookForPlace 1 rfl) rfl rfl (pc1 := 2) rfl ?_
  obtain ⟨k_3, h⟩ := ix_ck_some h
  obtain ⟨r_4, d_1, h_2, h⟩ := ix_bd2_ex h
  refine ix_callV (As := [.int x1]) (rest := []) (ci := 10) (T := TX11) (nf := 18) X mf_X11_lookForRow mi_X11_lookForRow ms_X11_lookForRow rfl (Nat.le_of_ble_eq_true rfl) ml_RX11_92 ⟨Nat.le_of_ble_eq_true rfl, Nat.le_of_ble_eq_true rfl⟩ ⟨Nat.le_of_ble_eq_true rfl, Nat.le_of_ble_eq_true rfl⟩ rfl (Nat.le_of_ble_eq_true rfl) (ix_tb_at tb_X11_lookForPlace 2 rfl) ⟨k_3.1, List.mem_singleton.mp k_3.2⟩ (c_X11_lookForRow hKp h_2) rfl (pc1 := 5) rfl ?_
  refine ix_istore_n (i := 3) (L1 := [(3, .int r_4), (0, .ref (K.2.2.1 + a0)), (1, .int x1), (2, .int x2)]) X (ix_tb_at tb_X11_lookForPlace 3 rfl) rfl (Nat.le_of_ble_eq_true rfl) rfl (pc1 := 6) rfl ?_
  refine ix_iload_n (i := 3) (j := 0) X (ix_tb_at tb_X11_lookForPlace 4 rfl) rfl rfl (pc1 := 7) rfl ?_
  refine ix_if_eq (tgt := 12) X (ix_tb_at tb_X11_lookForPlace 5 rfl) (by decide) (pc1 := 10) rfl (fun q_5 => ?_) (fun q_5 => ?_)
  · have h := ix_ift q_5 h
    refine ix_iload_n (i := 2) (j := 3) X (ix_tb_at tb_X11_lookForPlace 8 rfl) rfl rfl (pc1 := 13) rfl ?_
    refine ix_if_lt (tgt := 26) X (ix_tb_at tb_X11_lookForPlace 9 rfl) (by decide) (pc1 := 16) rfl (fun q_6 => ?_) (fun q_6 => ?_)
    · have h := ix_ift q_6 h
      refine ix_sub (L1 := []) [] rfl ?_
      exact t_X11_lookForPlace_26 hKp X hr hlk  h
    · have h := ix_iff q_6 h
      refine ix_iload_n (i := 2) (j := 3) X (ix_tb_at tb_X11_lookForPlace 10 rfl) rfl rfl (pc1 := 17) rfl ?_
      refine ix_aload_n (i := 0) (j := 1) X (ix_tb_at tb_X11_lookForPlace 11 rfl) rfl rfl (pc1 := 18) rfl ?_
      obtain ⟨b_7, q_8, h⟩ := ix_bd1_ex h
      refine iz_getR X fl_RX11_14 k_3 q_8 (ix_tb_at tb_X11_lookForPlace 12 rfl) (pc1 := 21) rfl ?_
      refine ix_iload_n (i := 1) (j := 2) X (ix_tb_at tb_X11_lookForPlace 13 rfl) rfl rfl (pc1 := 22) rfl ?_
      obtain ⟨k_9, h⟩ := ix_ck_some h
      refine iz_iald X k_9 (ix_tb_at tb_X11_lookForPlace 14 rfl) (pc1 := 23) rfl ?_
      refine ix_icmp_lt (tgt := 32) X (ix_tb_at tb_X11_lookForPlace 15 rfl) (by decide) (pc1 := 26) rfl (fun q_10 => ?_) (fun q_10 => ?_)
      · have h := ix_ift q_10 h
        refine ix_iconst (v := 0) X (ix_tb_at tb_X11_lookForPlace 18 rfl) (by decide) (pc1 := 33) rfl ?_
        exact ix_iret X hr hlk (ix_r2 (f := fun r => some (.int r)) (g := ix_w z) h) (ix_tb_at tb_X11_lookForPlace 19 rfl)
      · have h := ix_iff q_10 h
        refine ix_sub (L1 := []) [] rfl ?_
        exact t_X11_lookForPlace_26 hKp X hr hlk  h
  · have h := ix_iff q_5 h
    refine ix_iload_n (i := 3) (j := 0) X (ix_tb_at tb_X11_lookForPlace 6 rfl) rfl rfl (pc1 := 11) rfl ?_
    exact ix_iret X hr hlk (ix_r2 (f := fun r => some (.int r)) (g := ix_w z) h) (ix_tb_at tb_X11_lookForPlace 7 rfl)
def tab_X11_put : List (Nat × Instr × Nat) := [(0, .aload_n 0, 1), (1, .iload_n 1, 1), (2, .iload_n 2, 1), (3, .invokevirtual 88, 3), (6, .istore 4, 2), (8, .iload 4, 2), (10, .ifCond .eq 10, 3), (13, .aload_n 0, 1), (14, .iload 4, 2), (16, .invokevirtual 73, 3), (19, .ireturn, 1), (20, .aload_n 0, 1), (21, .getfield 11, 3), (24, .iload_n 1, 1), (25, .aaload, 1), (26, .iload_n 2, 1), (27, .iload_n 3, 1), (28, .iastore, 1), (29, .iconst 1, 1), (30, .ireturn, 1)]
theorem tb_X11_put : ix_tab cX11_put tab_X11_put := by
  unfold ix_tab
  decide +kernel
noncomputable def f_X11_put (n : Nat) (z : ix_Z) (a0 : Nat) (x1 : Int32) (x2 : Int32) (x3 : Int32) (d : ix_D2) : Option (Int32 × ix_D2) :=
  ix_ck (ix_ok z [10] a0) (ix_bd2 (f_X11_lookForPlace n z a0 x1 x2 d) (fun r_4 d_1 => ix_if (r_4 = 0) (ix_bd1 (z.1 a0 0) (fun b_6 => ix_ck (ix_ix z 25 b_6 x1) (ix_bd1 (z.1 b_6 (ix_n x1)) (fun b_9 => ix_ck (ix_ix z 20 b_9 x2) (ix_lt (ix_di d_1 b_9 (ix_n x2) x3) (fun d_12 => some (1, d_12))))))) (ix_bd2 (f_X11_refuse n z a0 r_4 d_1) (fun r_16 d_14 => some (r_16, d_14)))))
set_option maxRecDepth 20000 in
theorem c_X11_put {l : Launch} {K : ix_Cx} (hKp : ix_Kp K) {n : Nat} {z : ix_Z} {a0 : Nat} {x1 : Int32} {x2 : Int32} {x3 : Int32} {d : ix_D2} {r : Int32} {d1 : ix_D2} (h : f_X11_put n z a0 x1 x2 x3 d = some (r, d1)) : ix_M l K yX11_put cX11_put 5 (some .int) 3 64 0 0 [.ref (K.2.2.1 + a0), .int x1, .int x2, .int x3] (ix_w z d) (some (.int r)) (ix_w z d1) := by
  refine ix_met mf_X11_put hKp (Nat.le_of_ble_eq_true rfl) ?_
  intro p e s m args below meth c hr hlk hnm X
  have X : ix_X p s m args c K cX11_put RX11 5 := X
  show ix_G p l e (ix_rm 3 64 0 0) s m args below meth c (MQ below (ix_Post K (some (.int r)) (ix_w z d1)) args s 0 0 (ix_A K)) K 5 0 0 0 [(0, .ref (K.2.2.1 + a0)), (1, .int x1), (2, .int x2), (3, .int x3)] [] (ix_w z d)
  unfold f_X11_put at h
  refine ix_aload_n (i := 0) (j := 0) X (ix_tb_at tb_X11_put 0 rfl) rfl rfl (pc1 := 1) rfl ?_
  refine ix_iload_n (i := 1) (j := 1) X (ix_tb_at tb_X11_put 1 rfl) rfl rfl (pc1 := 2) rfl ?_
  refine ix_iload_n (i := 2) (j := 2) X (ix_tb_at tb_X11_put 2 rfl) rfl rfl (pc1 := 3) rfl ?_
  obtain ⟨k_3, h⟩ := ix_ck_some h
  obtain ⟨r_4, d_1, h_2, h⟩ := ix_bd2_ex h
  refine ix_callV (As := [.int x1, .int x2]) (rest := []) (ci := 10) (T := TX11) (nf := 18) X mf_X11_lookForPlace mi_X11_lookForPlace ms_X11_lookForPlace rfl (Nat.le_of_ble_eq_true rfl) ml_RX11_88 ⟨Nat.le_of_ble_eq_true rfl, Nat.le_of_ble_eq_true rfl⟩ ⟨Nat.le_of_ble_eq_true rfl, Nat.le_of_ble_eq_true rfl⟩ rfl (Nat.le_of_ble_eq_true rfl) (ix_tb_at tb_X11_put 3 rfl) ⟨k_3.1, List.mem_singleton.mp k_3.2⟩ (c_X11_lookForPlace hKp h_2) rfl (pc1 := 6) rfl ?_
  refine ix_istore (i := 4) (L1 := [(4, .int r_4), (0, .ref (K.2.2.1 + a0)), (1, .int x1), (2, .int x2), (3, .int x3)]) X (ix_tb_at tb_X11_put 4 rfl) (Nat.le_of_ble_eq_true rfl) rfl (pc1 := 8) rfl ?_
  refine ix_iload (i := 4) (j := 0) X (ix_tb_at tb_X11_put 5 rfl) rfl (pc1 := 10) rfl ?_
  refine ix_if_eq (tgt := 20) X (ix_tb_at tb_X11_put 6 rfl) (by decide) (pc1 := 13) rfl (fun q_5 => ?_) (fun q_5 => ?_)
  · have h := ix_ift q_5 h
    refine ix_aload_n (i := 0) (j := 1) X (ix_tb_at tb_X11_put 11 rfl) rfl rfl (pc1 := 21) rfl ?_
    obtain ⟨b_6, q_7, h⟩ := ix_bd1_ex h
    refine iz_getR X fl_RX11_11 k_3 q_7 (ix_tb_at tb_X11_put 12 rfl) (pc1 := 24) rfl ?_
    refine ix_iload_n (i := 1) (j := 2) X (ix_tb_at tb_X11_put 13 rfl) rfl rfl (pc1 := 25) rfl ?_
    obtain ⟨k_8, h⟩ := ix_ck_some h
    refine iz_aald X (Or.inr rfl) k_8 (ix_tb_at tb_X11_put 14 rfl) (pc1 := 26) rfl ?_
    obtain ⟨b_9, q_10, h⟩ := ix_bd1_ex h
    refine ix_rvs q_10 ?_
    refine ix_iload_n (i := 2) (j := 3) X (ix_tb_at tb_X11_put 15 rfl) rfl rfl (pc1 := 27) rfl ?_
    refine ix_iload_n (i := 3) (j := 4) X (ix_tb_at tb_X11_put 16 rfl) rfl rfl (pc1 := 28) rfl ?_
    obtain ⟨k_11, h⟩ := ix_ck_some h
    obtain ⟨d_12, e_13, h⟩ := ix_lt_ex h
    refine iz_iast X k_11 (ix_tb_at tb_X11_put 17 rfl) e_13 (pc1 := 29) rfl ?_
    refine ix_iconst (v := 1) X (ix_tb_at tb_X11_put 18 rfl) (by decide) (pc1 := 30) rfl ?_
    exact ix_iret X hr hlk (ix_r2 (f := fun r => some (.int r)) (g := ix_w z) h) (ix_tb_at tb_X11_put 19 rfl)
  · have h := ix_iff q_5 h
    refine ix_aload_n (i := 0) (j := 1) X (ix_tb_at tb_X11_put 7 rfl) rfl rfl (pc1 := 14) rfl ?_
    refine ix_iload (i := 4) (j := 0) X (ix_tb_at tb_X11_put 8 rfl) rfl (pc1 := 16) rfl ?_
    obtain ⟨r_16, d_14, h_15, h⟩ := ix_bd2_ex h
    refine ix_callV (As := [.int r_4]) (rest := []) (ci := 10) (T := TX11) (nf := 18) X mf_X11_refuse mi_X11_refuse ms_X11_refuse rfl (Nat.le_of_ble_eq_true rfl) ml_RX11_73 ⟨Nat.le_of_ble_eq_true rfl, Nat.le_of_ble_eq_true rfl⟩ ⟨Nat.le_of_ble_eq_true rfl, Nat.le_of_ble_eq_true rfl⟩ rfl (Nat.le_of_ble_eq_true rfl) (ix_tb_at tb_X11_put 9 rfl) ⟨k_3.1, List.mem_singleton.mp k_3.2⟩ (c_X11_refuse hKp h_15) rfl (pc1 := 19) rfl ?_
    exact ix_iret X hr hlk (ix_r2 (f := fun r => some (.int r)) (g := ix_w z) h) (ix_tb_at tb_X11_put 10 rfl)
def tab_X11_get : List (Nat × Instr × Nat) := [(0, .iload_n 2, 1), (1, .iconst (-1), 1), (2, .if_icmp .ne 11, 3), (5, .aload_n 0, 1), (6, .iload_n 1, 1), (7, .invokevirtual 92, 3), (10, .goto 9, 3), (13, .aload_n 0, 1), (14, .iload_n 1, 1), (15, .iload_n 2, 1), (16, .invokevirtual 88, 3), (19, .istore_n 3, 1), (20, .iload_n 3, 1), (21, .ifCond .eq 14, 3), (24, .ldc2_w 95, 3), (27, .aload_n 0, 1), (28, .iload_n 3, 1), (29, .invokevirtual 73, 3), (32, .i2l, 1), (33, .lmul, 1), (34, .lreturn, 1), (35, .iload_n 2, 1), (36, .iconst (-1), 1), (37, .if_icmp .ne 13, 3), (40, .aload_n 0, 1), (41, .getfield 14, 3), (44, .iload_n 1, 1), (45, .iaload, 1), (46, .i2l, 1), (47, .goto 12, 3), (50, .aload_n 0, 1), (51, .getfield 11, 3), (54, .iload_n 1, 1), (55, .aaload, 1), (56, .iload_n 2, 1), (57, .iaload, 1), (58, .i2l, 1), (59, .lreturn, 1)]
theorem tb_X11_get : ix_tab cX11_get tab_X11_get := by
  unfold ix_tab
  decide +kernel
noncomputable def f_X11_get_19 (n : Nat) (z : ix_Z)  (a0 : Nat) (x1 : Int32) (x2 : Int32) (s0 : Int32) (d : ix_D2) : Option (Int64 × ix_D2) :=
  ix_if (s0 = 0) (ix_if (x2 = (-1)) (ix_ck (ix_ok z [10] a0) (ix_bd1 (z.1 a0 1) (fun b_16 => ix_ck (ix_ix z 20 b_16 x1) (some ((d.1 b_16 (ix_n x1)).toInt64, d))))) (ix_ck (ix_ok z [10] a0) (ix_bd1 (z.1 a0 0) (fun b_9 => ix_ck (ix_ix z 25 b_9 x1) (ix_bd1 (z.1 b_9 (ix_n x1)) (fun b_12 => ix_ck (ix_ix z 20 b_12 x2) (some ((d.1 b_12 (ix_n x2)).toInt64, d)))))))) (ix_ck (ix_ok z [10] a0) (ix_bd2 (f_X11_refuse n z a0 s0 d) (fun r_22 d_19 => some (10000000000 * r_22.toInt64, d_19))))
noncomputable def f_X11_get (n : Nat) (z : ix_Z) (a0 : Nat) (x1 : Int32) (x2 : Int32) (d : ix_D2) : Option (Int64 × ix_D2) :=
  ix_if (x2 = (-1)) (ix_ck (ix_ok z [10] a0) (ix_bd2 (f_X11_lookForRow n z a0 x1 d) (fun r_26 d_23 => f_X11_get_19 n z  a0 x1 x2 r_26 d_23))) (ix_ck (ix_ok z [10] a0) (ix_bd2 (f_X11_lookForPlace n z a0 x1 x2 d) (fun r_5 d_2 => f_X11_get_19 n z  a0 x1 x2 r_5 d_2)))
set_option maxRecDepth 20000 in
theorem t_X11_get_19 {l : Launch} {p : Program} {e : Env} {s : State} {m : MethodId} {args : Array Value} {below : List Frame} {meth : Method} {c : Code} {K : ix_Cx} (hKp : ix_Kp K) {n : Nat} {z : ix_Z} (X : ix_X p s m args c K cX11_get RX11 4) (hr : meth.sig.returnType = (some .long)) (hlk : meth.locks = false)  {a0 : Nat} {x1 : Int32} {x2 : Int32} {s0 : Int32} {r : Int64} {d1 : ix_D2}  {d : ix_D2} (h : f_X11_get_19 n z  a0 x1 x2 s0 d = some (r, d1)) : ix_G p l e (ix_rm 3 64 0 0) s m args below meth c (MQ below (ix_Post K (some (.long r)) (ix_w z d1)) args s 0 0 (ix_A K)) K 4 0 0 19 [(0, .ref (K.2.2.1 + a0)), (1, .int x1), (2, .int x2)] [.int s0] (ix_w z d) := by
  unfold f_X11_get_19 at h
  refine ix_istore_n (i := 3) (L1 := [(3, .int s0), (0, .ref (K.2.2.1 + a0)), (1, .int x1), (2, .int x2)]) X (ix_tb_at tb_X11_get 11 rfl) rfl (Nat.le_of_ble_eq_true rfl) rfl (pc1 := 20) rfl ?_
  refine ix_iload_n (i := 3) (j := 0) X (ix_tb_at tb_X11_get 12 rfl) rfl rfl (pc1 := 21) rfl ?_
  refine ix_if_eq (tgt := 35) X (ix_tb_at tb_X11_get 13 rfl) (by decide) (pc1 := 24) rfl (fun q_6 => ?_) (fun q_6 => ?_)
  · have h := ix_ift q_6 h
    refine ix_iload_n (i := 2) (j := 3) X (ix_tb_at tb_X11_get 21 rfl) rfl rfl (pc1 := 36) rfl ?_
    refine ix_iconst (v := (-1)) X (ix_tb_at tb_X11_get 22 rfl) (by decide) (pc1 := 37) rfl ?_
    refine ix_icmp_ne (tgt := 50) X (ix_tb_at tb_X11_get 23 rfl) (by decide) (pc1 := 40) rfl (fun q_7 => ?_) (fun q_7 => ?_)
    · have h := ix_iff q_7 h
      refine ix_aload_n (i := 0) (j := 1) X (ix_tb_at tb_X11_get 30 rfl) rfl rfl (pc1 := 51) rfl ?_
      obtain ⟨k_8, h⟩ := ix_ck_some h
      obtain ⟨b_9, q_10, h⟩ := ix_bd1_ex h
      refine iz_getR X fl_RX11_11 k_8 q_10 (ix_tb_at tb_X11_get 31 rfl) (pc1 := 54) rfl ?_
      refine ix_iload_n (i := 1) (j := 2) X (ix_tb_at tb_X11_get 32 rfl) rfl rfl (pc1 := 55) rfl ?_
      obtain ⟨k_11, h⟩ := ix_ck_some h
      refine iz_aald X (Or.inr rfl) k_11 (ix_tb_at tb_X11_get 33 rfl) (pc1 := 56) rfl ?_
      obtain ⟨b_12, q_13, h⟩ := ix_bd1_ex h
      refine ix_rvs q_13 ?_
      refine ix_iload_n (i := 2) (j := 3) X (ix_tb_at tb_X11_get 34 rfl) rfl rfl (pc1 := 57) rfl ?_
      obtain ⟨k_14, h⟩ := ix_ck_some h
      refine iz_iald X k_14 (ix_tb_at tb_X11_get 35 rfl) (pc1 := 58) rfl ?_
      refine ix_i2l X (ix_tb_at tb_X11_get 36 rfl) (pc1 := 59) rfl ?_
      exact ix_lret X hr hlk (ix_r2 (f := fun r => some (.long r)) (g := ix_w z) h) (ix_tb_at tb_X11_get 37 rfl)
    · have h := ix_ift q_7 h
      refine ix_aload_n (i := 0) (j := 1) X (ix_tb_at tb_X11_get 24 rfl) rfl rfl (pc1 := 41) rfl ?_
      obtain ⟨k_15, h⟩ := ix_ck_some h
      obtain ⟨b_16, q_17, h⟩ := ix_bd1_ex h
      refine iz_getR X fl_RX11_14 k_15 q_17 (ix_tb_at tb_X11_get 25 rfl) (pc1 := 44) rfl ?_
      refine ix_iload_n (i := 1) (j := 2) X (ix_tb_at tb_X11_get 26 rfl) rfl rfl (pc1 := 45) rfl ?_
      obtain ⟨k_18, h⟩ := ix_ck_some h
      refine iz_iald X k_18 (ix_tb_at tb_X11_get 27 rfl) (pc1 := 46) rfl ?_
      refine ix_i2l X (ix_tb_at tb_X11_get 28 rfl) (pc1 := 47) rfl ?_
      refine ix_goto (tgt := 59) X (ix_tb_at tb_X11_get 29 rfl) (by decide) ?_
      exact ix_lret X hr hlk (ix_r2 (f := fun r => some (.long r)) (g := ix_w z) h) (ix_tb_at tb_X11_get 37 rfl)
  · have h := ix_iff q_6 h
    refine ix_ldc2 (pl := 435) (v := 10000000000) X (ix_tb_at tb_X11_get 14 rfl) (by decide +kernel) (pc1 := 27) rfl ?_
    refine ix_aload_n (i := 0) (j := 1) X (ix_tb_at tb_X11_get 15 rfl) rfl rfl (pc1 := 28) rfl ?_
    refine ix_iload_n (i := 3) (j := 0) X (ix_tb_at tb_X11_get 16 rfl) rfl rfl (pc1 := 29) rfl ?_
    obtain ⟨k_21, h⟩ := ix_ck_some h
    obtain ⟨r_22, d_19, h_20, h⟩ := ix_bd2_ex h
    refine ix_callV (As := [.int s0]) (rest := [.long 10000000000]) (ci := 10) (T := TX11) (nf := 18) X mf_X11_refuse mi_X11_refuse ms_X11_refuse rfl (Nat.le_of_ble_eq_true rfl) ml_RX11_73 ⟨Nat.le_of_ble_eq_true rfl, Nat.le_of_ble_eq_true rfl⟩ ⟨Nat.le_of_ble_eq_true rfl, Nat.le_of_ble_eq_true rfl⟩ rfl (Nat.le_of_ble_eq_true rfl) (ix_tb_at tb_X11_get 17 rfl) ⟨k_21.1, List.mem_singleton.mp k_21.2⟩ (c_X11_refuse hKp h_20) rfl (pc1 := 32) rfl ?_
    refine ix_i2l X (ix_tb_at tb_X11_get 18 rfl) (pc1 := 33) rfl ?_
    refine ix_lmul X (ix_tb_at tb_X11_get 19 rfl) (pc1 := 34) rfl ?_
    exact ix_lret X hr hlk (ix_r2 (f := fun r => some (.long r)) (g := ix_w z) h) (ix_tb_at tb_X11_get 20 rfl)
set_option maxRecDepth 20000 in
theorem c_X11_get {l : Launch} {K : ix_Cx} (hKp : ix_Kp K) {n : Nat} {z : ix_Z} {a0 : Nat} {x1 : Int32} {x2 : Int32} {d : ix_D2} {r : Int64} {d1 : ix_D2} (h : f_X11_get n z a0 x1 x2 d = some (r, d1)) : ix_M l K yX11_get cX11_get 4 (some .long) 3 64 0 0 [.ref (K.2.2.1 + a0), .int x1, .int x2] (ix_w z d) (some (.long r)) (ix_w z d1) := by
  refine ix_met mf_X11_get hKp (Nat.le_of_ble_eq_true rfl) ?_
  intro p e s m args below meth c hr hlk hnm X
  have X : ix_X p s m args c K cX11_get RX11 4 := X
  show ix_G p l e (ix_rm 3 64 0 0) s m args below meth c (MQ below (ix_Post K (some (.long r)) (ix_w z d1)) args s 0 0 (ix_A K)) K 4 0 0 0 [(0, .ref (K.2.2.1 + a0)), (1, .int x1), (2, .int x2)] [] (ix_w z d)
  unfold f_X11_get at h
  refine ix_iload_n (i := 2) (j := 2) X (ix_tb_at tb_X11_get 0 rfl) rfl rfl (pc1 := 1) rfl ?_
  refine ix_iconst (v := (-1)) X (ix_tb_at tb_X11_get 1 rfl) (by decide) (pc1 := 2) rfl ?_
  refine ix_icmp_ne (tgt := 13) X (ix_tb_at tb_X11_get 2 rfl) (by decide) (pc1 := 5) rfl (fun q_1 => ?_) (fun q_1 => ?_)
  · have h := ix_iff q_1 h
    refine ix_aload_n (i := 0) (j := 0) X (ix_tb_at tb_X11_get 7 rfl) rfl rfl (pc1 := 14) rfl ?_
    refine ix_iload_n (i := 1) (j := 1) X (ix_tb_at tb_X11_get 8 rfl) rfl rfl (pc1 := 15) rfl ?_
    refine ix_iload_n (i := 2) (j := 2) X (ix_tb_at tb_X11_get 9 rfl) rfl rfl (pc1 := 16) rfl ?_
    obtain ⟨k_4, h⟩ := ix_ck_some h
    obtain ⟨r_5, d_2, h_3, h⟩ := ix_bd2_ex h
    refine ix_callV (As := [.int x1, .int x2]) (rest := []) (ci := 10) (T := TX11) (nf := 18) X mf_X11_lookForPlace mi_X11_lookForPlace ms_X11_lookForPlace rfl (Nat.le_of_ble_eq_true rfl) ml_RX11_88 ⟨Nat.le_of_ble_eq_true rfl, Nat.le_of_ble_eq_true rfl⟩ ⟨Nat.le_of_ble_eq_true rfl, Nat.le_of_ble_eq_true rfl⟩ rfl (Nat.le_of_ble_eq_true rfl) (ix_tb_at tb_X11_get 10 rfl) ⟨k_4.1, List.mem_singleton.mp k_4.2⟩ (c_X11_lookForPlace hKp h_3) rfl (pc1 := 19) rfl ?_
    refine ix_sub (L1 := [(0, .ref (K.2.2.1 + a0)), (1, .int x1), (2, .int x2)]) [0, 1, 2] rfl ?_
    exact t_X11_get_19 hKp X hr hlk  h
  · have h := ix_ift q_1 h
    refine ix_aload_n (i := 0) (j := 0) X (ix_tb_at tb_X11_get 3 rfl) rfl rfl (pc1 := 6) rfl ?_
    refine ix_iload_n (i := 1) (j := 1) X (ix_tb_at tb_X11_get 4 rfl) rfl rfl (pc1 := 7) rfl ?_
    obtain ⟨k_25, h⟩ := ix_ck_some h
    obtain ⟨r_26, d_23, h_24, h⟩ := ix_bd2_ex h
    refine ix_callV (As := [.int x1]) (rest := []) (ci := 10) (T := TX11) (nf := 18) X mf_X11_lookForRow mi_X11_lookForRow ms_X11_lookForRow rfl (Nat.le_of_ble_eq_true rfl) ml_RX11_92 ⟨Nat.le_of_ble_eq_true rfl, Nat.le_of_ble_eq_true rfl⟩ ⟨Nat.le_of_ble_eq_true rfl, Nat.le_of_ble_eq_true rfl⟩ rfl (Nat.le_of_ble_eq_true rfl) (ix_tb_at tb_X11_get 5 rfl) ⟨k_25.1, List.mem_singleton.mp k_25.2⟩ (c_X11_lookForRow hKp h_24) rfl (pc1 := 10) rfl ?_
    refine ix_goto (tgt := 19) X (ix_tb_at tb_X11_get 6 rfl) (by decide) ?_
    refine ix_sub (L1 := [(0, .ref (K.2.2.1 + a0)), (1, .int x1), (2, .int x2)]) [0, 1, 2] rfl ?_
    exact t_X11_get_19 hKp X hr hlk  h
def tab_X11_copy : List (Nat × Instr × Nat) := [(0, .iload_n 1, 1), (1, .invokestatic 84, 3), (4, .ifCond .eq 10, 3), (7, .iload_n 3, 1), (8, .invokestatic 84, 3), (11, .ifCond .ne 11, 3), (14, .aload_n 0, 1), (15, .sipush (-1001), 3), (18, .invokevirtual 73, 3), (21, .ireturn, 1), (22, .aload_n 0, 1), (23, .getfield 14, 3), (26, .iload_n 1, 1), (27, .iaload, 1), (28, .iconst (-1), 1), (29, .if_icmp .eq 13, 3), (32, .aload_n 0, 1), (33, .getfield 14, 3), (36, .iload_n 3, 1), (37, .iaload, 1), (38, .iconst (-1), 1), (39, .if_icmp .ne 11, 3), (42, .aload_n 0, 1), (43, .sipush (-1011), 3), (46, .invokevirtual 73, 3), (49, .ireturn, 1), (50, .iload_n 2, 1), (51, .ifCond .lt 40, 3), (54, .iload 4, 2), (56, .ifCond .lt 35, 3), (59, .iload 5, 2), (61, .ifCond .lt 30, 3), (64, .iload 5, 2), (66, .aload_n 0, 1), (67, .getfield 14, 3), (70, .iload_n 1, 1), (71, .iaload, 1), (72, .iload_n 2, 1), (73, .isub, 1), (74, .if_icmp .gt 17, 3), (77, .iload 5, 2), (79, .aload_n 0, 1), (80, .getfield 14, 3), (83, .iload_n 3, 1), (84, .iaload, 1), (85, .iload 4, 2), (87, .isub, 1), (88, .if_icmp .le 11, 3), (91, .aload_n 0, 1), (92, .sipush (-1012), 3), (95, .invokevirtual 73, 3), (98, .ireturn, 1), (99, .aload_n 0, 1), (100, .getfield 11, 3), (103, .iload_n 1, 1), (104, .aaload, 1), (105, .iload_n 2, 1), (106, .aload_n 0, 1), (107, .getfield 11, 3), (110, .iload_n 3, 1), (111, .aaload, 1), (112, .iload 4, 2), (114, .iload 5, 2), (116, .invokestatic 97, 3), (119, .iload 5, 2), (121, .ireturn, 1)]
theorem tb_X11_copy : ix_tab cX11_copy tab_X11_copy := by
  unfold ix_tab
  decide +kernel
noncomputable def f_X11_copy_14 (n : Nat) (z : ix_Z)  (a0 : Nat) (d : ix_D2) : Option (Int32 × ix_D2) :=
  ix_ck (ix_ok z [10] a0) (ix_bd2 (f_X11_refuse n z a0 ((-1001)) d) (fun r_8 d_5 => some (r_8, d_5)))
noncomputable def f_X11_copy_42 (n : Nat) (z : ix_Z)  (a0 : Nat) (d : ix_D2) : Option (Int32 × ix_D2) :=
  ix_ck (ix_ok z [10] a0) (ix_bd2 (f_X11_refuse n z a0 ((-1011)) d) (fun r_21 d_18 => some (r_21, d_18)))
noncomputable def f_X11_copy_91 (n : Nat) (z : ix_Z)  (a0 : Nat) (d : ix_D2) : Option (Int32 × ix_D2) :=
  ix_ck (ix_ok z [10] a0) (ix_bd2 (f_X11_refuse n z a0 ((-1012)) d) (fun r_28 d_25 => some (r_28, d_25)))
noncomputable def f_X11_copy (n : Nat) (z : ix_Z) (a0 : Nat) (x1 : Int32) (x2 : Int32) (x3 : Int32) (x4 : Int32) (x5 : Int32) (d : ix_D2) : Option (Int32 × ix_D2) :=
  ix_bd2 (f_X11_isPaper n z x1 d) (fun r_3 d_1 => ix_if (r_3 = 0) (f_X11_copy_14 n z  a0 d_1) (ix_bd2 (f_X11_isPaper n z x3 d_1) (fun r_11 d_9 => ix_if (r_11 = 0) (f_X11_copy_14 n z  a0 d_9) (ix_ck (ix_ok z [10] a0) (ix_bd1 (z.1 a0 1) (fun b_14 => ix_ck (ix_ix z 20 b_14 x1) (ix_if (d_9.1 b_14 (ix_n x1) = (-1)) (f_X11_copy_42 n z  a0 d_9) (ix_ck (ix_ix z 20 b_14 x3) (ix_if (d_9.1 b_14 (ix_n x3) = (-1)) (f_X11_copy_42 n z  a0 d_9) (ix_if (x2 < 0) (f_X11_copy_91 n z  a0 d_9) (ix_if (x4 < 0) (f_X11_copy_91 n z  a0 d_9) (ix_if (x5 < 0) (f_X11_copy_91 n z  a0 d_9) (ix_if ((d_9.1 b_14 (ix_n x1)) - x2 < x5) (f_X11_copy_91 n z  a0 d_9) (ix_if (x5 ≤ (d_9.1 b_14 (ix_n x3)) - x4) (ix_bd1 (z.1 a0 0) (fun b_33 => ix_ck (ix_ix z 25 b_33 x1) (ix_bd1 (z.1 b_33 (ix_n x1)) (fun b_36 => ix_ck (ix_ix z 25 b_33 x3) (ix_bd1 (z.1 b_33 (ix_n x3)) (fun b_39 => ix_ck (ix_cpk z 20 b_36 x2 b_39 x4 x5) (ix_lt (ix_cpI d_9 b_36 b_39 (ix_n x2) (ix_n x4) (ix_n x5)) (fun d_42 => some (x5, d_42))))))))) (f_X11_copy_91 n z  a0 d_9)))))))))))))))
set_option maxRecDepth 20000 in
theorem t_X11_copy_14 {l : Launch} {p : Program} {e : Env} {s : State} {m : MethodId} {args : Array Value} {below : List Frame} {meth : Method} {c : Code} {K : ix_Cx} (hKp : ix_Kp K) {n : Nat} {z : ix_Z} (hsz : s.heap.size + 0 = K.2.2.1 + z.2.2) (X : ix_X p s m args c K cX11_copy RX11 6) (hr : meth.sig.returnType = (some .int)) (hlk : meth.locks = false)  {a0 : Nat} {r : Int32} {d1 : ix_D2}  {d : ix_D2} (h : f_X11_copy_14 n z  a0 d = some (r, d1)) : ix_G p l e (ix_rm 1 26 0 0) s m args below meth c (MQ below (ix_Post K (some (.int r)) (ix_w z d1)) args s 0 0 (ix_A K)) K 6 0 0 14 [(0, .ref (K.2.2.1 + a0))] [] (ix_w z d) := by
  unfold f_X11_copy_14 at h
  refine ix_aload_n (i := 0) (j := 0) X (ix_tb_at tb_X11_copy 6 rfl) rfl rfl (pc1 := 15) rfl ?_
  refine ix_sipush (v := (-1001)) X (ix_tb_at tb_X11_copy 7 rfl) (by decide) (pc1 := 18) rfl ?_
  obtain ⟨k_7, h⟩ := ix_ck_some h
  obtain ⟨r_8, d_5, h_6, h⟩ := ix_bd2_ex h
  refine ix_callV (As := [.int ((-1001))]) (rest := []) (ci := 10) (T := TX11) (nf := 18) X mf_X11_refuse mi_X11_refuse ms_X11_refuse rfl (Nat.le_of_ble_eq_true rfl) ml_RX11_73 ⟨Nat.le_of_ble_eq_true rfl, Nat.le_of_ble_eq_true rfl⟩ ⟨Nat.le_of_ble_eq_true rfl, Nat.le_of_ble_eq_true rfl⟩ rfl (Nat.le_of_ble_eq_true rfl) (ix_tb_at tb_X11_copy 8 rfl) ⟨k_7.1, List.mem_singleton.mp k_7.2⟩ (c_X11_refuse hKp h_6) rfl (pc1 := 21) rfl ?_
  exact ix_iret X hr hlk (ix_r2 (f := fun r => some (.int r)) (g := ix_w z) h) (ix_tb_at tb_X11_copy 9 rfl)
set_option maxRecDepth 20000 in
theorem t_X11_copy_42 {l : Launch} {p : Program} {e : Env} {s : State} {m : MethodId} {args : Array Value} {below : List Frame} {meth : Method} {c : Code} {K : ix_Cx} (hKp : ix_Kp K) {n : Nat} {z : ix_Z} (hsz : s.heap.size + 0 = K.2.2.1 + z.2.2) (X : ix_X p s m args c K cX11_copy RX11 6) (hr : meth.sig.returnType = (some .int)) (hlk : meth.locks = false)  {a0 : Nat} {r : Int32} {d1 : ix_D2}  {d : ix_D2} (h : f_X11_copy_42 n z  a0 d = some (r, d1)) : ix_G p l e (ix_rm 1 26 0 0) s m args below meth c (MQ below (ix_Post K (some (.int r)) (ix_w z d1)) args s 0 0 (ix_A K)) K 6 0 0 42 [(0, .ref (K.2.2.1 + a0))] [] (ix_w z d) := by
  unfold f_X11_copy_42 at h
  refine ix_aload_n (i := 0) (j := 0) X (ix_tb_at tb_X11_copy 22 rfl) rfl rfl (pc1 := 43) rfl ?_
  refine ix_sipush (v := (-1011)) X (ix_tb_at tb_X11_copy 23 rfl) (by decide) (pc1 := 46) rfl ?_
  obtain ⟨k_20, h⟩ := ix_ck_some h
  obtain ⟨r_21, d_18, h_19, h⟩ := ix_bd2_ex h
  refine ix_callV (As := [.int ((-1011))]) (rest := []) (ci := 10) (T := TX11) (nf := 18) X mf_X11_refuse mi_X11_refuse ms_X11_refuse rfl (Nat.le_of_ble_eq_true rfl) ml_RX11_73 ⟨Nat.le_of_ble_eq_true rfl, Nat.le_of_ble_eq_true rfl⟩ ⟨Nat.le_of_ble_eq_true rfl, Nat.le_of_ble_eq_true rfl⟩ rfl (Nat.le_of_ble_eq_true rfl) (ix_tb_at tb_X11_copy 24 rfl) ⟨k_20.1, List.mem_singleton.mp k_20.2⟩ (c_X11_refuse hKp h_19) rfl (pc1 := 49) rfl ?_
  exact ix_iret X hr hlk (ix_r2 (f := fun r => some (.int r)) (g := ix_w z) h) (ix_tb_at tb_X11_copy 25 rfl)
set_option maxRecDepth 20000 in
theorem t_X11_copy_91 {l : Launch} {p : Program} {e : Env} {s : State} {m : MethodId} {args : Array Value} {below : List Frame} {meth : Method} {c : Code} {K : ix_Cx} (hKp : ix_Kp K) {n : Nat} {z : ix_Z} (hsz : s.heap.size + 0 = K.2.2.1 + z.2.2) (X : ix_X p s m args c K cX11_copy RX11 6) (hr : meth.sig.returnType = (some .int)) (hlk : meth.locks = false)  {a0 : Nat} {r : Int32} {d1 : ix_D2}  {d : ix_D2} (h : f_X11_copy_91 n z  a0 d = some (r, d1)) : ix_G p l e (ix_rm 1 26 0 0) s m args below meth c (MQ below (ix_Post K (some (.int r)) (ix_w z d1)) args s 0 0 (ix_A K)) K 6 0 0 91 [(0, .ref (K.2.2.1 + a0))] [] (ix_w z d) := by
  unfold f_X11_copy_91 at h
  refine ix_aload_n (i := 0) (j := 0) X (ix_tb_at tb_X11_copy 48 rfl) rfl rfl (pc1 := 92) rfl ?_
  refine ix_sipush (v := (-1012)) X (ix_tb_at tb_X11_copy 49 rfl) (by decide) (pc1 := 95) rfl ?_
  obtain ⟨k_27, h⟩ := ix_ck_some h
  obtain ⟨r_28, d_25, h_26, h⟩ := ix_bd2_ex h
  refine ix_callV (As := [.int ((-1012))]) (rest := []) (ci := 10) (T := TX11) (nf := 18) X mf_X11_refuse mi_X11_refuse ms_X11_refuse rfl (Nat.le_of_ble_eq_true rfl) ml_RX11_73 ⟨Nat.le_of_ble_eq_true rfl, Nat.le_of_ble_eq_true rfl⟩ ⟨Nat.le_of_ble_eq_true rfl, Nat.le_of_ble_eq_true rfl⟩ rfl (Nat.le_of_ble_eq_true rfl) (ix_tb_at tb_X11_copy 50 rfl) ⟨k_27.1, List.mem_singleton.mp k_27.2⟩ (c_X11_refuse hKp h_26) rfl (pc1 := 98) rfl ?_
  exact ix_iret X hr hlk (ix_r2 (f := fun r => some (.int r)) (g := ix_w z) h) (ix_tb_at tb_X11_copy 51 rfl)
set_option maxRecDepth 20000 in
theorem c_X11_copy {l : Launch} {K : ix_Cx} (hKp : ix_Kp K) {n : Nat} {z : ix_Z} {a0 : Nat} {x1 : Int32} {x2 : Int32} {x3 : Int32} {x4 : Int32} {x5 : Int32} {d : ix_D2} {r : Int32} {d1 : ix_D2} (h : f_X11_copy n z a0 x1 x2 x3 x4 x5 d = some (r, d1)) : ix_M l K yX11_copy cX11_copy 6 (some .int) 1 26 0 0 [.ref (K.2.2.1 + a0), .int x1, .int x2, .int x3, .int x4, .int x5] (ix_w z d) (some (.int r)) (ix_w z d1) := by
  refine ix_met2 mf_X11_copy hKp (Nat.le_of_ble_eq_true rfl) ?_
  intro p e s m args below meth c hr hlk hnm hsz X
  have X : ix_X p s m args c K cX11_copy RX11 6 := X
  show ix_G p l e (ix_rm 1 26 0 0) s m args below meth c (MQ below (ix_Post K (some (.int r)) (ix_w z d1)) args s 0 0 (ix_A K)) K 6 0 0 0 [(0, .ref (K.2.2.1 + a0)), (1, .int x1), (2, .int x2), (3, .int x3), (4, .int x4), (5, .int x5)] [] (ix_w z d)
  unfold f_X11_copy at h
  refine ix_iload_n (i := 1) (j := 1) X (ix_tb_at tb_X11_copy 0 rfl) rfl rfl (pc1 := 1) rfl ?_
  obtain ⟨r_3, d_1, h_2, h⟩ := ix_bd2_ex h
  refine ix_callS (As := [.int x1]) (rest := []) X mf_X11_isPaper st_X11_isPaper ml_RX11_84 ⟨Nat.le_of_ble_eq_true rfl, Nat.le_of_ble_eq_true rfl⟩ ⟨Nat.le_of_ble_eq_true rfl, Nat.le_of_ble_eq_true rfl⟩ rfl (Nat.le_of_ble_eq_true rfl) (ix_tb_at tb_X11_copy 1 rfl) (c_X11_isPaper hKp h_2) rfl (pc1 := 4) rfl ?_
  refine ix_if_eq (tgt := 14) X (ix_tb_at tb_X11_copy 2 rfl) (by decide) (pc1 := 7) rfl (fun q_4 => ?_) (fun q_4 => ?_)
  · have h := ix_ift q_4 h
    refine ix_sub (L1 := [(0, .ref (K.2.2.1 + a0))]) [0] rfl ?_
    exact t_X11_copy_14 hKp hsz X hr hlk  h
  · have h := ix_iff q_4 h
    refine ix_iload_n (i := 3) (j := 3) X (ix_tb_at tb_X11_copy 3 rfl) rfl rfl (pc1 := 8) rfl ?_
    obtain ⟨r_11, d_9, h_10, h⟩ := ix_bd2_ex h
    refine ix_callS (As := [.int x3]) (rest := []) X mf_X11_isPaper st_X11_isPaper ml_RX11_84 ⟨Nat.le_of_ble_eq_true rfl, Nat.le_of_ble_eq_true rfl⟩ ⟨Nat.le_of_ble_eq_true rfl, Nat.le_of_ble_eq_true rfl⟩ rfl (Nat.le_of_ble_eq_true rfl) (ix_tb_at tb_X11_copy 4 rfl) (c_X11_isPaper hKp h_10) rfl (pc1 := 11) rfl ?_
    refine ix_if_ne (tgt := 22) X (ix_tb_at tb_X11_copy 5 rfl) (by decide) (pc1 := 14) rfl (fun q_12 => ?_) (fun q_12 => ?_)
    · have h := ix_iff q_12 h
      refine ix_aload_n (i := 0) (j := 0) X (ix_tb_at tb_X11_copy 10 rfl) rfl rfl (pc1 := 23) rfl ?_
      obtain ⟨k_13, h⟩ := ix_ck_some h
      obtain ⟨b_14, q_15, h⟩ := ix_bd1_ex h
      refine iz_getR X fl_RX11_14 k_13 q_15 (ix_tb_at tb_X11_copy 11 rfl) (pc1 := 26) rfl ?_
      refine ix_iload_n (i := 1) (j := 1) X (ix_tb_at tb_X11_copy 12 rfl) rfl rfl (pc1 := 27) rfl ?_
      obtain ⟨k_16, h⟩ := ix_ck_some h
      refine iz_iald X k_16 (ix_tb_at tb_X11_copy 13 rfl) (pc1 := 28) rfl ?_
      refine ix_iconst (v := (-1)) X (ix_tb_at tb_X11_copy 14 rfl) (by decide) (pc1 := 29) rfl ?_
      refine ix_icmp_eq (tgt := 42) X (ix_tb_at tb_X11_copy 15 rfl) (by decide) (pc1 := 32) rfl (fun q_17 => ?_) (fun q_17 => ?_)
      · have h := ix_ift q_17 h
        refine ix_sub (L1 := [(0, .ref (K.2.2.1 + a0))]) [0] rfl ?_
        exact t_X11_copy_42 hKp hsz X hr hlk  h
      · have h := ix_iff q_17 h
        refine ix_aload_n (i := 0) (j := 0) X (ix_tb_at tb_X11_copy 16 rfl) rfl rfl (pc1 := 33) rfl ?_
        refine iz_getR X fl_RX11_14 k_13 q_15 (ix_tb_at tb_X11_copy 17 rfl) (pc1 := 36) rfl ?_
        refine ix_iload_n (i := 3) (j := 3) X (ix_tb_at tb_X11_copy 18 rfl) rfl rfl (pc1 := 37) rfl ?_
        obtain ⟨k_22, h⟩ := ix_ck_some h
        refine iz_iald X k_22 (ix_tb_at tb_X11_copy 19 rfl) (pc1 := 38) rfl ?_
        refine ix_iconst (v := (-1)) X (ix_tb_at tb_X11_copy 20 rfl) (by decide) (pc1 := 39) rfl ?_
        refine ix_icmp_ne (tgt := 50) X (ix_tb_at tb_X11_copy 21 rfl) (by decide) (pc1 := 42) rfl (fun q_23 => ?_) (fun q_23 => ?_)
        · have h := ix_iff q_23 h
          refine ix_iload_n (i := 2) (j := 2) X (ix_tb_at tb_X11_copy 26 rfl) rfl rfl (pc1 := 51) rfl ?_
          refine ix_if_lt (tgt := 91) X (ix_tb_at tb_X11_copy 27 rfl) (by decide) (pc1 := 54) rfl (fun q_24 => ?_) (fun q_24 => ?_)
          · have h := ix_ift q_24 h
            refine ix_sub (L1 := [(0, .ref (K.2.2.1 + a0))]) [0] rfl ?_
            exact t_X11_copy_91 hKp hsz X hr hlk  h
          · have h := ix_iff q_24 h
            refine ix_iload (i := 4) (j := 4) X (ix_tb_at tb_X11_copy 28 rfl) rfl (pc1 := 56) rfl ?_
            refine ix_if_lt (tgt := 91) X (ix_tb_at tb_X11_copy 29 rfl) (by decide) (pc1 := 59) rfl (fun q_29 => ?_) (fun q_29 => ?_)
            · have h := ix_ift q_29 h
              refine ix_sub (L1 := [(0, .ref (K.2.2.1 + a0))]) [0] rfl ?_
              exact t_X11_copy_91 hKp hsz X hr hlk  h
            · have h := ix_iff q_29 h
              refine ix_iload (i := 5) (j := 5) X (ix_tb_at tb_X11_copy 30 rfl) rfl (pc1 := 61) rfl ?_
              refine ix_if_lt (tgt := 91) X (ix_tb_at tb_X11_copy 31 rfl) (by decide) (pc1 := 64) rfl (fun q_30 => ?_) (fun q_30 => ?_)
              · have h := ix_ift q_30 h
                refine ix_sub (L1 := [(0, .ref (K.2.2.1 + a0))]) [0] rfl ?_
                exact t_X11_copy_91 hKp hsz X hr hlk  h
              · have h := ix_iff q_30 h
                refine ix_iload (i := 5) (j := 5) X (ix_tb_at tb_X11_copy 32 rfl) rfl (pc1 := 66) rfl ?_
                refine ix_aload_n (i := 0) (j := 0) X (ix_tb_at tb_X11_copy 33 rfl) rfl rfl (pc1 := 67) rfl ?_
                refine iz_getR X fl_RX11_14 k_13 q_15 (ix_tb_at tb_X11_copy 34 rfl) (pc1 := 70) rfl ?_
                refine ix_iload_n (i := 1) (j := 1) X (ix_tb_at tb_X11_copy 35 rfl) rfl rfl (pc1 := 71) rfl ?_
                refine iz_iald X k_16 (ix_tb_at tb_X11_copy 36 rfl) (pc1 := 72) rfl ?_
                refine ix_iload_n (i := 2) (j := 2) X (ix_tb_at tb_X11_copy 37 rfl) rfl rfl (pc1 := 73) rfl ?_
                refine ix_isub X (ix_tb_at tb_X11_copy 38 rfl) (pc1 := 74) rfl ?_
                refine ix_icmp_gt (tgt := 91) X (ix_tb_at tb_X11_copy 39 rfl) (by decide) (pc1 := 77) rfl (fun q_31 => ?_) (fun q_31 => ?_)
                · have h := ix_ift q_31 h
                  refine ix_sub (L1 := [(0, .ref (K.2.2.1 + a0))]) [0] rfl ?_
                  exact t_X11_copy_91 hKp hsz X hr hlk  h
                · have h := ix_iff q_31 h
                  refine ix_iload (i := 5) (j := 5) X (ix_tb_at tb_X11_copy 40 rfl) rfl (pc1 := 79) rfl ?_
                  refine ix_aload_n (i := 0) (j := 0) X (ix_tb_at tb_X11_copy 41 rfl) rfl rfl (pc1 := 80) rfl ?_
                  refine iz_getR X fl_RX11_14 k_13 q_15 (ix_tb_at tb_X11_copy 42 rfl) (pc1 := 83) rfl ?_
                  refine ix_iload_n (i := 3) (j := 3) X (ix_tb_at tb_X11_copy 43 rfl) rfl rfl (pc1 := 84) rfl ?_
                  refine iz_iald X k_22 (ix_tb_at tb_X11_copy 44 rfl) (pc1 := 85) rfl ?_
                  refine ix_iload (i := 4) (j := 4) X (ix_tb_at tb_X11_copy 45 rfl) rfl (pc1 := 87) rfl ?_
                  refine ix_isub X (ix_tb_at tb_X11_copy 46 rfl) (pc1 := 88) rfl ?_
                  refine ix_icmp_le (tgt := 99) X (ix_tb_at tb_X11_copy 47 rfl) (by decide) (pc1 := 91) rfl (fun q_32 => ?_) (fun q_32 => ?_)
                  · have h := ix_ift q_32 h
                    refine ix_aload_n (i := 0) (j := 0) X (ix_tb_at tb_X11_copy 52 rfl) rfl rfl (pc1 := 100) rfl ?_
                    obtain ⟨b_33, q_34, h⟩ := ix_bd1_ex h
                    refine iz_getR X fl_RX11_11 k_13 q_34 (ix_tb_at tb_X11_copy 53 rfl) (pc1 := 103) rfl ?_
                    refine ix_iload_n (i := 1) (j := 1) X (ix_tb_at tb_X11_copy 54 rfl) rfl rfl (pc1 := 104) rfl ?_
                    obtain ⟨k_35, h⟩ := ix_ck_some h
                    refine iz_aald X (Or.inr rfl) k_35 (ix_tb_at tb_X11_copy 55 rfl) (pc1 := 105) rfl ?_
                    obtain ⟨b_36, q_37, h⟩ := ix_bd1_ex h
                    refine ix_rvs q_37 ?_
                    refine ix_iload_n (i := 2) (j := 2) X (ix_tb_at tb_X11_copy 56 rfl) rfl rfl (pc1 := 106) rfl ?_
                    refine ix_aload_n (i := 0) (j := 0) X (ix_tb_at tb_X11_copy 57 rfl) rfl rfl (pc1 := 107) rfl ?_
                    refine iz_getR X fl_RX11_11 k_13 q_34 (ix_tb_at tb_X11_copy 58 rfl) (pc1 := 110) rfl ?_
                    refine ix_iload_n (i := 3) (j := 3) X (ix_tb_at tb_X11_copy 59 rfl) rfl rfl (pc1 := 111) rfl ?_
                    obtain ⟨k_38, h⟩ := ix_ck_some h
                    refine iz_aald X (Or.inr rfl) k_38 (ix_tb_at tb_X11_copy 60 rfl) (pc1 := 112) rfl ?_
                    obtain ⟨b_39, q_40, h⟩ := ix_bd1_ex h
                    refine ix_rvs q_40 ?_
                    refine ix_iload (i := 4) (j := 4) X (ix_tb_at tb_X11_copy 61 rfl) rfl (pc1 := 114) rfl ?_
                    refine ix_iload (i := 5) (j := 5) X (ix_tb_at tb_X11_copy 62 rfl) rfl (pc1 := 116) rfl ?_
                    obtain ⟨k_41, h⟩ := ix_ck_some h
                    obtain ⟨d_42, e_43, h⟩ := ix_lt_ex h
                    refine iz_copyI X hsz (Or.inl rfl) ml_RX11_97 k_41 (Nat.le_of_ble_eq_true rfl) (Nat.le_of_ble_eq_true rfl) (ix_tb_at tb_X11_copy 63 rfl) e_43 (pc1 := 119) rfl ?_
                    refine ix_iload (i := 5) (j := 5) X (ix_tb_at tb_X11_copy 64 rfl) rfl (pc1 := 121) rfl ?_
                    exact ix_iret X hr hlk (ix_r2 (f := fun r => some (.int r)) (g := ix_w z) h) (ix_tb_at tb_X11_copy 65 rfl)
                  · have h := ix_iff q_32 h
                    refine ix_sub (L1 := [(0, .ref (K.2.2.1 + a0))]) [0] rfl ?_
                    exact t_X11_copy_91 hKp hsz X hr hlk  h
        · have h := ix_ift q_23 h
          refine ix_sub (L1 := [(0, .ref (K.2.2.1 + a0))]) [0] rfl ?_
          exact t_X11_copy_42 hKp hsz X hr hlk  h
    · have h := ix_ift q_12 h
      refine ix_sub (L1 := [(0, .ref (K.2.2.1 + a0))]) [0] rfl ?_
      exact t_X11_copy_14 hKp hsz X hr hlk  h
def tab_X11_cut : List (Nat × Instr × Nat) := [(0, .iload_n 1, 1), (1, .invokestatic 84, 3), (4, .ifCond .eq 9, 3), (7, .iload_n 2, 1), (8, .bipush 12, 2), (10, .if_icmp .le 11, 3), (13, .aload_n 0, 1), (14, .sipush (-1001), 3), (17, .invokevirtual 73, 3), (20, .ireturn, 1), (21, .iload_n 2, 1), (22, .ifCond .ge 11, 3), (25, .aload_n 0, 1), (26, .sipush (-1014), 3), (29, .invokevirtual 73, 3), (32, .ireturn, 1), (33, .aload_n 0, 1), (34, .getfield 14, 3), (37, .iload_n 1, 1), (38, .iaload, 1), (39, .iconst (-1), 1), (40, .if_icmp .ne 11, 3), (43, .aload_n 0, 1), (44, .sipush (-1011), 3), (47, .invokevirtual 73, 3), (50, .ireturn, 1), (51, .iload_n 2, 1), (52, .aload_n 0, 1), (53, .getfield 14, 3), (56, .iload_n 1, 1), (57, .iaload, 1), (58, .if_icmp .le 11, 3), (61, .aload_n 0, 1), (62, .sipush (-1012), 3), (65, .invokevirtual 73, 3), (68, .ireturn, 1), (69, .aload_n 0, 1), (70, .getfield 14, 3), (73, .iload_n 1, 1), (74, .iload_n 2, 1), (75, .iastore, 1), (76, .iload_n 2, 1), (77, .ireturn, 1)]
theorem tb_X11_cut : ix_tab cX11_cut tab_X11_cut := by
  unfold ix_tab
  decide +kernel
noncomputable def f_X11_cut_13 (n : Nat) (z : ix_Z)  (a0 : Nat) (d : ix_D2) : Option (Int32 × ix_D2) :=
  ix_ck (ix_ok z [10] a0) (ix_bd2 (f_X11_refuse n z a0 ((-1001)) d) (fun r_8 d_5 => some (r_8, d_5)))
noncomputable def f_X11_cut (n : Nat) (z : ix_Z) (a0 : Nat) (x1 : Int32) (x2 : Int32) (d : ix_D2) : Option (Int32 × ix_D2) :=
  ix_bd2 (f_X11_isPaper n z x1 d) (fun r_3 d_1 => ix_if (r_3 = 0) (f_X11_cut_13 n z  a0 d_1) (ix_if (x2 ≤ 12) (ix_if (0 ≤ x2) (ix_ck (ix_ok z [10] a0) (ix_bd1 (z.1 a0 1) (fun b_12 => ix_ck (ix_ix z 20 b_12 x1) (ix_if (d_1.1 b_12 (ix_n x1) = (-1)) (ix_bd2 (f_X11_refuse n z a0 ((-1011)) d_1) (fun r_24 d_22 => some (r_24, d_22))) (ix_if (x2 ≤ d_1.1 b_12 (ix_n x1)) (ix_lt (ix_di d_1 b_12 (ix_n x1) x2) (fun d_17 => some (x2, d_17))) (ix_bd2 (f_X11_refuse n z a0 ((-1012)) d_1) (fun r_21 d_19 => some (r_21, d_19)))))))) (ix_ck (ix_ok z [10] a0) (ix_bd2 (f_X11_refuse n z a0 ((-1014)) d_1) (fun r_28 d_25 => some (r_28, d_25))))) (f_X11_cut_13 n z  a0 d_1)))
set_option maxRecDepth 20000 in
theorem t_X11_cut_13 {l : Launch} {p : Program} {e : Env} {s : State} {m : MethodId} {args : Array Value} {below : List Frame} {meth : Method} {c : Code} {K : ix_Cx} (hKp : ix_Kp K) {n : Nat} {z : ix_Z} (X : ix_X p s m args c K cX11_cut RX11 3) (hr : meth.sig.returnType = (some .int)) (hlk : meth.locks = false)  {a0 : Nat} {r : Int32} {d1 : ix_D2}  {d : ix_D2} (h : f_X11_cut_13 n z  a0 d = some (r, d1)) : ix_G p l e (ix_rm 1 21 0 0) s m args below meth c (MQ below (ix_Post K (some (.int r)) (ix_w z d1)) args s 0 0 (ix_A K)) K 3 0 0 13 [(0, .ref (K.2.2.1 + a0))] [] (ix_w z d) := by
  unfold f_X11_cut_13 at h
  refine ix_aload_n (i := 0) (j := 0) X (ix_tb_at tb_X11_cut 6 rfl) rfl rfl (pc1 := 14) rfl ?_
  refine ix_sipush (v := (-1001)) X (ix_tb_at tb_X11_cut 7 rfl) (by decide) (pc1 := 17) rfl ?_
  obtain ⟨k_7, h⟩ := ix_ck_some h
  obtain ⟨r_8, d_5, h_6, h⟩ := ix_bd2_ex h
  refine ix_callV (As := [.int ((-1001))]) (rest := []) (ci := 10) (T := TX11) (nf := 18) X mf_X11_refuse mi_X11_refuse ms_X11_refuse rfl (Nat.le_of_ble_eq_true rfl) ml_RX11_73 ⟨Nat.le_of_ble_eq_true rfl, Nat.le_of_ble_eq_true rfl⟩ ⟨Nat.le_of_ble_eq_true rfl, Nat.le_of_ble_eq_true rfl⟩ rfl (Nat.le_of_ble_eq_true rfl) (ix_tb_at tb_X11_cut 8 rfl) ⟨k_7.1, List.mem_singleton.mp k_7.2⟩ (c_X11_refuse hKp h_6) rfl (pc1 := 20) rfl ?_
  exact ix_iret X hr hlk (ix_r2 (f := fun r => some (.int r)) (g := ix_w z) h) (ix_tb_at tb_X11_cut 9 rfl)
set_option maxRecDepth 20000 in
theorem c_X11_cut {l : Launch} {K : ix_Cx} (hKp : ix_Kp K) {n : Nat} {z : ix_Z} {a0 : Nat} {x1 : Int32} {x2 : Int32} {d : ix_D2} {r : Int32} {d1 : ix_D2} (h : f_X11_cut n z a0 x1 x2 d = some (r, d1)) : ix_M l K yX11_cut cX11_cut 3 (some .int) 1 21 0 0 [.ref (K.2.2.1 + a0), .int x1, .int x2] (ix_w z d) (some (.int r)) (ix_w z d1) := by
  refine ix_met mf_X11_cut hKp (Nat.le_of_ble_eq_true rfl) ?_
  intro p e s m args below meth c hr hlk hnm X
  have X : ix_X p s m args c K cX11_cut RX11 3 := X
  show ix_G p l e (ix_rm 1 21 0 0) s m args below meth c (MQ below (ix_Post K (some (.int r)) (ix_w z d1)) args s 0 0 (ix_A K)) K 3 0 0 0 [(0, .ref (K.2.2.1 + a0)), (1, .int x1), (2, .int x2)] [] (ix_w z d)
  unfold f_X11_cut at h
  refine ix_iload_n (i := 1) (j := 1) X (ix_tb_at tb_X11_cut 0 rfl) rfl rfl (pc1 := 1) rfl ?_
  obtain ⟨r_3, d_1, h_2, h⟩ := ix_bd2_ex h
  refine ix_callS (As := [.int x1]) (rest := []) X mf_X11_isPaper st_X11_isPaper ml_RX11_84 ⟨Nat.le_of_ble_eq_true rfl, Nat.le_of_ble_eq_true rfl⟩ ⟨Nat.le_of_ble_eq_true rfl, Nat.le_of_ble_eq_true rfl⟩ rfl (Nat.le_of_ble_eq_true rfl) (ix_tb_at tb_X11_cut 1 rfl) (c_X11_isPaper hKp h_2) rfl (pc1 := 4) rfl ?_
  refine ix_if_eq (tgt := 13) X (ix_tb_at tb_X11_cut 2 rfl) (by decide) (pc1 := 7) rfl (fun q_4 => ?_) (fun q_4 => ?_)
  · have h := ix_ift q_4 h
    refine ix_sub (L1 := [(0, .ref (K.2.2.1 + a0))]) [0] rfl ?_
    exact t_X11_cut_13 hKp X hr hlk  h
  · have h := ix_iff q_4 h
    refine ix_iload_n (i := 2) (j := 2) X (ix_tb_at tb_X11_cut 3 rfl) rfl rfl (pc1 := 8) rfl ?_
    refine ix_bipush (v := 12) X (ix_tb_at tb_X11_cut 4 rfl) (by decide) (pc1 := 10) rfl ?_
    refine ix_icmp_le (tgt := 21) X (ix_tb_at tb_X11_cut 5 rfl) (by decide) (pc1 := 13) rfl (fun q_9 => ?_) (fun q_9 => ?_)
    · have h := ix_ift q_9 h
      refine ix_iload_n (i := 2) (j := 2) X (ix_tb_at tb_X11_cut 10 rfl) rfl rfl (pc1 := 22) rfl ?_
      refine ix_if_ge (tgt := 33) X (ix_tb_at tb_X11_cut 11 rfl) (by decide) (pc1 := 25) rfl (fun q_10 => ?_) (fun q_10 => ?_)
      · have h := ix_ift q_10 h
        refine ix_aload_n (i := 0) (j := 0) X (ix_tb_at tb_X11_cut 16 rfl) rfl rfl (pc1 := 34) rfl ?_
        obtain ⟨k_11, h⟩ := ix_ck_some h
        obtain ⟨b_12, q_13, h⟩ := ix_bd1_ex h
        refine iz_getR X fl_RX11_14 k_11 q_13 (ix_tb_at tb_X11_cut 17 rfl) (pc1 := 37) rfl ?_
        refine ix_iload_n (i := 1) (j := 1) X (ix_tb_at tb_X11_cut 18 rfl) rfl rfl (pc1 := 38) rfl ?_
        obtain ⟨k_14, h⟩ := ix_ck_some h
        refine iz_iald X k_14 (ix_tb_at tb_X11_cut 19 rfl) (pc1 := 39) rfl ?_
        refine ix_iconst (v := (-1)) X (ix_tb_at tb_X11_cut 20 rfl) (by decide) (pc1 := 40) rfl ?_
        refine ix_icmp_ne (tgt := 51) X (ix_tb_at tb_X11_cut 21 rfl) (by decide) (pc1 := 43) rfl (fun q_15 => ?_) (fun q_15 => ?_)
        · have h := ix_iff q_15 h
          refine ix_iload_n (i := 2) (j := 2) X (ix_tb_at tb_X11_cut 26 rfl) rfl rfl (pc1 := 52) rfl ?_
          refine ix_aload_n (i := 0) (j := 0) X (ix_tb_at tb_X11_cut 27 rfl) rfl rfl (pc1 := 53) rfl ?_
          refine iz_getR X fl_RX11_14 k_11 q_13 (ix_tb_at tb_X11_cut 28 rfl) (pc1 := 56) rfl ?_
          refine ix_iload_n (i := 1) (j := 1) X (ix_tb_at tb_X11_cut 29 rfl) rfl rfl (pc1 := 57) rfl ?_
          refine iz_iald X k_14 (ix_tb_at tb_X11_cut 30 rfl) (pc1 := 58) rfl ?_
          refine ix_icmp_le (tgt := 69) X (ix_tb_at tb_X11_cut 31 rfl) (by decide) (pc1 := 61) rfl (fun q_16 => ?_) (fun q_16 => ?_)
          · have h := ix_ift q_16 h
            refine ix_aload_n (i := 0) (j := 0) X (ix_tb_at tb_X11_cut 36 rfl) rfl rfl (pc1 := 70) rfl ?_
            refine iz_getR X fl_RX11_14 k_11 q_13 (ix_tb_at tb_X11_cut 37 rfl) (pc1 := 73) rfl ?_
            refine ix_iload_n (i := 1) (j := 1) X (ix_tb_at tb_X11_cut 38 rfl) rfl rfl (pc1 := 74) rfl ?_
            refine ix_iload_n (i := 2) (j := 2) X (ix_tb_at tb_X11_cut 39 rfl) rfl rfl (pc1 := 75) rfl ?_
            obtain ⟨d_17, e_18, h⟩ := ix_lt_ex h
            refine iz_iast X k_14 (ix_tb_at tb_X11_cut 40 rfl) e_18 (pc1 := 76) rfl ?_
            refine ix_iload_n (i := 2) (j := 2) X (ix_tb_at tb_X11_cut 41 rfl) rfl rfl (pc1 := 77) rfl ?_
            exact ix_iret X hr hlk (ix_r2 (f := fun r => some (.int r)) (g := ix_w z) h) (ix_tb_at tb_X11_cut 42 rfl)
          · have h := ix_iff q_16 h
            refine ix_aload_n (i := 0) (j := 0) X (ix_tb_at tb_X11_cut 32 rfl) rfl rfl (pc1 := 62) rfl ?_
            refine ix_sipush (v := (-1012)) X (ix_tb_at tb_X11_cut 33 rfl) (by decide) (pc1 := 65) rfl ?_
            obtain ⟨r_21, d_19, h_20, h⟩ := ix_bd2_ex h
            refine ix_callV (As := [.int ((-1012))]) (rest := []) (ci := 10) (T := TX11) (nf := 18) X mf_X11_refuse mi_X11_refuse ms_X11_refuse rfl (Nat.le_of_ble_eq_true rfl) ml_RX11_73 ⟨Nat.le_of_ble_eq_true rfl, Nat.le_of_ble_eq_true rfl⟩ ⟨Nat.le_of_ble_eq_true rfl, Nat.le_of_ble_eq_true rfl⟩ rfl (Nat.le_of_ble_eq_true rfl) (ix_tb_at tb_X11_cut 34 rfl) ⟨k_11.1, List.mem_singleton.mp k_11.2⟩ (c_X11_refuse hKp h_20) rfl (pc1 := 68) rfl ?_
            exact ix_iret X hr hlk (ix_r2 (f := fun r => some (.int r)) (g := ix_w z) h) (ix_tb_at tb_X11_cut 35 rfl)
        · have h := ix_ift q_15 h
          refine ix_aload_n (i := 0) (j := 0) X (ix_tb_at tb_X11_cut 22 rfl) rfl rfl (pc1 := 44) rfl ?_
          refine ix_sipush (v := (-1011)) X (ix_tb_at tb_X11_cut 23 rfl) (by decide) (pc1 := 47) rfl ?_
          obtain ⟨r_24, d_22, h_23, h⟩ := ix_bd2_ex h
          refine ix_callV (As := [.int ((-1011))]) (rest := []) (ci := 10) (T := TX11) (nf := 18) X mf_X11_refuse mi_X11_refuse ms_X11_refuse rfl (Nat.le_of_ble_eq_true rfl) ml_RX11_73 ⟨Nat.le_of_ble_eq_true rfl, Nat.le_of_ble_eq_true rfl⟩ ⟨Nat.le_of_ble_eq_true rfl, Nat.le_of_ble_eq_true rfl⟩ rfl (Nat.le_of_ble_eq_true rfl) (ix_tb_at tb_X11_cut 24 rfl) ⟨k_11.1, List.mem_singleton.mp k_11.2⟩ (c_X11_refuse hKp h_23) rfl (pc1 := 50) rfl ?_
          exact ix_iret X hr hlk (ix_r2 (f := fun r => some (.int r)) (g := ix_w z) h) (ix_tb_at tb_X11_cut 25 rfl)
      · have h := ix_iff q_10 h
        refine ix_aload_n (i := 0) (j := 0) X (ix_tb_at tb_X11_cut 12 rfl) rfl rfl (pc1 := 26) rfl ?_
        refine ix_sipush (v := (-1014)) X (ix_tb_at tb_X11_cut 13 rfl) (by decide) (pc1 := 29) rfl ?_
        obtain ⟨k_27, h⟩ := ix_ck_some h
        obtain ⟨r_28, d_25, h_26, h⟩ := ix_bd2_ex h
        refine ix_callV (As := [.int ((-1014))]) (rest := []) (ci := 10) (T := TX11) (nf := 18) X mf_X11_refuse mi_X11_refuse ms_X11_refuse rfl (Nat.le_of_ble_eq_true rfl) ml_RX11_73 ⟨Nat.le_of_ble_eq_true rfl, Nat.le_of_ble_eq_true rfl⟩ ⟨Nat.le_of_ble_eq_true rfl, Nat.le_of_ble_eq_true rfl⟩ rfl (Nat.le_of_ble_eq_true rfl) (ix_tb_at tb_X11_cut 14 rfl) ⟨k_27.1, List.mem_singleton.mp k_27.2⟩ (c_X11_refuse hKp h_26) rfl (pc1 := 32) rfl ?_
        exact ix_iret X hr hlk (ix_r2 (f := fun r => some (.int r)) (g := ix_w z) h) (ix_tb_at tb_X11_cut 15 rfl)
    · have h := ix_iff q_9 h
      refine ix_sub (L1 := [(0, .ref (K.2.2.1 + a0))]) [0] rfl ?_
      exact t_X11_cut_13 hKp X hr hlk  h
def tab_X11_feed : List (Nat × Instr × Nat) := [(0, .iload_n 3, 1), (1, .iconst 1, 1), (2, .if_icmp .lt 9, 3), (5, .iload_n 3, 1), (6, .bipush 8, 2), (8, .if_icmp .le 11, 3), (11, .aload_n 0, 1), (12, .sipush (-1001), 3), (15, .invokevirtual 73, 3), (18, .ireturn, 1), (19, .aload_n 0, 1), (20, .getfield 21, 3), (23, .iload_n 3, 1), (24, .invokevirtual 103, 3), (27, .ifCond .ne 11, 3), (30, .aload_n 0, 1), (31, .sipush (-1003), 3), (34, .invokevirtual 73, 3), (37, .ireturn, 1), (38, .aload_n 0, 1), (39, .getfield 21, 3), (42, .lload_n 1, 1), (43, .iload_n 3, 1), (44, .invokevirtual 106, 3), (47, .ireturn, 1)]
theorem tb_X11_feed : ix_tab cX11_feed tab_X11_feed := by
  unfold ix_tab
  decide +kernel
noncomputable def f_X11_feed_11 (n : Nat) (z : ix_Z)  (a0 : Nat) (d : ix_D2) : Option (Int32 × ix_D2) :=
  ix_ck (ix_ok z [10] a0) (ix_bd2 (f_X11_refuse n z a0 ((-1001)) d) (fun r_5 d_2 => some (r_5, d_2)))
noncomputable def f_X11_feed (n : Nat) (z : ix_Z) (a0 : Nat) (y1 : Int64) (x3 : Int32) (d : ix_D2) : Option (Int32 × ix_D2) :=
  ix_if (x3 < 1) (f_X11_feed_11 n z  a0 d) (ix_if (x3 ≤ 8) (ix_ck (ix_ok z [10] a0) (ix_bd1 (z.1 a0 2) (fun b_8 => ix_ck (ix_ok z [4] b_8) (ix_bd2 (f_X4_takesBytes n z b_8 x3 d) (fun r_13 d_10 => ix_if (r_13 = 0) (ix_bd2 (f_X11_refuse n z a0 ((-1003)) d_10) (fun r_20 d_18 => some (r_20, d_18))) (ix_bd2 (f_X4_takeBytes n z b_8 y1 x3 d_10) (fun r_17 d_15 => some (r_17, d_15)))))))) (f_X11_feed_11 n z  a0 d))
set_option maxRecDepth 20000 in
theorem t_X11_feed_11 {l : Launch} {p : Program} {e : Env} {s : State} {m : MethodId} {args : Array Value} {below : List Frame} {meth : Method} {c : Code} {K : ix_Cx} (hKp : ix_Kp K) {n : Nat} {z : ix_Z} (X : ix_X p s m args c K cX11_feed RX11 4) (hr : meth.sig.returnType = (some .int)) (hlk : meth.locks = false)  {a0 : Nat} {r : Int32} {d1 : ix_D2}  {d : ix_D2} (h : f_X11_feed_11 n z  a0 d = some (r, d1)) : ix_G p l e (ix_rm 1 24 0 0) s m args below meth c (MQ below (ix_Post K (some (.int r)) (ix_w z d1)) args s 0 0 (ix_A K)) K 4 0 0 11 [(0, .ref (K.2.2.1 + a0))] [] (ix_w z d) := by
  unfold f_X11_feed_11 at h
  refine ix_aload_n (i := 0) (j := 0) X (ix_tb_at tb_X11_feed 6 rfl) rfl rfl (pc1 := 12) rfl ?_
  refine ix_sipush (v := (-1001)) X (ix_tb_at tb_X11_feed 7 rfl) (by decide) (pc1 := 15) rfl ?_
  obtain ⟨k_4, h⟩ := ix_ck_some h
  obtain ⟨r_5, d_2, h_3, h⟩ := ix_bd2_ex h
  refine ix_callV (As := [.int ((-1001))]) (rest := []) (ci := 10) (T := TX11) (nf := 18) X mf_X11_refuse mi_X11_refuse ms_X11_refuse rfl (Nat.le_of_ble_eq_true rfl) ml_RX11_73 ⟨Nat.le_of_ble_eq_true rfl, Nat.le_of_ble_eq_true rfl⟩ ⟨Nat.le_of_ble_eq_true rfl, Nat.le_of_ble_eq_true rfl⟩ rfl (Nat.le_of_ble_eq_true rfl) (ix_tb_at tb_X11_feed 8 rfl) ⟨k_4.1, List.mem_singleton.mp k_4.2⟩ (c_X11_refuse hKp h_3) rfl (pc1 := 18) rfl ?_
  exact ix_iret X hr hlk (ix_r2 (f := fun r => some (.int r)) (g := ix_w z) h) (ix_tb_at tb_X11_feed 9 rfl)
set_option maxRecDepth 20000 in
theorem c_X11_feed {l : Launch} {K : ix_Cx} (hKp : ix_Kp K) {n : Nat} {z : ix_Z} {a0 : Nat} {y1 : Int64} {x3 : Int32} {d : ix_D2} {r : Int32} {d1 : ix_D2} (h : f_X11_feed n z a0 y1 x3 d = some (r, d1)) : ix_M l K yX11_feed cX11_feed 4 (some .int) 1 24 0 0 [.ref (K.2.2.1 + a0), .long y1, .int x3] (ix_w z d) (some (.int r)) (ix_w z d1) := by
  refine ix_met mf_X11_feed hKp (Nat.le_of_ble_eq_true rfl) ?_
  intro p e s m args below meth c hr hlk hnm X
  have X : ix_X p s m args c K cX11_feed RX11 4 := X
  show ix_G p l e (ix_rm 1 24 0 0) s m args below meth c (MQ below (ix_Post K (some (.int r)) (ix_w z d1)) args s 0 0 (ix_A K)) K 4 0 0 0 [(0, .ref (K.2.2.1 + a0)), (1, .long y1), (3, .int x3)] [] (ix_w z d)
  unfold f_X11_feed at h
  refine ix_iload_n (i := 3) (j := 2) X (ix_tb_at tb_X11_feed 0 rfl) rfl rfl (pc1 := 1) rfl ?_
  refine ix_iconst (v := 1) X (ix_tb_at tb_X11_feed 1 rfl) (by decide) (pc1 := 2) rfl ?_
  refine ix_icmp_lt (tgt := 11) X (ix_tb_at tb_X11_feed 2 rfl) (by decide) (pc1 := 5) rfl (fun q_1 => ?_) (fun q_1 => ?_)
  · have h := ix_ift q_1 h
    refine ix_sub (L1 := [(0, .ref (K.2.2.1 + a0))]) [0] rfl ?_
    exact t_X11_feed_11 hKp X hr hlk  h
  · have h := ix_iff q_1 h
    refine ix_iload_n (i := 3) (j := 2) X (ix_tb_at tb_X11_feed 3 rfl) rfl rfl (pc1 := 6) rfl ?_
    refine ix_bipush (v := 8) X (ix_tb_at tb_X11_feed 4 rfl) (by decide) (pc1 := 8) rfl ?_
    refine ix_icmp_le (tgt := 19) X (ix_tb_at tb_X11_feed 5 rfl) (by decide) (pc1 := 11) rfl (fun q_6 => ?_) (fun q_6 => ?_)
    · have h := ix_ift q_6 h
      refine ix_aload_n (i := 0) (j := 0) X (ix_tb_at tb_X11_feed 10 rfl) rfl rfl (pc1 := 20) rfl ?_
      obtain ⟨k_7, h⟩ := ix_ck_some h
      obtain ⟨b_8, q_9, h⟩ := ix_bd1_ex h
      refine iz_getR X fl_RX11_21 k_7 q_9 (ix_tb_at tb_X11_feed 11 rfl) (pc1 := 23) rfl ?_
      refine ix_iload_n (i := 3) (j := 2) X (ix_tb_at tb_X11_feed 12 rfl) rfl rfl (pc1 := 24) rfl ?_
      obtain ⟨k_12, h⟩ := ix_ck_some h
      obtain ⟨r_13, d_10, h_11, h⟩ := ix_bd2_ex h
      refine ix_callV (As := [.int x3]) (rest := []) (ci := 4) (T := TX4) (nf := 17) X mf_X4_takesBytes mi_X4_takesBytes ms_X4_takesBytes rfl (Nat.le_of_ble_eq_true rfl) ml_RX11_103 ⟨Nat.le_of_ble_eq_true rfl, Nat.le_of_ble_eq_true rfl⟩ ⟨Nat.le_of_ble_eq_true rfl, Nat.le_of_ble_eq_true rfl⟩ rfl (Nat.le_of_ble_eq_true rfl) (ix_tb_at tb_X11_feed 13 rfl) ⟨k_12.1, List.mem_singleton.mp k_12.2⟩ (c_X4_takesBytes hKp h_11) rfl (pc1 := 27) rfl ?_
      refine ix_if_ne (tgt := 38) X (ix_tb_at tb_X11_feed 14 rfl) (by decide) (pc1 := 30) rfl (fun q_14 => ?_) (fun q_14 => ?_)
      · have h := ix_iff q_14 h
        refine ix_aload_n (i := 0) (j := 0) X (ix_tb_at tb_X11_feed 19 rfl) rfl rfl (pc1 := 39) rfl ?_
        refine iz_getR X fl_RX11_21 k_7 q_9 (ix_tb_at tb_X11_feed 20 rfl) (pc1 := 42) rfl ?_
        refine ix_lload_n (i := 1) (j := 1) X (ix_tb_at tb_X11_feed 21 rfl) rfl rfl (pc1 := 43) rfl ?_
        refine ix_iload_n (i := 3) (j := 2) X (ix_tb_at tb_X11_feed 22 rfl) rfl rfl (pc1 := 44) rfl ?_
        obtain ⟨r_17, d_15, h_16, h⟩ := ix_bd2_ex h
        refine ix_callV (As := [.long y1, .int x3]) (rest := []) (ci := 4) (T := TX4) (nf := 17) X mf_X4_takeBytes mi_X4_takeBytes ms_X4_takeBytes rfl (Nat.le_of_ble_eq_true rfl) ml_RX11_106 ⟨Nat.le_of_ble_eq_true rfl, Nat.le_of_ble_eq_true rfl⟩ ⟨Nat.le_of_ble_eq_true rfl, Nat.le_of_ble_eq_true rfl⟩ rfl (Nat.le_of_ble_eq_true rfl) (ix_tb_at tb_X11_feed 23 rfl) ⟨k_12.1, List.mem_singleton.mp k_12.2⟩ (c_X4_takeBytes hKp h_16) rfl (pc1 := 47) rfl ?_
        exact ix_iret X hr hlk (ix_r2 (f := fun r => some (.int r)) (g := ix_w z) h) (ix_tb_at tb_X11_feed 24 rfl)
      · have h := ix_ift q_14 h
        refine ix_aload_n (i := 0) (j := 0) X (ix_tb_at tb_X11_feed 15 rfl) rfl rfl (pc1 := 31) rfl ?_
        refine ix_sipush (v := (-1003)) X (ix_tb_at tb_X11_feed 16 rfl) (by decide) (pc1 := 34) rfl ?_
        obtain ⟨r_20, d_18, h_19, h⟩ := ix_bd2_ex h
        refine ix_callV (As := [.int ((-1003))]) (rest := []) (ci := 10) (T := TX11) (nf := 18) X mf_X11_refuse mi_X11_refuse ms_X11_refuse rfl (Nat.le_of_ble_eq_true rfl) ml_RX11_73 ⟨Nat.le_of_ble_eq_true rfl, Nat.le_of_ble_eq_true rfl⟩ ⟨Nat.le_of_ble_eq_true rfl, Nat.le_of_ble_eq_true rfl⟩ rfl (Nat.le_of_ble_eq_true rfl) (ix_tb_at tb_X11_feed 17 rfl) ⟨k_7.1, List.mem_singleton.mp k_7.2⟩ (c_X11_refuse hKp h_19) rfl (pc1 := 37) rfl ?_
        exact ix_iret X hr hlk (ix_r2 (f := fun r => some (.int r)) (g := ix_w z) h) (ix_tb_at tb_X11_feed 18 rfl)
    · have h := ix_iff q_6 h
      refine ix_sub (L1 := [(0, .ref (K.2.2.1 + a0))]) [0] rfl ?_
      exact t_X11_feed_11 hKp X hr hlk  h
def tab_X11_wipe : List (Nat × Instr × Nat) := [(0, .aload_n 0, 1), (1, .getfield 21, 3), (4, .invokevirtual 110, 3), (7, .ireturn, 1)]
theorem tb_X11_wipe : ix_tab cX11_wipe tab_X11_wipe := by
  unfold ix_tab
  decide +kernel
noncomputable def f_X11_wipe (n : Nat) (z : ix_Z) (a0 : Nat) (d : ix_D2) : Option (Int32 × ix_D2) :=
  ix_ck (ix_ok z [10] a0) (ix_bd1 (z.1 a0 2) (fun b_2 => ix_ck (ix_ok z [4] b_2) (ix_bd2 (f_X4_emptyTape n z b_2 d) (fun r_7 d_4 => some (r_7, d_4)))))
set_option maxRecDepth 20000 in
theorem c_X11_wipe {l : Launch} {K : ix_Cx} (hKp : ix_Kp K) {n : Nat} {z : ix_Z} {a0 : Nat} {d : ix_D2} {r : Int32} {d1 : ix_D2} (h : f_X11_wipe n z a0 d = some (r, d1)) : ix_M l K yX11_wipe cX11_wipe 1 (some .int) 1 21 0 0 [.ref (K.2.2.1 + a0)] (ix_w z d) (some (.int r)) (ix_w z d1) := by
  refine ix_met mf_X11_wipe hKp (Nat.le_of_ble_eq_true rfl) ?_
  intro p e s m args below meth c hr hlk hnm X
  have X : ix_X p s m args c K cX11_wipe RX11 1 := X
  show ix_G p l e (ix_rm 1 21 0 0) s m args below meth c (MQ below (ix_Post K (some (.int r)) (ix_w z d1)) args s 0 0 (ix_A K)) K 1 0 0 0 [(0, .ref (K.2.2.1 + a0))] [] (ix_w z d)
  unfold f_X11_wipe at h
  refine ix_aload_n (i := 0) (j := 0) X (ix_tb_at tb_X11_wipe 0 rfl) rfl rfl (pc1 := 1) rfl ?_
  obtain ⟨k_1, h⟩ := ix_ck_some h
  obtain ⟨b_2, q_3, h⟩ := ix_bd1_ex h
  refine iz_getR X fl_RX11_21 k_1 q_3 (ix_tb_at tb_X11_wipe 1 rfl) (pc1 := 4) rfl ?_
  obtain ⟨k_6, h⟩ := ix_ck_some h
  obtain ⟨r_7, d_4, h_5, h⟩ := ix_bd2_ex h
  refine ix_callV (As := []) (rest := []) (ci := 4) (T := TX4) (nf := 17) X mf_X4_emptyTape mi_X4_emptyTape ms_X4_emptyTape rfl (Nat.le_of_ble_eq_true rfl) ml_RX11_110 ⟨Nat.le_of_ble_eq_true rfl, Nat.le_of_ble_eq_true rfl⟩ ⟨Nat.le_of_ble_eq_true rfl, Nat.le_of_ble_eq_true rfl⟩ rfl (Nat.le_of_ble_eq_true rfl) (ix_tb_at tb_X11_wipe 2 rfl) ⟨k_6.1, List.mem_singleton.mp k_6.2⟩ (c_X4_emptyTape hKp h_5) rfl (pc1 := 7) rfl ?_
  exact ix_iret X hr hlk (ix_r2 (f := fun r => some (.int r)) (g := ix_w z) h) (ix_tb_at tb_X11_wipe 3 rfl)
def tab_X11_lookForItems : List (Nat × Instr × Nat) := [(0, .aload_n 0, 1), (1, .iload_n 1, 1), (2, .invokevirtual 92, 3), (5, .istore_n 2, 1), (6, .iload_n 2, 1), (7, .ifCond .eq 5, 3), (10, .iload_n 2, 1), (11, .ireturn, 1), (12, .iconst 0, 1), (13, .istore_n 3, 1), (14, .iload_n 3, 1), (15, .aload_n 0, 1), (16, .getfield 14, 3), (19, .iload_n 1, 1), (20, .iaload, 1), (21, .if_icmp .ge 29, 3), (24, .iload_n 2, 1), (25, .ifCond .ne 25, 3), (28, .aload_n 0, 1), (29, .getfield 28, 3), (32, .aload_n 0, 1), (33, .getfield 11, 3), (36, .iload_n 1, 1), (37, .aaload, 1), (38, .iload_n 3, 1), (39, .iaload, 1), (40, .invokevirtual 235, 3), (43, .istore_n 2, 1), (44, .iinc 3 1, 3), (47, .goto (-33), 3), (50, .iload_n 2, 1), (51, .ireturn, 1)]
theorem tb_X11_lookForItems : ix_tab cX11_lookForItems tab_X11_lookForItems := by
  unfold ix_tab
  decide +kernel
noncomputable def b_X11_lookForItems_14 (n : Nat) (z : ix_Z)  (a0 : Nat) (x1 : Int32) (rec14 : Int32 → Int32 → ix_D2 → Option (Int32 × ix_D2)) (x2 : Int32) (x3 : Int32) (d : ix_D2) : Option (Int32 × ix_D2) :=
  ix_ck (ix_ok z [10] a0) (ix_bd1 (z.1 a0 1) (fun b_7 => ix_ck (ix_ix z 20 b_7 x1) (ix_if (d.1 b_7 (ix_n x1) ≤ x3) (some (x2, d)) (ix_if (x2 = 0) (ix_bd1 (z.1 a0 3) (fun b_12 => ix_bd1 (z.1 a0 0) (fun b_14 => ix_ck (ix_ix z 25 b_14 x1) (ix_bd1 (z.1 b_14 (ix_n x1)) (fun b_17 => ix_ck (ix_ix z 20 b_17 x3) (ix_ck (ix_ok z [2] b_12) (ix_bd2 (f_X2_look n z b_12 (d.1 b_17 (ix_n x3)) d) (fun r_23 d_20 => ix_lt (x3 + 1) (fun x3_24 => rec14 r_23 x3_24 d_20))))))))) (some (x2, d))))))
noncomputable def f_X11_lookForItems_14 (n : Nat) (z : ix_Z)  (a0 : Nat) (x1 : Int32) (x2 : Int32) (x3 : Int32) (d : ix_D2) : Option (Int32 × ix_D2) := ix_fix (b_X11_lookForItems_14 n z  a0 x1) (fun _ _ _ => none) n x2 x3 d
noncomputable def f_X11_lookForItems (n : Nat) (z : ix_Z) (a0 : Nat) (x1 : Int32) (d : ix_D2) : Option (Int32 × ix_D2) :=
  ix_ck (ix_ok z [10] a0) (ix_bd2 (f_X11_lookForRow n z a0 x1 d) (fun r_4 d_1 => ix_if (r_4 = 0) (f_X11_lookForItems_14 n z  a0 x1 r_4 0 d_1) (some (r_4, d_1))))
set_option maxRecDepth 20000 in
theorem tb_X11_lookForItems_14 {l : Launch} {p : Program} {e : Env} {s : State} {m : MethodId} {args : Array Value} {below : List Frame} {meth : Method} {c : Code} {K : ix_Cx} (hKp : ix_Kp K) {n : Nat} {z : ix_Z} (X : ix_X p s m args c K cX11_lookForItems RX11 4) (hr : meth.sig.returnType = (some .int)) (hlk : meth.locks = false)  {a0 : Nat} {x1 : Int32} {rec14 : Int32 → Int32 → ix_D2 → Option (Int32 × ix_D2)} {r : Int32} {d1 : ix_D2} (hrec14 : ∀ (x2 : Int32) (x3 : Int32) (d : ix_D2), rec14 x2 x3 d = some (r, d1) → ix_G p l e (ix_rm 2 44 0 0) s m args below meth c (MQ below (ix_Post K (some (.int r)) (ix_w z d1)) args s 0 0 (ix_A K)) K 4 0 0 14 [(0, .ref (K.2.2.1 + a0)), (1, .int x1), (2, .int x2), (3, .int x3)] [] (ix_w z d)) {x2 : Int32} {x3 : Int32} {d : ix_D2} (h : b_X11_lookForItems_14 n z  a0 x1 rec14 x2 x3 d = some (r, d1)) : ix_G p l e (ix_rm 2 44 0 0) s m args below meth c (MQ below (ix_Post K (some (.int r)) (ix_w z d1)) args s 0 0 (ix_A K)) K 4 0 0 14 [(0, .ref (K.2.2.1 + a0)), (1, .int x1), (2, .int x2), (3, .int x3)] [] (ix_w z d) := by
  unfold b_X11_lookForItems_14 at h
  refine ix_iload_n (i := 3) (j := 3) X (ix_tb_at tb_X11_lookForItems 10 rfl) rfl rfl (pc1 := 15) rfl ?_
  refine ix_aload_n (i := 0) (j := 0) X (ix_tb_at tb_X11_lookForItems 11 rfl) rfl rfl (pc1 := 16) rfl ?_
  obtain ⟨k_6, h⟩ := ix_ck_some h
  obtain ⟨b_7, q_8, h⟩ := ix_bd1_ex h
  refine iz_getR X fl_RX11_14 k_6 q_8 (ix_tb_at tb_X11_lookForItems 12 rfl) (pc1 := 19) rfl ?_
  refine ix_iload_n (i := 1) (j := 1) X (ix_tb_at tb_X11_lookForItems 13 rfl) rfl rfl (pc1 := 20) rfl ?_
  obtain ⟨k_9, h⟩ := ix_ck_some h
  refine iz_iald X k_9 (ix_tb_at tb_X11_lookForItems 14 rfl) (pc1 := 21) rfl ?_
  refine ix_icmp_ge (tgt := 50) X (ix_tb_at tb_X11_lookForItems 15 rfl) (by decide) (pc1 := 24) rfl (fun q_10 => ?_) (fun q_10 => ?_)
  · have h := ix_ift q_10 h
    refine ix_iload_n (i := 2) (j := 2) X (ix_tb_at tb_X11_lookForItems 30 rfl) rfl rfl (pc1 := 51) rfl ?_
    exact ix_iret X hr hlk (ix_r2 (f := fun r => some (.int r)) (g := ix_w z) h) (ix_tb_at tb_X11_lookForItems 31 rfl)
  · have h := ix_iff q_10 h
    refine ix_iload_n (i := 2) (j := 2) X (ix_tb_at tb_X11_lookForItems 16 rfl) rfl rfl (pc1 := 25) rfl ?_
    refine ix_if_ne (tgt := 50) X (ix_tb_at tb_X11_lookForItems 17 rfl) (by decide) (pc1 := 28) rfl (fun q_11 => ?_) (fun q_11 => ?_)
    · have h := ix_iff q_11 h
      refine ix_iload_n (i := 2) (j := 2) X (ix_tb_at tb_X11_lookForItems 30 rfl) rfl rfl (pc1 := 51) rfl ?_
      exact ix_iret X hr hlk (ix_r2 (f := fun r => some (.int r)) (g := ix_w z) h) (ix_tb_at tb_X11_lookForItems 31 rfl)
    · have h := ix_ift q_11 h
      refine ix_aload_n (i := 0) (j := 0) X (ix_tb_at tb_X11_lookForItems 18 rfl) rfl rfl (pc1 := 29) rfl ?_
      obtain ⟨b_12, q_13, h⟩ := ix_bd1_ex h
      refine iz_getR X fl_RX11_28 k_6 q_13 (ix_tb_at tb_X11_lookForItems 19 rfl) (pc1 := 32) rfl ?_
      refine ix_aload_n (i := 0) (j := 0) X (ix_tb_at tb_X11_lookForItems 20 rfl) rfl rfl (pc1 := 33) rfl ?_
      obtain ⟨b_14, q_15, h⟩ := ix_bd1_ex h
      refine iz_getR X fl_RX11_11 k_6 q_15 (ix_tb_at tb_X11_lookForItems 21 rfl) (pc1 := 36) rfl ?_
      refine ix_iload_n (i := 1) (j := 1) X (ix_tb_at tb_X11_lookForItems 22 rfl) rfl rfl (pc1 := 37) rfl ?_
      obtain ⟨k_16, h⟩ := ix_ck_some h
      refine iz_aald X (Or.inr rfl) k_16 (ix_tb_at tb_X11_lookForItems 23 rfl) (pc1 := 38) rfl ?_
      obtain ⟨b_17, q_18, h⟩ := ix_bd1_ex h
      refine ix_rvs q_18 ?_
      refine ix_iload_n (i := 3) (j := 3) X (ix_tb_at tb_X11_lookForItems 24 rfl) rfl rfl (pc1 := 39) rfl ?_
      obtain ⟨k_19, h⟩ := ix_ck_some h
      refine iz_iald X k_19 (ix_tb_at tb_X11_lookForItems 25 rfl) (pc1 := 40) rfl ?_
      obtain ⟨k_22, h⟩ := ix_ck_some h
      obtain ⟨r_23, d_20, h_21, h⟩ := ix_bd2_ex h
      refine ix_callV (As := [.int (d.1 b_17 (ix_n x3))]) (rest := []) (ci := 2) (T := TX2) (nf := 12) X mf_X2_look mi_X2_look ms_X2_look rfl (Nat.le_of_ble_eq_true rfl) ml_RX11_235 ⟨Nat.le_of_ble_eq_true rfl, Nat.le_of_ble_eq_true rfl⟩ ⟨Nat.le_of_ble_eq_true rfl, Nat.le_of_ble_eq_true rfl⟩ rfl (Nat.le_of_ble_eq_true rfl) (ix_tb_at tb_X11_lookForItems 26 rfl) ⟨k_22.1, List.mem_singleton.mp k_22.2⟩ (c_X2_look hKp h_21) rfl (pc1 := 43) rfl ?_
      refine ix_istore_n (i := 2) (L1 := [(2, .int r_23), (0, .ref (K.2.2.1 + a0)), (1, .int x1), (3, .int x3)]) X (ix_tb_at tb_X11_lookForItems 27 rfl) rfl (Nat.le_of_ble_eq_true rfl) rfl (pc1 := 44) rfl ?_
      obtain ⟨x3_24, e_25, h⟩ := ix_lt_ex h
      refine ix_iinc (i := 3) (j := 3) (v := x3_24) (L1 := [(3, .int x3_24), (2, .int r_23), (0, .ref (K.2.2.1 + a0)), (1, .int x1)]) X (ix_tb_at tb_X11_lookForItems 28 rfl) rfl (by rw [oi_1]; exact e_25.symm) (Nat.le_of_ble_eq_true rfl) rfl (pc1 := 47) rfl ?_
      refine ix_goto (tgt := 14) X (ix_tb_at tb_X11_lookForItems 29 rfl) (by decide) ?_
      refine ix_sub (L1 := [(0, .ref (K.2.2.1 + a0)), (1, .int x1), (2, .int r_23), (3, .int x3_24)]) [2, 3, 1, 0] rfl ?_
      exact hrec14 r_23 x3_24 d_20 h
theorem t_X11_lookForItems_14 {l : Launch} {p : Program} {e : Env} {s : State} {m : MethodId} {args : Array Value} {below : List Frame} {meth : Method} {c : Code} {K : ix_Cx} (hKp : ix_Kp K) {n : Nat} {z : ix_Z} (X : ix_X p s m args c K cX11_lookForItems RX11 4) (hr : meth.sig.returnType = (some .int)) (hlk : meth.locks = false)  {a0 : Nat} {x1 : Int32} {r : Int32} {d1 : ix_D2}  {x2 : Int32} {x3 : Int32} {d : ix_D2} (h : f_X11_lookForItems_14 n z  a0 x1 x2 x3 d = some (r, d1)) : ix_G p l e (ix_rm 2 44 0 0) s m args below meth c (MQ below (ix_Post K (some (.int r)) (ix_w z d1)) args s 0 0 (ix_A K)) K 4 0 0 14 [(0, .ref (K.2.2.1 + a0)), (1, .int x1), (2, .int x2), (3, .int x3)] [] (ix_w z d) := by
  have key : ∀ (f : Nat) (x2 : Int32) (x3 : Int32) (d : ix_D2), ix_fix (b_X11_lookForItems_14 n z  a0 x1) (fun _ _ _ => none) f x2 x3 d = some (r, d1) → ix_G p l e (ix_rm 2 44 0 0) s m args below meth c (MQ below (ix_Post K (some (.int r)) (ix_w z d1)) args s 0 0 (ix_A K)) K 4 0 0 14 [(0, .ref (K.2.2.1 + a0)), (1, .int x1), (2, .int x2), (3, .int x3)] [] (ix_w z d) := by
    intro f
    induction f with
    | zero =>
      intro x2 x3 d h
      have h : (none : Option (Int32 × ix_D2)) = some (r, d1) := h
      cases h
    | succ f ih =>
      intro x2 x3 d h
      exact tb_X11_lookForItems_14 hKp X hr hlk (rec14 := ix_fix (b_X11_lookForItems_14 n z  a0 x1) (fun _ _ _ => none) f)  ih h
  exact key n x2 x3 d h
set_option maxRecDepth 20000 in
theorem c_X11_lookForItems {l : Launch} {K : ix_Cx} (hKp : ix_Kp K) {n : Nat} {z : ix_Z} {a0 : Nat} {x1 : Int32} {d : ix_D2} {r : Int32} {d1 : ix_D2} (h : f_X11_lookForItems n z a0 x1 d = some (r, d1)) : ix_M l K yX11_lookForItems cX11_lookForItems 4 (some .int) 2 44 0 0 [.ref (K.2.2.1 + a0), .int x1] (ix_w z d) (some (.int r)) (ix_w z d1) := by
  refine ix_met mf_X11_lookForItems hKp (Nat.le_of_ble_eq_true rfl) ?_
  intro p e s m args below meth c hr hlk hnm X
  have X : ix_X p s m args c K cX11_lookForItems RX11 4 := X
  show ix_G p l e (ix_rm 2 44 0 0) s m args below meth c (MQ below (ix_Post K (some (.int r)) (ix_w z d1)) args s 0 0 (ix_A K)) K 4 0 0 0 [(0, .ref (K.2.2.1 + a0)), (1, .int x1)] [] (ix_w z d)
  unfold f_X11_lookForItems at h
  refine ix_aload_n (i := 0) (j := 0) X (ix_tb_at tb_X11_lookForItems 0 rfl) rfl rfl (pc1 := 1) rfl ?_
  refine ix_iload_n (i := 1) (j := 1) X (ix_tb_at tb_X11_lookForItems 1 rfl) rfl rfl (pc1 := 2) rfl ?_
  obtain ⟨k_3, h⟩ := ix_ck_some h
  obtain ⟨r_4, d_1, h_2, h⟩ := ix_bd2_ex h
  refine ix_callV (As := [.int x1]) (rest := []) (ci := 10) (T := TX11) (nf := 18) X mf_X11_lookForRow mi_X11_lookForRow ms_X11_lookForRow rfl (Nat.le_of_ble_eq_true rfl) ml_RX11_92 ⟨Nat.le_of_ble_eq_true rfl, Nat.le_of_ble_eq_true rfl⟩ ⟨Nat.le_of_ble_eq_true rfl, Nat.le_of_ble_eq_true rfl⟩ rfl (Nat.le_of_ble_eq_true rfl) (ix_tb_at tb_X11_lookForItems 2 rfl) ⟨k_3.1, List.mem_singleton.mp k_3.2⟩ (c_X11_lookForRow hKp h_2) rfl (pc1 := 5) rfl ?_
  refine ix_istore_n (i := 2) (L1 := [(2, .int r_4), (0, .ref (K.2.2.1 + a0)), (1, .int x1)]) X (ix_tb_at tb_X11_lookForItems 3 rfl) rfl (Nat.le_of_ble_eq_true rfl) rfl (pc1 := 6) rfl ?_
  refine ix_iload_n (i := 2) (j := 0) X (ix_tb_at tb_X11_lookForItems 4 rfl) rfl rfl (pc1 := 7) rfl ?_
  refine ix_if_eq (tgt := 12) X (ix_tb_at tb_X11_lookForItems 5 rfl) (by decide) (pc1 := 10) rfl (fun q_5 => ?_) (fun q_5 => ?_)
  · have h := ix_ift q_5 h
    refine ix_iconst (v := 0) X (ix_tb_at tb_X11_lookForItems 8 rfl) (by decide) (pc1 := 13) rfl ?_
    refine ix_istore_n (i := 3) (L1 := [(3, .int 0), (2, .int r_4), (0, .ref (K.2.2.1 + a0)), (1, .int x1)]) X (ix_tb_at tb_X11_lookForItems 9 rfl) rfl (Nat.le_of_ble_eq_true rfl) rfl (pc1 := 14) rfl ?_
    refine ix_sub (L1 := [(0, .ref (K.2.2.1 + a0)), (1, .int x1), (2, .int r_4), (3, .int 0)]) [2, 3, 1, 0] rfl ?_
    exact t_X11_lookForItems_14 hKp X hr hlk  h
  · have h := ix_iff q_5 h
    refine ix_iload_n (i := 2) (j := 0) X (ix_tb_at tb_X11_lookForItems 6 rfl) rfl rfl (pc1 := 11) rfl ?_
    exact ix_iret X hr hlk (ix_r2 (f := fun r => some (.int r)) (g := ix_w z) h) (ix_tb_at tb_X11_lookForItems 7 rfl)
def tab_X11_ruleAt : List (Nat × Instr × Nat) := [(0, .iload_n 1, 1), (1, .ifCond .lt 20, 3), (4, .iload_n 1, 1), (5, .aload_n 0, 1), (6, .getfield 281, 3), (9, .if_icmp .ge 12, 3), (12, .aload_n 0, 1), (13, .getfield 34, 3), (16, .iload_n 1, 1), (17, .aaload, 1), (18, .goto 4, 3), (21, .aconst_null, 1), (22, .areturn, 1)]
theorem tb_X11_ruleAt : ix_tab cX11_ruleAt tab_X11_ruleAt := by
  unfold ix_tab
  decide +kernel
noncomputable def f_X11_ruleAt_22 (n : Nat) (z : ix_Z)  (s0 : Option Nat) (d : ix_D2) : Option (Option Nat × ix_D2) :=
  some (s0, d)
noncomputable def f_X11_ruleAt_21 (n : Nat) (z : ix_Z)   (d : ix_D2) : Option (Option Nat × ix_D2) :=
  f_X11_ruleAt_22 n z  none d
noncomputable def f_X11_ruleAt (n : Nat) (z : ix_Z) (a0 : Nat) (x1 : Int32) (d : ix_D2) : Option (Option Nat × ix_D2) :=
  ix_if (x1 < 0) (f_X11_ruleAt_21 n z   d) (ix_ck (ix_ok z [10] a0) (ix_if (d.1 a0 5 ≤ x1) (f_X11_ruleAt_21 n z   d) (ix_bd1 (z.1 a0 4) (fun b_4 => ix_ck (ix_ix z 24 b_4 x1) (f_X11_ruleAt_22 n z  (z.1 b_4 (ix_n x1)) d)))))
set_option maxRecDepth 20000 in
theorem t_X11_ruleAt_22 {l : Launch} {p : Program} {e : Env} {s : State} {m : MethodId} {args : Array Value} {below : List Frame} {meth : Method} {c : Code} {K : ix_Cx} (hKp : ix_Kp K) {n : Nat} {z : ix_Z} (X : ix_X p s m args c K cX11_ruleAt RX11 2) (hr : meth.sig.returnType = (some (.object "ClauseCourt$Rule"))) (hlk : meth.locks = false)  {s0 : Option Nat} {r : Option Nat} {d1 : ix_D2}  {d : ix_D2} (h : f_X11_ruleAt_22 n z  s0 d = some (r, d1)) : ix_G p l e (ix_rm 0 0 0 0) s m args below meth c (MQ below (ix_Post K (some (ix_rv K r)) (ix_w z d1)) args s 0 0 (ix_A K)) K 2 0 0 22 [] [ix_rv K s0] (ix_w z d) := by
  unfold f_X11_ruleAt_22 at h
  exact ix_aret (v := s0) X hr (Or.inl ⟨_, rfl⟩) hlk (ix_r2 (f := fun r => some (ix_rv K r)) (g := ix_w z) h) (ix_tb_at tb_X11_ruleAt 12 rfl)
set_option maxRecDepth 20000 in
theorem t_X11_ruleAt_21 {l : Launch} {p : Program} {e : Env} {s : State} {m : MethodId} {args : Array Value} {below : List Frame} {meth : Method} {c : Code} {K : ix_Cx} (hKp : ix_Kp K) {n : Nat} {z : ix_Z} (X : ix_X p s m args c K cX11_ruleAt RX11 2) (hr : meth.sig.returnType = (some (.object "ClauseCourt$Rule"))) (hlk : meth.locks = false)   {r : Option Nat} {d1 : ix_D2}  {d : ix_D2} (h : f_X11_ruleAt_21 n z   d = some (r, d1)) : ix_G p l e (ix_rm 0 0 0 0) s m args below meth c (MQ below (ix_Post K (some (ix_rv K r)) (ix_w z d1)) args s 0 0 (ix_A K)) K 2 0 0 21 [] [] (ix_w z d) := by
  unfold f_X11_ruleAt_21 at h
  refine ix_null X (ix_tb_at tb_X11_ruleAt 11 rfl) (pc1 := 22) rfl ?_
  refine ix_sub (L1 := []) [] rfl ?_
  exact t_X11_ruleAt_22 hKp X hr hlk  h
set_option maxRecDepth 20000 in
theorem c_X11_ruleAt {l : Launch} {K : ix_Cx} (hKp : ix_Kp K) {n : Nat} {z : ix_Z} {a0 : Nat} {x1 : Int32} {d : ix_D2} {r : Option Nat} {d1 : ix_D2} (h : f_X11_ruleAt n z a0 x1 d = some (r, d1)) : ix_M l K yX11_ruleAt cX11_ruleAt 2 (some (.object "ClauseCourt$Rule")) 0 0 0 0 [.ref (K.2.2.1 + a0), .int x1] (ix_w z d) (some (ix_rv K r)) (ix_w z d1) := by
  refine ix_met mf_X11_ruleAt hKp (Nat.le_of_ble_eq_true rfl) ?_
  intro p e s m args below meth c hr hlk hnm X
  have X : ix_X p s m args c K cX11_ruleAt RX11 2 := X
  show ix_G p l e (ix_rm 0 0 0 0) s m args below meth c (MQ below (ix_Post K (some (ix_rv K r)) (ix_w z d1)) args s 0 0 (ix_A K)) K 2 0 0 0 [(0, .ref (K.2.2.1 + a0)), (1, .int x1)] [] (ix_w z d)
  unfold f_X11_ruleAt at h
  refine ix_iload_n (i := 1) (j := 1) X (ix_tb_at tb_X11_ruleAt 0 rfl) rfl rfl (pc1 := 1) rfl ?_
  refine ix_if_lt (tgt := 21) X (ix_tb_at tb_X11_ruleAt 1 rfl) (by decide) (pc1 := 4) rfl (fun q_1 => ?_) (fun q_1 => ?_)
  · have h := ix_ift q_1 h
    refine ix_sub (L1 := []) [] rfl ?_
    exact t_X11_ruleAt_21 hKp X hr hlk  h
  · have h := ix_iff q_1 h
    refine ix_iload_n (i := 1) (j := 1) X (ix_tb_at tb_X11_ruleAt 2 rfl) rfl rfl (pc1 := 5) rfl ?_
    refine ix_aload_n (i := 0) (j := 0) X (ix_tb_at tb_X11_ruleAt 3 rfl) rfl rfl (pc1 := 6) rfl ?_
    obtain ⟨k_2, h⟩ := ix_ck_some h
    refine iz_getI X fl_RX11_281 k_2 (ix_tb_at tb_X11_ruleAt 4 rfl) (pc1 := 9) rfl ?_
    refine ix_icmp_ge (tgt := 21) X (ix_tb_at tb_X11_ruleAt 5 rfl) (by decide) (pc1 := 12) rfl (fun q_3 => ?_) (fun q_3 => ?_)
    · have h := ix_ift q_3 h
      refine ix_sub (L1 := []) [] rfl ?_
      exact t_X11_ruleAt_21 hKp X hr hlk  h
    · have h := ix_iff q_3 h
      refine ix_aload_n (i := 0) (j := 0) X (ix_tb_at tb_X11_ruleAt 6 rfl) rfl rfl (pc1 := 13) rfl ?_
      obtain ⟨b_4, q_5, h⟩ := ix_bd1_ex h
      refine iz_getR X fl_RX11_34 k_2 q_5 (ix_tb_at tb_X11_ruleAt 7 rfl) (pc1 := 16) rfl ?_
      refine ix_iload_n (i := 1) (j := 1) X (ix_tb_at tb_X11_ruleAt 8 rfl) rfl rfl (pc1 := 17) rfl ?_
      obtain ⟨k_6, h⟩ := ix_ck_some h
      refine iz_aald X (Or.inl rfl) k_6 (ix_tb_at tb_X11_ruleAt 9 rfl) (pc1 := 18) rfl ?_
      refine ix_goto (tgt := 22) X (ix_tb_at tb_X11_ruleAt 10 rfl) (by decide) ?_
      refine ix_sub (L1 := []) [] rfl ?_
      exact t_X11_ruleAt_22 hKp X hr hlk  h
def tab_X11_kind : List (Nat × Instr × Nat) := [(0, .aload_n 0, 1), (1, .iload_n 1, 1), (2, .invokevirtual 154, 3), (5, .astore_n 2, 1), (6, .aload_n 2, 1), (7, .ifnonnull 13, 3), (10, .aload_n 0, 1), (11, .sipush (-1001), 3), (14, .invokevirtual 73, 3), (17, .goto 7, 3), (20, .aload_n 2, 1), (21, .invokevirtual 158, 3), (24, .ireturn, 1)]
theorem tb_X11_kind : ix_tab cX11_kind tab_X11_kind := by
  unfold ix_tab
  decide +kernel
noncomputable def v_RX11_158 (n : Nat) (z : ix_Z) (b : Nat)  (d : ix_D2) : Option (Int32 × ix_D2) := ix_if ((z.2.1 b).1 = 0) (f_X0_kindNumber n z b  d) (ix_if ((z.2.1 b).1 = 3) (f_X3_kindNumber n z b  d) (ix_if ((z.2.1 b).1 = 5) (f_X5_kindNumber n z b  d) (ix_if ((z.2.1 b).1 = 6) (f_X6_kindNumber n z b  d) (f_X10_kindNumber n z b  d))))
theorem tv_RX11_158 {l : Launch} {p : Program} {e : Env} {s : State} {m : MethodId} {args : Array Value} {below : List Frame} {meth : Method} {c : Code} {K : ix_Cx} {R : Room} {Q : State → Prop} {nL k n pc : Nat} {cc : ByteArray} {L : List (Nat × Value)} {rest : List Value} (hKp : ix_Kp K) (X : ix_X p s m args c K cc RX11 nL) {N : Nat} {z : ix_Z} {b : Nat}  {d : ix_D2} {r : Int32} {d1 : ix_D2} (hk : ix_ok z [0, 3, 5, 6, 9] b) (hcall : v_RX11_158 N z b  d = some (r, d1)) (hfr : 1 ≤ R.frames) (hlo : 20 ≤ R.locals) (hcs : k + 0 ≤ R.cells ∧ n + 0 ≤ R.slots) (hrm : (rest.map fun v => v.category).sum ≤ 8) (hd : decode cc pc = .ok (.invokevirtual 158, 3)) {pc1 : Nat} (hp : pc + 3 = pc1) (kk : ix_G p l e R s m args below meth c Q K nL k n pc1 L (.int r :: rest) (ix_w z d1)) : ix_G p l e R s m args below meth c Q K nL k n pc L (.ref (K.2.2.1 + b) :: rest) (ix_w z d) := by
  unfold v_RX11_158 at hcall
  have h2 := hk.2
  simp only [List.mem_cons, List.not_mem_nil, or_false] at h2
  rcases h2 with h2 | h2 | h2 | h2 | h2
  · have hcall := ix_ift h2 hcall
    exact ix_callU (As := []) (rest := rest) (x := (⟨"ClauseCourt$Rule", "kindNumber", "()I"⟩ : MethodName)) (owner := "ClauseCourt$Rule") (C := RX0) (T := TX0) (nf := 4) (ci := 0) X mf_X0_kindNumber mi_X0_kindNumber (ix_wm (i := 849) (by decide +kernel)) (ix_wm (i := 848) (by decide +kernel)) (Or.inl (ix_wm (i := 847) (by decide +kernel))) ⟨by decide, by decide⟩ (by decide +kernel) rfl (by decide) ml_RX11_158 ⟨Nat.le_trans (Nat.le_of_ble_eq_true rfl) hfr, Nat.le_trans (Nat.le_of_ble_eq_true rfl) hlo⟩ hcs rfl hrm hd ⟨hk.1, h2⟩ (c_X0_kindNumber hKp hcall) rfl hp kk
  · have hcall := ix_iff (by rw [h2]; decide) hcall
    have hcall := ix_ift h2 hcall
    exact ix_callU (As := []) (rest := rest) (x := (⟨"ClauseCourt$Rule", "kindNumber", "()I"⟩ : MethodName)) (owner := "ClauseCourt$Rule") (C := RX3) (T := TX3) (nf := 3) (ci := 3) X mf_X3_kindNumber mi_X3_kindNumber (ix_wm (i := 852) (by decide +kernel)) (ix_wm (i := 848) (by decide +kernel)) (Or.inl (ix_wm (i := 847) (by decide +kernel))) ⟨by decide, by decide⟩ (by decide +kernel) rfl (by decide) ml_RX11_158 ⟨Nat.le_trans (Nat.le_of_ble_eq_true rfl) hfr, Nat.le_trans (Nat.le_of_ble_eq_true rfl) hlo⟩ hcs rfl hrm hd ⟨hk.1, h2⟩ (c_X3_kindNumber hKp hcall) rfl hp kk
  · have hcall := ix_iff (by rw [h2]; decide) hcall
    have hcall := ix_iff (by rw [h2]; decide) hcall
    have hcall := ix_ift h2 hcall
    exact ix_callU (As := []) (rest := rest) (x := (⟨"ClauseCourt$Rule", "kindNumber", "()I"⟩ : MethodName)) (owner := "ClauseCourt$Rule") (C := RX5) (T := TX5) (nf := 4) (ci := 5) X mf_X5_kindNumber mi_X5_kindNumber (ix_wm (i := 855) (by decide +kernel)) (ix_wm (i := 848) (by decide +kernel)) (Or.inl (ix_wm (i := 847) (by decide +kernel))) ⟨by decide, by decide⟩ (by decide +kernel) rfl (by decide) ml_RX11_158 ⟨Nat.le_trans (Nat.le_of_ble_eq_true rfl) hfr, Nat.le_trans (Nat.le_of_ble_eq_true rfl) hlo⟩ hcs rfl hrm hd ⟨hk.1, h2⟩ (c_X5_kindNumber hKp hcall) rfl hp kk
  · have hcall := ix_iff (by rw [h2]; decide) hcall
    have hcall := ix_iff (by rw [h2]; decide) hcall
    have hcall := ix_iff (by rw [h2]; decide) hcall
    have hcall := ix_ift h2 hcall
    exact ix_callU (As := []) (rest := rest) (x := (⟨"ClauseCourt$Rule", "kindNumber", "()I"⟩ : MethodName)) (owner := "ClauseCourt$Rule") (C := RX6) (T := TX6) (nf := 4) (ci := 6) X mf_X6_kindNumber mi_X6_kindNumber (ix_wm (i := 858) (by decide +kernel)) (ix_wm (i := 848) (by decide +kernel)) (Or.inl (ix_wm (i := 847) (by decide +kernel))) ⟨by decide, by decide⟩ (by decide +kernel) rfl (by decide) ml_RX11_158 ⟨Nat.le_trans (Nat.le_of_ble_eq_true rfl) hfr, Nat.le_trans (Nat.le_of_ble_eq_true rfl) hlo⟩ hcs rfl hrm hd ⟨hk.1, h2⟩ (c_X6_kindNumber hKp hcall) rfl hp kk
  · have hcall := ix_iff (by rw [h2]; decide) hcall
    have hcall := ix_iff (by rw [h2]; decide) hcall
    have hcall := ix_iff (by rw [h2]; decide) hcall
    have hcall := ix_iff (by rw [h2]; decide) hcall
    exact ix_callU (As := []) (rest := rest) (x := (⟨"ClauseCourt$Rule", "kindNumber", "()I"⟩ : MethodName)) (owner := "ClauseCourt$Rule") (C := RX10) (T := TX10) (nf := 6) (ci := 9) X mf_X10_kindNumber mi_X10_kindNumber (ix_wm (i := 861) (by decide +kernel)) (ix_wm (i := 848) (by decide +kernel)) (Or.inl (ix_wm (i := 847) (by decide +kernel))) ⟨by decide, by decide⟩ (by decide +kernel) rfl (by decide) ml_RX11_158 ⟨Nat.le_trans (Nat.le_of_ble_eq_true rfl) hfr, Nat.le_trans (Nat.le_of_ble_eq_true rfl) hlo⟩ hcs rfl hrm hd ⟨hk.1, h2⟩ (c_X10_kindNumber hKp hcall) rfl hp kk
noncomputable def f_X11_kind (n : Nat) (z : ix_Z) (a0 : Nat) (x1 : Int32) (d : ix_D2) : Option (Int32 × ix_D2) :=
  ix_ck (ix_ok z [10] a0) (ix_bd2 (f_X11_ruleAt n z a0 x1 d) (fun r_4 d_1 => ix_on r_4 (ix_bd2 (f_X11_refuse n z a0 ((-1001)) d_1) (fun r_8 d_6 => some (r_8, d_6))) (fun b_5 => ix_ck (ix_ok z [0, 3, 5, 6, 9] b_5) (ix_bd2 (v_RX11_158 n z b_5  d_1) (fun r_12 d_10 => some (r_12, d_10))))))
set_option maxRecDepth 20000 in
theorem c_X11_kind {l : Launch} {K : ix_Cx} (hKp : ix_Kp K) {n : Nat} {z : ix_Z} {a0 : Nat} {x1 : Int32} {d : ix_D2} {r : Int32} {d1 : ix_D2} (h : f_X11_kind n z a0 x1 d = some (r, d1)) : ix_M l K yX11_kind cX11_kind 3 (some .int) 1 21 0 0 [.ref (K.2.2.1 + a0), .int x1] (ix_w z d) (some (.int r)) (ix_w z d1) := by
  refine ix_met mf_X11_kind hKp (Nat.le_of_ble_eq_true rfl) ?_
  intro p e s m args below meth c hr hlk hnm X
  have X : ix_X p s m args c K cX11_kind RX11 3 := X
  show ix_G p l e (ix_rm 1 21 0 0) s m args below meth c (MQ below (ix_Post K (some (.int r)) (ix_w z d1)) args s 0 0 (ix_A K)) K 3 0 0 0 [(0, .ref (K.2.2.1 + a0)), (1, .int x1)] [] (ix_w z d)
  unfold f_X11_kind at h
  refine ix_aload_n (i := 0) (j := 0) X (ix_tb_at tb_X11_kind 0 rfl) rfl rfl (pc1 := 1) rfl ?_
  refine ix_iload_n (i := 1) (j := 1) X (ix_tb_at tb_X11_kind 1 rfl) rfl rfl (pc1 := 2) rfl ?_
  obtain ⟨k_3, h⟩ := ix_ck_some h
  obtain ⟨r_4, d_1, h_2, h⟩ := ix_bd2_ex h
  refine ix_callV (As := [.int x1]) (rest := []) (ci := 10) (T := TX11) (nf := 18) X mf_X11_ruleAt mi_X11_ruleAt ms_X11_ruleAt rfl (Nat.le_of_ble_eq_true rfl) ml_RX11_154 ⟨Nat.le_of_ble_eq_true rfl, Nat.le_of_ble_eq_true rfl⟩ ⟨Nat.le_of_ble_eq_true rfl, Nat.le_of_ble_eq_true rfl⟩ rfl (Nat.le_of_ble_eq_true rfl) (ix_tb_at tb_X11_kind 2 rfl) ⟨k_3.1, List.mem_singleton.mp k_3.2⟩ (c_X11_ruleAt hKp h_2) rfl (pc1 := 5) rfl ?_
  rcases r_4 with _ | b_5
  · have h := ix_on_n h
    refine ix_rvn rfl ?_
    refine ix_astore_nN (i := 2) (L1 := [(2, .null), (0, .ref (K.2.2.1 + a0)), (1, .int x1)]) X (ix_tb_at tb_X11_kind 3 rfl) rfl (Nat.le_of_ble_eq_true rfl) rfl (pc1 := 6) rfl ?_
    refine ix_aload_nN (i := 2) (j := 0) X (ix_tb_at tb_X11_kind 4 rfl) rfl rfl (pc1 := 7) rfl ?_
    refine ix_ifnonnullN X (ix_tb_at tb_X11_kind 5 rfl) (pc1 := 10) rfl ?_
    refine ix_aload_n (i := 0) (j := 1) X (ix_tb_at tb_X11_kind 6 rfl) rfl rfl (pc1 := 11) rfl ?_
    refine ix_sipush (v := (-1001)) X (ix_tb_at tb_X11_kind 7 rfl) (by decide) (pc1 := 14) rfl ?_
    obtain ⟨r_8, d_6, h_7, h⟩ := ix_bd2_ex h
    refine ix_callV (As := [.int ((-1001))]) (rest := []) (ci := 10) (T := TX11) (nf := 18) X mf_X11_refuse mi_X11_refuse ms_X11_refuse rfl (Nat.le_of_ble_eq_true rfl) ml_RX11_73 ⟨Nat.le_of_ble_eq_true rfl, Nat.le_of_ble_eq_true rfl⟩ ⟨Nat.le_of_ble_eq_true rfl, Nat.le_of_ble_eq_true rfl⟩ rfl (Nat.le_of_ble_eq_true rfl) (ix_tb_at tb_X11_kind 8 rfl) ⟨k_3.1, List.mem_singleton.mp k_3.2⟩ (c_X11_refuse hKp h_7) rfl (pc1 := 17) rfl ?_
    refine ix_goto (tgt := 24) X (ix_tb_at tb_X11_kind 9 rfl) (by decide) ?_
    exact ix_iret X hr hlk (ix_r2 (f := fun r => some (.int r)) (g := ix_w z) h) (ix_tb_at tb_X11_kind 12 rfl)
  · have h := ix_on_s h
    refine ix_rvs (b := b_5) rfl ?_
    refine ix_astore_n (i := 2) (L1 := [(2, .ref (K.2.2.1 + b_5)), (0, .ref (K.2.2.1 + a0)), (1, .int x1)]) X (ix_tb_at tb_X11_kind 3 rfl) rfl (Nat.le_of_ble_eq_true rfl) rfl (pc1 := 6) rfl ?_
    refine ix_aload_n (i := 2) (j := 0) X (ix_tb_at tb_X11_kind 4 rfl) rfl rfl (pc1 := 7) rfl ?_
    refine ix_ifnonnull (tgt := 20) X (ix_tb_at tb_X11_kind 5 rfl) (by decide) ?_
    refine ix_aload_n (i := 2) (j := 0) X (ix_tb_at tb_X11_kind 10 rfl) rfl rfl (pc1 := 21) rfl ?_
    obtain ⟨k_9, h⟩ := ix_ck_some h
    obtain ⟨r_12, d_10, h_11, h⟩ := ix_bd2_ex h
    refine tv_RX11_158 (rest := []) hKp X k_9 h_11 (Nat.le_of_ble_eq_true rfl) (Nat.le_of_ble_eq_true rfl) ⟨Nat.le_of_ble_eq_true rfl, Nat.le_of_ble_eq_true rfl⟩ (Nat.le_of_ble_eq_true rfl) (ix_tb_at tb_X11_kind 11 rfl) (pc1 := 24) rfl ?_
    exact ix_iret X hr hlk (ix_r2 (f := fun r => some (.int r)) (g := ix_w z) h) (ix_tb_at tb_X11_kind 12 rfl)
def tab_X11_isOfKind : List (Nat × Instr × Nat) := [(0, .iload_n 1, 1), (1, .tableswitch 51 0 3 #[31, 36, 41, 46], 31), (32, .aload_n 0, 1), (33, .instanceof 117, 3), (36, .ireturn, 1), (37, .aload_n 0, 1), (38, .instanceof 130, 3), (41, .ireturn, 1), (42, .aload_n 0, 1), (43, .instanceof 134, 3), (46, .ireturn, 1), (47, .aload_n 0, 1), (48, .instanceof 137, 3), (51, .ireturn, 1), (52, .aload_n 0, 1), (53, .instanceof 149, 3), (56, .ireturn, 1)]
theorem tb_X11_isOfKind : ix_tab cX11_isOfKind tab_X11_isOfKind := by
  unfold ix_tab
  decide +kernel
noncomputable def f_X11_isOfKind (n : Nat) (z : ix_Z) (a0 : Nat) (x1 : Int32) (d : ix_D2) : Option (Int32 × ix_D2) :=
  ix_if (x1 = 0) (ix_ck (ix_ok z [0, 3, 5, 6, 9] a0) (ix_ck (ix_if ((z.2.1 a0).1 ∈ [0, 3, 5, 9]) (1 : Int32) 0 = 0 ∨ ix_if ((z.2.1 a0).1 ∈ [0, 3, 5, 9]) (1 : Int32) 0 = 1) (some (ix_if ((z.2.1 a0).1 ∈ [0, 3, 5, 9]) (1 : Int32) 0, d)))) (ix_if (x1 = 1) (ix_ck (ix_ok z [0, 3, 5, 6, 9] a0) (ix_ck (ix_if ((z.2.1 a0).1 ∈ [0, 5]) (1 : Int32) 0 = 0 ∨ ix_if ((z.2.1 a0).1 ∈ [0, 5]) (1 : Int32) 0 = 1) (some (ix_if ((z.2.1 a0).1 ∈ [0, 5]) (1 : Int32) 0, d)))) (ix_if (x1 = 2) (ix_ck (ix_ok z [0, 3, 5, 6, 9] a0) (ix_ck (ix_if ((z.2.1 a0).1 ∈ [5]) (1 : Int32) 0 = 0 ∨ ix_if ((z.2.1 a0).1 ∈ [5]) (1 : Int32) 0 = 1) (some (ix_if ((z.2.1 a0).1 ∈ [5]) (1 : Int32) 0, d)))) (ix_if (x1 = 3) (ix_ck (ix_ok z [0, 3, 5, 6, 9] a0) (ix_ck (ix_if ((z.2.1 a0).1 ∈ [6]) (1 : Int32) 0 = 0 ∨ ix_if ((z.2.1 a0).1 ∈ [6]) (1 : Int32) 0 = 1) (some (ix_if ((z.2.1 a0).1 ∈ [6]) (1 : Int32) 0, d)))) (ix_ck (ix_ok z [0, 3, 5, 6, 9] a0) (ix_ck (ix_if ((z.2.1 a0).1 ∈ [9]) (1 : Int32) 0 = 0 ∨ ix_if ((z.2.1 a0).1 ∈ [9]) (1 : Int32) 0 = 1) (some (ix_if ((z.2.1 a0).1 ∈ [9]) (1 : Int32) 0, d)))))))
set_option maxRecDepth 20000 in
theorem c_X11_isOfKind {l : Launch} {K : ix_Cx} (hKp : ix_Kp K) (hF : ix_Fc K) {n : Nat} {z : ix_Z} {a0 : Nat} {x1 : Int32} {d : ix_D2} {r : Int32} {d1 : ix_D2} (h : f_X11_isOfKind n z a0 x1 d = some (r, d1)) : ix_M l K yX11_isOfKind cX11_isOfKind 2 (some .boolean) 0 0 0 0 [.ref (K.2.2.1 + a0), .int x1] (ix_w z d) (some (.int r)) (ix_w z d1) := by
  refine ix_met mf_X11_isOfKind hKp (Nat.le_of_ble_eq_true rfl) ?_
  intro p e s m args below meth c hr hlk hnm X
  have X : ix_X p s m args c K cX11_isOfKind RX11 2 := X
  show ix_G p l e (ix_rm 0 0 0 0) s m args below meth c (MQ below (ix_Post K (some (.int r)) (ix_w z d1)) args s 0 0 (ix_A K)) K 2 0 0 0 [(0, .ref (K.2.2.1 + a0)), (1, .int x1)] [] (ix_w z d)
  unfold f_X11_isOfKind at h
  refine ix_iload_n (i := 1) (j := 1) X (ix_tb_at tb_X11_isOfKind 0 rfl) rfl rfl (pc1 := 1) rfl ?_
  rcases Classical.em (x1 = 0) with q_1 | q_1
  · have h := ix_ift q_1 h
    refine ix_swin (tgt := 32) X (ix_tb_at tb_X11_isOfKind 1 rfl) (by rw [q_1]; decide) (by rw [q_1]; decide) (by rw [q_1]; rfl) (by decide) ?_
    refine ix_aload_n (i := 0) (j := 0) X (ix_tb_at tb_X11_isOfKind 2 rfl) rfl rfl (pc1 := 33) rfl ?_
    obtain ⟨k_2, h⟩ := ix_ck_some h
    refine it_RX11_117 hF X k_2 (ix_tb_at tb_X11_isOfKind 3 rfl) (pc1 := 36) rfl ?_
    obtain ⟨k_3, h⟩ := ix_ck_some h
    exact ix_zret X hr hlk k_3 (ix_r2 (f := fun r => some (.int r)) (g := ix_w z) h) (ix_tb_at tb_X11_isOfKind 4 rfl)
  · have h := ix_iff q_1 h
    rcases Classical.em (x1 = 1) with q_4 | q_4
    · have h := ix_ift q_4 h
      refine ix_swin (tgt := 37) X (ix_tb_at tb_X11_isOfKind 1 rfl) (by rw [q_4]; decide) (by rw [q_4]; decide) (by rw [q_4]; rfl) (by decide) ?_
      refine ix_aload_n (i := 0) (j := 0) X (ix_tb_at tb_X11_isOfKind 5 rfl) rfl rfl (pc1 := 38) rfl ?_
      obtain ⟨k_5, h⟩ := ix_ck_some h
      refine it_RX11_130 hF X k_5 (ix_tb_at tb_X11_isOfKind 6 rfl) (pc1 := 41) rfl ?_
      obtain ⟨k_6, h⟩ := ix_ck_some h
      exact ix_zret X hr hlk k_6 (ix_r2 (f := fun r => some (.int r)) (g := ix_w z) h) (ix_tb_at tb_X11_isOfKind 7 rfl)
    · have h := ix_iff q_4 h
      rcases Classical.em (x1 = 2) with q_7 | q_7
      · have h := ix_ift q_7 h
        refine ix_swin (tgt := 42) X (ix_tb_at tb_X11_isOfKind 1 rfl) (by rw [q_7]; decide) (by rw [q_7]; decide) (by rw [q_7]; rfl) (by decide) ?_
        refine ix_aload_n (i := 0) (j := 0) X (ix_tb_at tb_X11_isOfKind 8 rfl) rfl rfl (pc1 := 43) rfl ?_
        obtain ⟨k_8, h⟩ := ix_ck_some h
        refine it_RX11_134 hF X k_8 (ix_tb_at tb_X11_isOfKind 9 rfl) (pc1 := 46) rfl ?_
        obtain ⟨k_9, h⟩ := ix_ck_some h
        exact ix_zret X hr hlk k_9 (ix_r2 (f := fun r => some (.int r)) (g := ix_w z) h) (ix_tb_at tb_X11_isOfKind 10 rfl)
      · have h := ix_iff q_7 h
        rcases Classical.em (x1 = 3) with q_10 | q_10
        · have h := ix_ift q_10 h
          refine ix_swin (tgt := 47) X (ix_tb_at tb_X11_isOfKind 1 rfl) (by rw [q_10]; decide) (by rw [q_10]; decide) (by rw [q_10]; rfl) (by decide) ?_
          refine ix_aload_n (i := 0) (j := 0) X (ix_tb_at tb_X11_isOfKind 11 rfl) rfl rfl (pc1 := 48) rfl ?_
          obtain ⟨k_11, h⟩ := ix_ck_some h
          refine it_RX11_137 hF X k_11 (ix_tb_at tb_X11_isOfKind 12 rfl) (pc1 := 51) rfl ?_
          obtain ⟨k_12, h⟩ := ix_ck_some h
          exact ix_zret X hr hlk k_12 (ix_r2 (f := fun r => some (.int r)) (g := ix_w z) h) (ix_tb_at tb_X11_isOfKind 13 rfl)
        · have h := ix_iff q_10 h
          refine ix_swout (tgt := 52) X (ix_tb_at tb_X11_isOfKind 1 rfl) (by have wq_1 := ix_ne (a := 0) (by decide) q_1; have wq_4 := ix_ne (a := 1) (by decide) q_4; have wq_7 := ix_ne (a := 2) (by decide) q_7; have wq_10 := ix_ne (a := 3) (by decide) q_10; omega) (by decide) ?_
          refine ix_aload_n (i := 0) (j := 0) X (ix_tb_at tb_X11_isOfKind 14 rfl) rfl rfl (pc1 := 53) rfl ?_
          obtain ⟨k_13, h⟩ := ix_ck_some h
          refine it_RX11_149 hF X k_13 (ix_tb_at tb_X11_isOfKind 15 rfl) (pc1 := 56) rfl ?_
          obtain ⟨k_14, h⟩ := ix_ck_some h
          exact ix_zret X hr hlk k_14 (ix_r2 (f := fun r => some (.int r)) (g := ix_w z) h) (ix_tb_at tb_X11_isOfKind 16 rfl)
def tab_X11_as : List (Nat × Instr × Nat) := [(0, .aload_n 0, 1), (1, .iload_n 1, 1), (2, .invokevirtual 154, 3), (5, .astore_n 3, 1), (6, .aload_n 3, 1), (7, .ifnull 12, 3), (10, .iload_n 2, 1), (11, .ifCond .lt 8, 3), (14, .iload_n 2, 1), (15, .iconst 4, 1), (16, .if_icmp .le 11, 3), (19, .aload_n 0, 1), (20, .sipush (-1001), 3), (23, .invokevirtual 73, 3), (26, .ireturn, 1), (27, .aload_n 3, 1), (28, .iload_n 2, 1), (29, .invokestatic 161, 3), (32, .ifCond .eq 7, 3), (35, .iconst 1, 1), (36, .goto 10, 3), (39, .aload_n 0, 1), (40, .sipush (-1013), 3), (43, .invokevirtual 73, 3), (46, .ireturn, 1)]
theorem tb_X11_as : ix_tab cX11_as tab_X11_as := by
  unfold ix_tab
  decide +kernel
noncomputable def f_X11_as_19 (n : Nat) (z : ix_Z)  (a0 : Nat) (d : ix_D2) : Option (Int32 × ix_D2) :=
  ix_ck (ix_ok z [10] a0) (ix_bd2 (f_X11_refuse n z a0 ((-1001)) d) (fun r_9 d_6 => some (r_9, d_6)))
noncomputable def f_X11_as (n : Nat) (z : ix_Z) (a0 : Nat) (x1 : Int32) (x2 : Int32) (d : ix_D2) : Option (Int32 × ix_D2) :=
  ix_ck (ix_ok z [10] a0) (ix_bd2 (f_X11_ruleAt n z a0 x1 d) (fun r_4 d_1 => ix_on r_4 (f_X11_as_19 n z  a0 d_1) (fun b_5 => ix_if (x2 < 0) (f_X11_as_19 n z  a0 d_1) (ix_if (x2 ≤ 4) (ix_bd2 (f_X11_isOfKind n z b_5 x2 d_1) (fun r_14 d_12 => ix_if (r_14 = 0) (ix_bd2 (f_X11_refuse n z a0 ((-1013)) d_12) (fun r_18 d_16 => some (r_18, d_16))) (some (1, d_12)))) (f_X11_as_19 n z  a0 d_1)))))
set_option maxRecDepth 20000 in
theorem t_X11_as_19 {l : Launch} {p : Program} {e : Env} {s : State} {m : MethodId} {args : Array Value} {below : List Frame} {meth : Method} {c : Code} {K : ix_Cx} (hKp : ix_Kp K) {n : Nat} {z : ix_Z} (hF : ix_Fc K) (X : ix_X p s m args c K cX11_as RX11 4) (hr : meth.sig.returnType = (some .int)) (hlk : meth.locks = false)  {a0 : Nat} {r : Int32} {d1 : ix_D2}  {d : ix_D2} (h : f_X11_as_19 n z  a0 d = some (r, d1)) : ix_G p l e (ix_rm 1 21 0 0) s m args below meth c (MQ below (ix_Post K (some (.int r)) (ix_w z d1)) args s 0 0 (ix_A K)) K 4 0 0 19 [(0, .ref (K.2.2.1 + a0))] [] (ix_w z d) := by
  unfold f_X11_as_19 at h
  refine ix_aload_n (i := 0) (j := 0) X (ix_tb_at tb_X11_as 11 rfl) rfl rfl (pc1 := 20) rfl ?_
  refine ix_sipush (v := (-1001)) X (ix_tb_at tb_X11_as 12 rfl) (by decide) (pc1 := 23) rfl ?_
  obtain ⟨k_8, h⟩ := ix_ck_some h
  obtain ⟨r_9, d_6, h_7, h⟩ := ix_bd2_ex h
  refine ix_callV (As := [.int ((-1001))]) (rest := []) (ci := 10) (T := TX11) (nf := 18) X mf_X11_refuse mi_X11_refuse ms_X11_refuse rfl (Nat.le_of_ble_eq_true rfl) ml_RX11_73 ⟨Nat.le_of_ble_eq_true rfl, Nat.le_of_ble_eq_true rfl⟩ ⟨Nat.le_of_ble_eq_true rfl, Nat.le_of_ble_eq_true rfl⟩ rfl (Nat.le_of_ble_eq_true rfl) (ix_tb_at tb_X11_as 13 rfl) ⟨k_8.1, List.mem_singleton.mp k_8.2⟩ (c_X11_refuse hKp h_7) rfl (pc1 := 26) rfl ?_
  exact ix_iret X hr hlk (ix_r2 (f := fun r => some (.int r)) (g := ix_w z) h) (ix_tb_at tb_X11_as 14 rfl)
set_option maxRecDepth 20000 in
theorem c_X11_as {l : Launch} {K : ix_Cx} (hKp : ix_Kp K) (hF : ix_Fc K) {n : Nat} {z : ix_Z} {a0 : Nat} {x1 : Int32} {x2 : Int32} {d : ix_D2} {r : Int32} {d1 : ix_D2} (h : f_X11_as n z a0 x1 x2 d = some (r, d1)) : ix_M l K yX11_as cX11_as 4 (some .int) 1 21 0 0 [.ref (K.2.2.1 + a0), .int x1, .int x2] (ix_w z d) (some (.int r)) (ix_w z d1) := by
  refine ix_met mf_X11_as hKp (Nat.le_of_ble_eq_true rfl) ?_
  intro p e s m args below meth c hr hlk hnm X
  have X : ix_X p s m args c K cX11_as RX11 4 := X
  show ix_G p l e (ix_rm 1 21 0 0) s m args below meth c (MQ below (ix_Post K (some (.int r)) (ix_w z d1)) args s 0 0 (ix_A K)) K 4 0 0 0 [(0, .ref (K.2.2.1 + a0)), (1, .int x1), (2, .int x2)] [] (ix_w z d)
  unfold f_X11_as at h
  refine ix_aload_n (i := 0) (j := 0) X (ix_tb_at tb_X11_as 0 rfl) rfl rfl (pc1 := 1) rfl ?_
  refine ix_iload_n (i := 1) (j := 1) X (ix_tb_at tb_X11_as 1 rfl) rfl rfl (pc1 := 2) rfl ?_
  obtain ⟨k_3, h⟩ := ix_ck_some h
  obtain ⟨r_4, d_1, h_2, h⟩ := ix_bd2_ex h
  refine ix_callV (As := [.int x1]) (rest := []) (ci := 10) (T := TX11) (nf := 18) X mf_X11_ruleAt mi_X11_ruleAt ms_X11_ruleAt rfl (Nat.le_of_ble_eq_true rfl) ml_RX11_154 ⟨Nat.le_of_ble_eq_true rfl, Nat.le_of_ble_eq_true rfl⟩ ⟨Nat.le_of_ble_eq_true rfl, Nat.le_of_ble_eq_true rfl⟩ rfl (Nat.le_of_ble_eq_true rfl) (ix_tb_at tb_X11_as 2 rfl) ⟨k_3.1, List.mem_singleton.mp k_3.2⟩ (c_X11_ruleAt hKp h_2) rfl (pc1 := 5) rfl ?_
  rcases r_4 with _ | b_5
  · have h := ix_on_n h
    refine ix_rvn rfl ?_
    refine ix_astore_nN (i := 3) (L1 := [(3, .null), (0, .ref (K.2.2.1 + a0)), (1, .int x1), (2, .int x2)]) X (ix_tb_at tb_X11_as 3 rfl) rfl (Nat.le_of_ble_eq_true rfl) rfl (pc1 := 6) rfl ?_
    refine ix_aload_nN (i := 3) (j := 0) X (ix_tb_at tb_X11_as 4 rfl) rfl rfl (pc1 := 7) rfl ?_
    refine ix_ifnullN (tgt := 19) X (ix_tb_at tb_X11_as 5 rfl) (by decide) ?_
    refine ix_sub (L1 := [(0, .ref (K.2.2.1 + a0))]) [1] rfl ?_
    exact t_X11_as_19 hKp hF X hr hlk  h
  · have h := ix_on_s h
    refine ix_rvs (b := b_5) rfl ?_
    refine ix_astore_n (i := 3) (L1 := [(3, .ref (K.2.2.1 + b_5)), (0, .ref (K.2.2.1 + a0)), (1, .int x1), (2, .int x2)]) X (ix_tb_at tb_X11_as 3 rfl) rfl (Nat.le_of_ble_eq_true rfl) rfl (pc1 := 6) rfl ?_
    refine ix_aload_n (i := 3) (j := 0) X (ix_tb_at tb_X11_as 4 rfl) rfl rfl (pc1 := 7) rfl ?_
    refine ix_ifnull X (ix_tb_at tb_X11_as 5 rfl) (pc1 := 10) rfl ?_
    refine ix_iload_n (i := 2) (j := 3) X (ix_tb_at tb_X11_as 6 rfl) rfl rfl (pc1 := 11) rfl ?_
    refine ix_if_lt (tgt := 19) X (ix_tb_at tb_X11_as 7 rfl) (by decide) (pc1 := 14) rfl (fun q_10 => ?_) (fun q_10 => ?_)
    · have h := ix_ift q_10 h
      refine ix_sub (L1 := [(0, .ref (K.2.2.1 + a0))]) [1] rfl ?_
      exact t_X11_as_19 hKp hF X hr hlk  h
    · have h := ix_iff q_10 h
      refine ix_iload_n (i := 2) (j := 3) X (ix_tb_at tb_X11_as 8 rfl) rfl rfl (pc1 := 15) rfl ?_
      refine ix_iconst (v := 4) X (ix_tb_at tb_X11_as 9 rfl) (by decide) (pc1 := 16) rfl ?_
      refine ix_icmp_le (tgt := 27) X (ix_tb_at tb_X11_as 10 rfl) (by decide) (pc1 := 19) rfl (fun q_11 => ?_) (fun q_11 => ?_)
      · have h := ix_ift q_11 h
        refine ix_aload_n (i := 3) (j := 0) X (ix_tb_at tb_X11_as 15 rfl) rfl rfl (pc1 := 28) rfl ?_
        refine ix_iload_n (i := 2) (j := 3) X (ix_tb_at tb_X11_as 16 rfl) rfl rfl (pc1 := 29) rfl ?_
        obtain ⟨r_14, d_12, h_13, h⟩ := ix_bd2_ex h
        refine ix_callS (As := [.ref (K.2.2.1 + b_5), .int x2]) (rest := []) X mf_X11_isOfKind st_X11_isOfKind ml_RX11_161 ⟨Nat.le_of_ble_eq_true rfl, Nat.le_of_ble_eq_true rfl⟩ ⟨Nat.le_of_ble_eq_true rfl, Nat.le_of_ble_eq_true rfl⟩ rfl (Nat.le_of_ble_eq_true rfl) (ix_tb_at tb_X11_as 17 rfl) (c_X11_isOfKind hKp hF h_13) rfl (pc1 := 32) rfl ?_
        refine ix_if_eq (tgt := 39) X (ix_tb_at tb_X11_as 18 rfl) (by decide) (pc1 := 35) rfl (fun q_15 => ?_) (fun q_15 => ?_)
        · have h := ix_ift q_15 h
          refine ix_aload_n (i := 0) (j := 1) X (ix_tb_at tb_X11_as 21 rfl) rfl rfl (pc1 := 40) rfl ?_
          refine ix_sipush (v := (-1013)) X (ix_tb_at tb_X11_as 22 rfl) (by decide) (pc1 := 43) rfl ?_
          obtain ⟨r_18, d_16, h_17, h⟩ := ix_bd2_ex h
          refine ix_callV (As := [.int ((-1013))]) (rest := []) (ci := 10) (T := TX11) (nf := 18) X mf_X11_refuse mi_X11_refuse ms_X11_refuse rfl (Nat.le_of_ble_eq_true rfl) ml_RX11_73 ⟨Nat.le_of_ble_eq_true rfl, Nat.le_of_ble_eq_true rfl⟩ ⟨Nat.le_of_ble_eq_true rfl, Nat.le_of_ble_eq_true rfl⟩ rfl (Nat.le_of_ble_eq_true rfl) (ix_tb_at tb_X11_as 23 rfl) ⟨k_3.1, List.mem_singleton.mp k_3.2⟩ (c_X11_refuse hKp h_17) rfl (pc1 := 46) rfl ?_
          exact ix_iret X hr hlk (ix_r2 (f := fun r => some (.int r)) (g := ix_w z) h) (ix_tb_at tb_X11_as 24 rfl)
        · have h := ix_iff q_15 h
          refine ix_iconst (v := 1) X (ix_tb_at tb_X11_as 19 rfl) (by decide) (pc1 := 36) rfl ?_
          refine ix_goto (tgt := 46) X (ix_tb_at tb_X11_as 20 rfl) (by decide) ?_
          exact ix_iret X hr hlk (ix_r2 (f := fun r => some (.int r)) (g := ix_w z) h) (ix_tb_at tb_X11_as 24 rfl)
      · have h := ix_iff q_11 h
        refine ix_sub (L1 := [(0, .ref (K.2.2.1 + a0))]) [1] rfl ?_
        exact t_X11_as_19 hKp hF X hr hlk  h
def tab_X11_item : List (Nat × Instr × Nat) := [(0, .aload_n 0, 1), (1, .iload_n 1, 1), (2, .invokevirtual 154, 3), (5, .astore_n 3, 1), (6, .aload_n 3, 1), (7, .ifnonnull 11, 3), (10, .aload_n 0, 1), (11, .sipush (-1001), 3), (14, .invokevirtual 73, 3), (17, .ireturn, 1), (18, .iload_n 2, 1), (19, .iconst (-1), 1), (20, .if_icmp .ne 9, 3), (23, .aload_n 3, 1), (24, .getfield 165, 3), (27, .arraylength, 1), (28, .ireturn, 1), (29, .iload_n 2, 1), (30, .ifCond .lt 21, 3), (33, .iload_n 2, 1), (34, .aload_n 3, 1), (35, .getfield 165, 3), (38, .arraylength, 1), (39, .if_icmp .ge 12, 3), (42, .aload_n 3, 1), (43, .getfield 165, 3), (46, .iload_n 2, 1), (47, .iaload, 1), (48, .goto 6, 3), (51, .sipush (-1005), 3), (54, .ireturn, 1)]
theorem tb_X11_item : ix_tab cX11_item tab_X11_item := by
  unfold ix_tab
  decide +kernel
noncomputable def f_X11_item_51 (n : Nat) (z : ix_Z)   (d : ix_D2) : Option (Int32 × ix_D2) :=
  some ((-1005), d)
noncomputable def f_X11_item (n : Nat) (z : ix_Z) (a0 : Nat) (x1 : Int32) (x2 : Int32) (d : ix_D2) : Option (Int32 × ix_D2) :=
  ix_ck (ix_ok z [10] a0) (ix_bd2 (f_X11_ruleAt n z a0 x1 d) (fun r_4 d_1 => ix_on r_4 (ix_bd2 (f_X11_refuse n z a0 ((-1001)) d_1) (fun r_8 d_6 => some (r_8, d_6))) (fun b_5 => ix_if (x2 = (-1)) (ix_ck (ix_ok z [0, 3, 5, 6, 9] b_5) (ix_bd1 (z.1 b_5 0) (fun b_18 => ix_ck (b_18 < z.2.2 ∧ 20 ≤ (z.2.1 b_18).1 ∧ (z.2.1 b_18).1 < 26) (some (nI (z.2.1 b_18).2, d_1))))) (ix_if (x2 < 0) (f_X11_item_51 n z   d_1) (ix_ck (ix_ok z [0, 3, 5, 6, 9] b_5) (ix_bd1 (z.1 b_5 0) (fun b_12 => ix_ck (b_12 < z.2.2 ∧ 20 ≤ (z.2.1 b_12).1 ∧ (z.2.1 b_12).1 < 26) (ix_if (nI (z.2.1 b_12).2 ≤ x2) (f_X11_item_51 n z   d_1) (ix_ck (ix_ix z 20 b_12 x2) (some (d_1.1 b_12 (ix_n x2), d_1)))))))))))
set_option maxRecDepth 20000 in
theorem t_X11_item_51 {l : Launch} {p : Program} {e : Env} {s : State} {m : MethodId} {args : Array Value} {below : List Frame} {meth : Method} {c : Code} {K : ix_Cx} (hKp : ix_Kp K) {n : Nat} {z : ix_Z} (X : ix_X p s m args c K cX11_item RX11 4) (hr : meth.sig.returnType = (some .int)) (hlk : meth.locks = false)   {r : Int32} {d1 : ix_D2}  {d : ix_D2} (h : f_X11_item_51 n z   d = some (r, d1)) : ix_G p l e (ix_rm 1 21 0 0) s m args below meth c (MQ below (ix_Post K (some (.int r)) (ix_w z d1)) args s 0 0 (ix_A K)) K 4 0 0 51 [] [] (ix_w z d) := by
  unfold f_X11_item_51 at h
  refine ix_sipush (v := (-1005)) X (ix_tb_at tb_X11_item 29 rfl) (by decide) (pc1 := 54) rfl ?_
  exact ix_iret X hr hlk (ix_r2 (f := fun r => some (.int r)) (g := ix_w z) h) (ix_tb_at tb_X11_item 30 rfl)
set_option maxRecDepth 20000 in
theorem c_X11_item {l : Launch} {K : ix_Cx} (hKp : ix_Kp K) {n : Nat} {z : ix_Z} {a0 : Nat} {x1 : Int32} {x2 : Int32} {d : ix_D2} {r : Int32} {d1 : ix_D2} (h : f_X11_item n z a0 x1 x2 d = some (r, d1)) : ix_M l K yX11_item cX11_item 4 (some .int) 1 21 0 0 [.ref (K.2.2.1 + a0), .int x1, .int x2] (ix_w z d) (some (.int r)) (ix_w z d1) := by
  refine ix_met mf_X11_item hKp (Nat.le_of_ble_eq_true rfl) ?_
  intro p e s m args below meth c hr hlk hnm X
  have X : ix_X p s m args c K cX11_item RX11 4 := X
  show ix_G p l e (ix_rm 1 21 0 0) s m args below meth c (MQ below (ix_Post K (some (.int r)) (ix_w z d1)) args s 0 0 (ix_A K)) K 4 0 0 0 [(0, .ref (K.2.2.1 + a0)), (1, .int x1), (2, .int x2)] [] (ix_w z d)
  unfold f_X11_item at h
  refine ix_aload_n (i := 0) (j := 0) X (ix_tb_at tb_X11_item 0 rfl) rfl rfl (pc1 := 1) rfl ?_
  refine ix_iload_n (i := 1) (j := 1) X (ix_tb_at tb_X11_item 1 rfl) rfl rfl (pc1 := 2) rfl ?_
  obtain ⟨k_3, h⟩ := ix_ck_some h
  obtain ⟨r_4, d_1, h_2, h⟩ := ix_bd2_ex h
  refine ix_callV (As := [.int x1]) (rest := []) (ci := 10) (T := TX11) (nf := 18) X mf_X11_ruleAt mi_X11_ruleAt ms_X11_ruleAt rfl (Nat.le_of_ble_eq_true rfl) ml_RX11_154 ⟨Nat.le_of_ble_eq_true rfl, Nat.le_of_ble_eq_true rfl⟩ ⟨Nat.le_of_ble_eq_true rfl, Nat.le_of_ble_eq_true rfl⟩ rfl (Nat.le_of_ble_eq_true rfl) (ix_tb_at tb_X11_item 2 rfl) ⟨k_3.1, List.mem_singleton.mp k_3.2⟩ (c_X11_ruleAt hKp h_2) rfl (pc1 := 5) rfl ?_
  rcases r_4 with _ | b_5
  · have h := ix_on_n h
    refine ix_rvn rfl ?_
    refine ix_astore_nN (i := 3) (L1 := [(3, .null), (0, .ref (K.2.2.1 + a0)), (1, .int x1), (2, .int x2)]) X (ix_tb_at tb_X11_item 3 rfl) rfl (Nat.le_of_ble_eq_true rfl) rfl (pc1 := 6) rfl ?_
    refine ix_aload_nN (i := 3) (j := 0) X (ix_tb_at tb_X11_item 4 rfl) rfl rfl (pc1 := 7) rfl ?_
    refine ix_ifnonnullN X (ix_tb_at tb_X11_item 5 rfl) (pc1 := 10) rfl ?_
    refine ix_aload_n (i := 0) (j := 1) X (ix_tb_at tb_X11_item 6 rfl) rfl rfl (pc1 := 11) rfl ?_
    refine ix_sipush (v := (-1001)) X (ix_tb_at tb_X11_item 7 rfl) (by decide) (pc1 := 14) rfl ?_
    obtain ⟨r_8, d_6, h_7, h⟩ := ix_bd2_ex h
    refine ix_callV (As := [.int ((-1001))]) (rest := []) (ci := 10) (T := TX11) (nf := 18) X mf_X11_refuse mi_X11_refuse ms_X11_refuse rfl (Nat.le_of_ble_eq_true rfl) ml_RX11_73 ⟨Nat.le_of_ble_eq_true rfl, Nat.le_of_ble_eq_true rfl⟩ ⟨Nat.le_of_ble_eq_true rfl, Nat.le_of_ble_eq_true rfl⟩ rfl (Nat.le_of_ble_eq_true rfl) (ix_tb_at tb_X11_item 8 rfl) ⟨k_3.1, List.mem_singleton.mp k_3.2⟩ (c_X11_refuse hKp h_7) rfl (pc1 := 17) rfl ?_
    exact ix_iret X hr hlk (ix_r2 (f := fun r => some (.int r)) (g := ix_w z) h) (ix_tb_at tb_X11_item 9 rfl)
  · have h := ix_on_s h
    refine ix_rvs (b := b_5) rfl ?_
    refine ix_astore_n (i := 3) (L1 := [(3, .ref (K.2.2.1 + b_5)), (0, .ref (K.2.2.1 + a0)), (1, .int x1), (2, .int x2)]) X (ix_tb_at tb_X11_item 3 rfl) rfl (Nat.le_of_ble_eq_true rfl) rfl (pc1 := 6) rfl ?_
    refine ix_aload_n (i := 3) (j := 0) X (ix_tb_at tb_X11_item 4 rfl) rfl rfl (pc1 := 7) rfl ?_
    refine ix_ifnonnull (tgt := 18) X (ix_tb_at tb_X11_item 5 rfl) (by decide) ?_
    refine ix_iload_n (i := 2) (j := 3) X (ix_tb_at tb_X11_item 10 rfl) rfl rfl (pc1 := 19) rfl ?_
    refine ix_iconst (v := (-1)) X (ix_tb_at tb_X11_item 11 rfl) (by decide) (pc1 := 20) rfl ?_
    refine ix_icmp_ne (tgt := 29) X (ix_tb_at tb_X11_item 12 rfl) (by decide) (pc1 := 23) rfl (fun q_9 => ?_) (fun q_9 => ?_)
    · have h := ix_iff q_9 h
      refine ix_iload_n (i := 2) (j := 3) X (ix_tb_at tb_X11_item 17 rfl) rfl rfl (pc1 := 30) rfl ?_
      refine ix_if_lt (tgt := 51) X (ix_tb_at tb_X11_item 18 rfl) (by decide) (pc1 := 33) rfl (fun q_10 => ?_) (fun q_10 => ?_)
      · have h := ix_ift q_10 h
        refine ix_sub (L1 := []) [] rfl ?_
        exact t_X11_item_51 hKp X hr hlk  h
      · have h := ix_iff q_10 h
        refine ix_iload_n (i := 2) (j := 3) X (ix_tb_at tb_X11_item 19 rfl) rfl rfl (pc1 := 34) rfl ?_
        refine ix_aload_n (i := 3) (j := 0) X (ix_tb_at tb_X11_item 20 rfl) rfl rfl (pc1 := 35) rfl ?_
        obtain ⟨k_11, h⟩ := ix_ck_some h
        obtain ⟨b_12, q_13, h⟩ := ix_bd1_ex h
        refine iz_getR X fl_RX11_165 k_11 q_13 (ix_tb_at tb_X11_item 21 rfl) (pc1 := 38) rfl ?_
        obtain ⟨k_14, h⟩ := ix_ck_some h
        refine iz_alen X k_14 (ix_tb_at tb_X11_item 22 rfl) (pc1 := 39) rfl ?_
        refine ix_icmp_ge (tgt := 51) X (ix_tb_at tb_X11_item 23 rfl) (by decide) (pc1 := 42) rfl (fun q_15 => ?_) (fun q_15 => ?_)
        · have h := ix_ift q_15 h
          refine ix_sub (L1 := []) [] rfl ?_
          exact t_X11_item_51 hKp X hr hlk  h
        · have h := ix_iff q_15 h
          refine ix_aload_n (i := 3) (j := 0) X (ix_tb_at tb_X11_item 24 rfl) rfl rfl (pc1 := 43) rfl ?_
          refine iz_getR X fl_RX11_165 k_11 q_13 (ix_tb_at tb_X11_item 25 rfl) (pc1 := 46) rfl ?_
          refine ix_iload_n (i := 2) (j := 3) X (ix_tb_at tb_X11_item 26 rfl) rfl rfl (pc1 := 47) rfl ?_
          obtain ⟨k_16, h⟩ := ix_ck_some h
          refine iz_iald X k_16 (ix_tb_at tb_X11_item 27 rfl) (pc1 := 48) rfl ?_
          refine ix_goto (tgt := 54) X (ix_tb_at tb_X11_item 28 rfl) (by decide) ?_
          exact ix_iret X hr hlk (ix_r2 (f := fun r => some (.int r)) (g := ix_w z) h) (ix_tb_at tb_X11_item 30 rfl)
    · have h := ix_ift q_9 h
      refine ix_aload_n (i := 3) (j := 0) X (ix_tb_at tb_X11_item 13 rfl) rfl rfl (pc1 := 24) rfl ?_
      obtain ⟨k_17, h⟩ := ix_ck_some h
      obtain ⟨b_18, q_19, h⟩ := ix_bd1_ex h
      refine iz_getR X fl_RX11_165 k_17 q_19 (ix_tb_at tb_X11_item 14 rfl) (pc1 := 27) rfl ?_
      obtain ⟨k_20, h⟩ := ix_ck_some h
      refine iz_alen X k_20 (ix_tb_at tb_X11_item 15 rfl) (pc1 := 28) rfl ?_
      exact ix_iret X hr hlk (ix_r2 (f := fun r => some (.int r)) (g := ix_w z) h) (ix_tb_at tb_X11_item 16 rfl)
def tab_X11_rows : List (Nat × Instr × Nat) := [(0, .aload_n 0, 1), (1, .iload_n 1, 1), (2, .invokevirtual 154, 3), (5, .astore_n 3, 1), (6, .aload_n 3, 1), (7, .ifnonnull 11, 3), (10, .aload_n 0, 1), (11, .sipush (-1001), 3), (14, .invokevirtual 73, 3), (17, .ireturn, 1), (18, .iload_n 2, 1), (19, .ifCond .lt 20, 3), (22, .iload_n 2, 1), (23, .aload_n 3, 1), (24, .getfield 168, 3), (27, .if_icmp .ge 12, 3), (30, .aload_n 3, 1), (31, .getfield 171, 3), (34, .iload_n 2, 1), (35, .iadd, 1), (36, .goto 6, 3), (39, .sipush (-1005), 3), (42, .ireturn, 1)]
theorem tb_X11_rows : ix_tab cX11_rows tab_X11_rows := by
  unfold ix_tab
  decide +kernel
noncomputable def f_X11_rows_39 (n : Nat) (z : ix_Z)   (d : ix_D2) : Option (Int32 × ix_D2) :=
  some ((-1005), d)
noncomputable def f_X11_rows (n : Nat) (z : ix_Z) (a0 : Nat) (x1 : Int32) (x2 : Int32) (d : ix_D2) : Option (Int32 × ix_D2) :=
  ix_ck (ix_ok z [10] a0) (ix_bd2 (f_X11_ruleAt n z a0 x1 d) (fun r_4 d_1 => ix_on r_4 (ix_bd2 (f_X11_refuse n z a0 ((-1001)) d_1) (fun r_8 d_6 => some (r_8, d_6))) (fun b_5 => ix_if (x2 < 0) (f_X11_rows_39 n z   d_1) (ix_ck (ix_ok z [0, 3, 5, 6, 9] b_5) (ix_if (d_1.1 b_5 2 ≤ x2) (f_X11_rows_39 n z   d_1) (some ((d_1.1 b_5 1) + x2, d_1)))))))
set_option maxRecDepth 20000 in
theorem t_X11_rows_39 {l : Launch} {p : Program} {e : Env} {s : State} {m : MethodId} {args : Array Value} {below : List Frame} {meth : Method} {c : Code} {K : ix_Cx} (hKp : ix_Kp K) {n : Nat} {z : ix_Z} (X : ix_X p s m args c K cX11_rows RX11 4) (hr : meth.sig.returnType = (some .int)) (hlk : meth.locks = false)   {r : Int32} {d1 : ix_D2}  {d : ix_D2} (h : f_X11_rows_39 n z   d = some (r, d1)) : ix_G p l e (ix_rm 1 21 0 0) s m args below meth c (MQ below (ix_Post K (some (.int r)) (ix_w z d1)) args s 0 0 (ix_A K)) K 4 0 0 39 [] [] (ix_w z d) := by
  unfold f_X11_rows_39 at h
  refine ix_sipush (v := (-1005)) X (ix_tb_at tb_X11_rows 21 rfl) (by decide) (pc1 := 42) rfl ?_
  exact ix_iret X hr hlk (ix_r2 (f := fun r => some (.int r)) (g := ix_w z) h) (ix_tb_at tb_X11_rows 22 rfl)
set_option maxRecDepth 20000 in
theorem c_X11_rows {l : Launch} {K : ix_Cx} (hKp : ix_Kp K) {n : Nat} {z : ix_Z} {a0 : Nat} {x1 : Int32} {x2 : Int32} {d : ix_D2} {r : Int32} {d1 : ix_D2} (h : f_X11_rows n z a0 x1 x2 d = some (r, d1)) : ix_M l K yX11_rows cX11_rows 4 (some .int) 1 21 0 0 [.ref (K.2.2.1 + a0), .int x1, .int x2] (ix_w z d) (some (.int r)) (ix_w z d1) := by
  refine ix_met mf_X11_rows hKp (Nat.le_of_ble_eq_true rfl) ?_
  intro p e s m args below meth c hr hlk hnm X
  have X : ix_X p s m args c K cX11_rows RX11 4 := X
  show ix_G p l e (ix_rm 1 21 0 0) s m args below meth c (MQ below (ix_Post K (some (.int r)) (ix_w z d1)) args s 0 0 (ix_A K)) K 4 0 0 0 [(0, .ref (K.2.2.1 + a0)), (1, .int x1), (2, .int x2)] [] (ix_w z d)
  unfold f_X11_rows at h
  refine ix_aload_n (i := 0) (j := 0) X (ix_tb_at tb_X11_rows 0 rfl) rfl rfl (pc1 := 1) rfl ?_
  refine ix_iload_n (i := 1) (j := 1) X (ix_tb_at tb_X11_rows 1 rfl) rfl rfl (pc1 := 2) rfl ?_
  obtain ⟨k_3, h⟩ := ix_ck_some h
  obtain ⟨r_4, d_1, h_2, h⟩ := ix_bd2_ex h
  refine ix_callV (As := [.int x1]) (rest := []) (ci := 10) (T := TX11) (nf := 18) X mf_X11_ruleAt mi_X11_ruleAt ms_X11_ruleAt rfl (Nat.le_of_ble_eq_true rfl) ml_RX11_154 ⟨Nat.le_of_ble_eq_true rfl, Nat.le_of_ble_eq_true rfl⟩ ⟨Nat.le_of_ble_eq_true rfl, Nat.le_of_ble_eq_true rfl⟩ rfl (Nat.le_of_ble_eq_true rfl) (ix_tb_at tb_X11_rows 2 rfl) ⟨k_3.1, List.mem_singleton.mp k_3.2⟩ (c_X11_ruleAt hKp h_2) rfl (pc1 := 5) rfl ?_
  rcases r_4 with _ | b_5
  · have h := ix_on_n h
    refine ix_rvn rfl ?_
    refine ix_astore_nN (i := 3) (L1 := [(3, .null), (0, .ref (K.2.2.1 + a0)), (1, .int x1), (2, .int x2)]) X (ix_tb_at tb_X11_rows 3 rfl) rfl (Nat.le_of_ble_eq_true rfl) rfl (pc1 := 6) rfl ?_
    refine ix_aload_nN (i := 3) (j := 0) X (ix_tb_at tb_X11_rows 4 rfl) rfl rfl (pc1 := 7) rfl ?_
    refine ix_ifnonnullN X (ix_tb_at tb_X11_rows 5 rfl) (pc1 := 10) rfl ?_
    refine ix_aload_n (i := 0) (j := 1) X (ix_tb_at tb_X11_rows 6 rfl) rfl rfl (pc1 := 11) rfl ?_
    refine ix_sipush (v := (-1001)) X (ix_tb_at tb_X11_rows 7 rfl) (by decide) (pc1 := 14) rfl ?_
    obtain ⟨r_8, d_6, h_7, h⟩ := ix_bd2_ex h
    refine ix_callV (As := [.int ((-1001))]) (rest := []) (ci := 10) (T := TX11) (nf := 18) X mf_X11_refuse mi_X11_refuse ms_X11_refuse rfl (Nat.le_of_ble_eq_true rfl) ml_RX11_73 ⟨Nat.le_of_ble_eq_true rfl, Nat.le_of_ble_eq_true rfl⟩ ⟨Nat.le_of_ble_eq_true rfl, Nat.le_of_ble_eq_true rfl⟩ rfl (Nat.le_of_ble_eq_true rfl) (ix_tb_at tb_X11_rows 8 rfl) ⟨k_3.1, List.mem_singleton.mp k_3.2⟩ (c_X11_refuse hKp h_7) rfl (pc1 := 17) rfl ?_
    exact ix_iret X hr hlk (ix_r2 (f := fun r => some (.int r)) (g := ix_w z) h) (ix_tb_at tb_X11_rows 9 rfl)
  · have h := ix_on_s h
    refine ix_rvs (b := b_5) rfl ?_
    refine ix_astore_n (i := 3) (L1 := [(3, .ref (K.2.2.1 + b_5)), (0, .ref (K.2.2.1 + a0)), (1, .int x1), (2, .int x2)]) X (ix_tb_at tb_X11_rows 3 rfl) rfl (Nat.le_of_ble_eq_true rfl) rfl (pc1 := 6) rfl ?_
    refine ix_aload_n (i := 3) (j := 0) X (ix_tb_at tb_X11_rows 4 rfl) rfl rfl (pc1 := 7) rfl ?_
    refine ix_ifnonnull (tgt := 18) X (ix_tb_at tb_X11_rows 5 rfl) (by decide) ?_
    refine ix_iload_n (i := 2) (j := 3) X (ix_tb_at tb_X11_rows 10 rfl) rfl rfl (pc1 := 19) rfl ?_
    refine ix_if_lt (tgt := 39) X (ix_tb_at tb_X11_rows 11 rfl) (by decide) (pc1 := 22) rfl (fun q_9 => ?_) (fun q_9 => ?_)
    · have h := ix_ift q_9 h
      refine ix_sub (L1 := []) [] rfl ?_
      exact t_X11_rows_39 hKp X hr hlk  h
    · have h := ix_iff q_9 h
      refine ix_iload_n (i := 2) (j := 3) X (ix_tb_at tb_X11_rows 12 rfl) rfl rfl (pc1 := 23) rfl ?_
      refine ix_aload_n (i := 3) (j := 0) X (ix_tb_at tb_X11_rows 13 rfl) rfl rfl (pc1 := 24) rfl ?_
      obtain ⟨k_10, h⟩ := ix_ck_some h
      refine iz_getI X fl_RX11_168 k_10 (ix_tb_at tb_X11_rows 14 rfl) (pc1 := 27) rfl ?_
      refine ix_icmp_ge (tgt := 39) X (ix_tb_at tb_X11_rows 15 rfl) (by decide) (pc1 := 30) rfl (fun q_11 => ?_) (fun q_11 => ?_)
      · have h := ix_ift q_11 h
        refine ix_sub (L1 := []) [] rfl ?_
        exact t_X11_rows_39 hKp X hr hlk  h
      · have h := ix_iff q_11 h
        refine ix_aload_n (i := 3) (j := 0) X (ix_tb_at tb_X11_rows 16 rfl) rfl rfl (pc1 := 31) rfl ?_
        refine iz_getI X fl_RX11_171 k_10 (ix_tb_at tb_X11_rows 17 rfl) (pc1 := 34) rfl ?_
        refine ix_iload_n (i := 2) (j := 3) X (ix_tb_at tb_X11_rows 18 rfl) rfl rfl (pc1 := 35) rfl ?_
        refine ix_iadd X (ix_tb_at tb_X11_rows 19 rfl) (pc1 := 36) rfl ?_
        refine ix_goto (tgt := 42) X (ix_tb_at tb_X11_rows 20 rfl) (by decide) ?_
        exact ix_iret X hr hlk (ix_r2 (f := fun r => some (.int r)) (g := ix_w z) h) (ix_tb_at tb_X11_rows 22 rfl)
def tab_X11_line : List (Nat × Instr × Nat) := [(0, .iload_n 1, 1), (1, .sipush 2000, 3), (4, .if_icmp .lt 55, 3), (7, .iload_n 1, 1), (8, .sipush 2000, 3), (11, .isub, 1), (12, .istore_n 3, 1), (13, .iload_n 3, 1), (14, .aload_n 0, 1), (15, .getfield 41, 3), (18, .getfield 174, 3), (21, .iconst 4, 1), (22, .iaload, 1), (23, .if_icmp .ge 32, 3), (26, .aload_n 0, 1), (27, .getfield 41, 3), (30, .getfield 177, 3), (33, .getfield 181, 3), (36, .aload_n 0, 1), (37, .getfield 41, 3), (40, .getfield 177, 3), (43, .getfield 186, 3), (46, .iload_n 3, 1), (47, .iadd, 1), (48, .iload_n 2, 1), (49, .invokevirtual 189, 3), (52, .goto 6, 3), (55, .sipush (-1005), 3), (58, .ireturn, 1), (59, .iload_n 1, 1), (60, .sipush 1000, 3), (63, .if_icmp .lt 22, 3), (66, .aload_n 0, 1), (67, .getfield 41, 3), (70, .getfield 192, 3), (73, .iload_n 1, 1), (74, .sipush 1000, 3), (77, .isub, 1), (78, .iload_n 2, 1), (79, .invokevirtual 189, 3), (82, .goto 15, 3), (85, .aload_n 0, 1), (86, .getfield 28, 3), (89, .getfield 195, 3), (92, .iload_n 1, 1), (93, .iload_n 2, 1), (94, .invokevirtual 189, 3), (97, .ireturn, 1)]
theorem tb_X11_line : ix_tab cX11_line tab_X11_line := by
  unfold ix_tab
  decide +kernel
noncomputable def f_X11_line (n : Nat) (z : ix_Z) (a0 : Nat) (x1 : Int32) (x2 : Int32) (d : ix_D2) : Option (Int32 × ix_D2) :=
  ix_if (x1 < 2000) (ix_if (x1 < 1000) (ix_ck (ix_ok z [10] a0) (ix_bd1 (z.1 a0 3) (fun b_4 => ix_ck (ix_ok z [2] b_4) (ix_bd1 (z.1 b_4 0) (fun b_7 => ix_ck (ix_ok z [7] b_7) (ix_bd2 (f_X7_tell n z b_7 x1 x2 d) (fun r_12 d_9 => some (r_12, d_9)))))))) (ix_ck (ix_ok z [10] a0) (ix_bd1 (z.1 a0 6) (fun b_14 => ix_ck (ix_ok z [8] b_14) (ix_bd1 (z.1 b_14 1) (fun b_17 => ix_ck (ix_ok z [7] b_17) (ix_bd2 (f_X7_tell n z b_17 (x1 - 1000) x2 d) (fun r_22 d_19 => some (r_22, d_19))))))))) (ix_lt (x1 - 2000) (fun x3_23 => ix_ck (ix_ok z [10] a0) (ix_bd1 (z.1 a0 6) (fun b_26 => ix_ck (ix_ok z [8] b_26) (ix_bd1 (z.1 b_26 10) (fun b_29 => ix_ck (ix_ix z 20 b_29 4) (ix_if (d.1 b_29 (ix_n 4) ≤ x3_23) (some ((-1005), d)) (ix_bd1 (z.1 b_26 0) (fun b_33 => ix_ck (ix_ok z [1] b_33) (ix_bd1 (z.1 b_33 0) (fun b_36 => ix_ck (ix_ok z [7] b_36) (ix_bd2 (f_X7_tell n z b_36 ((d.1 b_33 16) + x3_23) x2 d) (fun r_41 d_38 => some (r_41, d_38))))))))))))))
set_option maxRecDepth 20000 in
theorem c_X11_line {l : Launch} {K : ix_Cx} (hKp : ix_Kp K) {n : Nat} {z : ix_Z} {a0 : Nat} {x1 : Int32} {x2 : Int32} {d : ix_D2} {r : Int32} {d1 : ix_D2} (h : f_X11_line n z a0 x1 x2 d = some (r, d1)) : ix_M l K yX11_line cX11_line 4 (some .int) 3 64 0 0 [.ref (K.2.2.1 + a0), .int x1, .int x2] (ix_w z d) (some (.int r)) (ix_w z d1) := by
  refine ix_met mf_X11_line hKp (Nat.le_of_ble_eq_true rfl) ?_
  intro p e s m args below meth c hr hlk hnm X
  have X : ix_X p s m args c K cX11_line RX11 4 := X
  show ix_G p l e (ix_rm 3 64 0 0) s m args below meth c (MQ below (ix_Post K (some (.int r)) (ix_w z d1)) args s 0 0 (ix_A K)) K 4 0 0 0 [(0, .ref (K.2.2.1 + a0)), (1, .int x1), (2, .int x2)] [] (ix_w z d)
  unfold f_X11_line at h
  refine ix_iload_n (i := 1) (j := 1) X (ix_tb_at tb_X11_line 0 rfl) rfl rfl (pc1 := 1) rfl ?_
  refine ix_sipush (v := 2000) X (ix_tb_at tb_X11_line 1 rfl) (by decide) (pc1 := 4) rfl ?_
  refine ix_icmp_lt (tgt := 59) X (ix_tb_at tb_X11_line 2 rfl) (by decide) (pc1 := 7) rfl (fun q_1 => ?_) (fun q_1 => ?_)
  · have h := ix_ift q_1 h
    refine ix_iload_n (i := 1) (j := 1) X (ix_tb_at tb_X11_line 29 rfl) rfl rfl (pc1 := 60) rfl ?_
    refine ix_sipush (v := 1000) X (ix_tb_at tb_X11_line 30 rfl) (by decide) (pc1 := 63) rfl ?_
    refine ix_icmp_lt (tgt := 85) X (ix_tb_at tb_X11_line 31 rfl) (by decide) (pc1 := 66) rfl (fun q_2 => ?_) (fun q_2 => ?_)
    · have h := ix_ift q_2 h
      refine ix_aload_n (i := 0) (j := 0) X (ix_tb_at tb_X11_line 41 rfl) rfl rfl (pc1 := 86) rfl ?_
      obtain ⟨k_3, h⟩ := ix_ck_some h
      obtain ⟨b_4, q_5, h⟩ := ix_bd1_ex h
      refine iz_getR X fl_RX11_28 k_3 q_5 (ix_tb_at tb_X11_line 42 rfl) (pc1 := 89) rfl ?_
      obtain ⟨k_6, h⟩ := ix_ck_some h
      obtain ⟨b_7, q_8, h⟩ := ix_bd1_ex h
      refine iz_getR X fl_RX11_195 k_6 q_8 (ix_tb_at tb_X11_line 43 rfl) (pc1 := 92) rfl ?_
      refine ix_iload_n (i := 1) (j := 1) X (ix_tb_at tb_X11_line 44 rfl) rfl rfl (pc1 := 93) rfl ?_
      refine ix_iload_n (i := 2) (j := 2) X (ix_tb_at tb_X11_line 45 rfl) rfl rfl (pc1 := 94) rfl ?_
      obtain ⟨k_11, h⟩ := ix_ck_some h
      obtain ⟨r_12, d_9, h_10, h⟩ := ix_bd2_ex h
      refine ix_callV (As := [.int x1, .int x2]) (rest := []) (ci := 7) (T := TX7) (nf := 3) X mf_X7_tell mi_X7_tell ms_X7_tell rfl (Nat.le_of_ble_eq_true rfl) ml_RX11_189 ⟨Nat.le_of_ble_eq_true rfl, Nat.le_of_ble_eq_true rfl⟩ ⟨Nat.le_of_ble_eq_true rfl, Nat.le_of_ble_eq_true rfl⟩ rfl (Nat.le_of_ble_eq_true rfl) (ix_tb_at tb_X11_line 46 rfl) ⟨k_11.1, List.mem_singleton.mp k_11.2⟩ (c_X7_tell hKp h_10) rfl (pc1 := 97) rfl ?_
      exact ix_iret X hr hlk (ix_r2 (f := fun r => some (.int r)) (g := ix_w z) h) (ix_tb_at tb_X11_line 47 rfl)
    · have h := ix_iff q_2 h
      refine ix_aload_n (i := 0) (j := 0) X (ix_tb_at tb_X11_line 32 rfl) rfl rfl (pc1 := 67) rfl ?_
      obtain ⟨k_13, h⟩ := ix_ck_some h
      obtain ⟨b_14, q_15, h⟩ := ix_bd1_ex h
      refine iz_getR X fl_RX11_41 k_13 q_15 (ix_tb_at tb_X11_line 33 rfl) (pc1 := 70) rfl ?_
      obtain ⟨k_16, h⟩ := ix_ck_some h
      obtain ⟨b_17, q_18, h⟩ := ix_bd1_ex h
      refine iz_getR X fl_RX11_192 k_16 q_18 (ix_tb_at tb_X11_line 34 rfl) (pc1 := 73) rfl ?_
      refine ix_iload_n (i := 1) (j := 1) X (ix_tb_at tb_X11_line 35 rfl) rfl rfl (pc1 := 74) rfl ?_
      refine ix_sipush (v := 1000) X (ix_tb_at tb_X11_line 36 rfl) (by decide) (pc1 := 77) rfl ?_
      refine ix_isub X (ix_tb_at tb_X11_line 37 rfl) (pc1 := 78) rfl ?_
      refine ix_iload_n (i := 2) (j := 2) X (ix_tb_at tb_X11_line 38 rfl) rfl rfl (pc1 := 79) rfl ?_
      obtain ⟨k_21, h⟩ := ix_ck_some h
      obtain ⟨r_22, d_19, h_20, h⟩ := ix_bd2_ex h
      refine ix_callV (As := [.int (x1 - 1000), .int x2]) (rest := []) (ci := 7) (T := TX7) (nf := 3) X mf_X7_tell mi_X7_tell ms_X7_tell rfl (Nat.le_of_ble_eq_true rfl) ml_RX11_189 ⟨Nat.le_of_ble_eq_true rfl, Nat.le_of_ble_eq_true rfl⟩ ⟨Nat.le_of_ble_eq_true rfl, Nat.le_of_ble_eq_true rfl⟩ rfl (Nat.le_of_ble_eq_true rfl) (ix_tb_at tb_X11_line 39 rfl) ⟨k_21.1, List.mem_singleton.mp k_21.2⟩ (c_X7_tell hKp h_20) rfl (pc1 := 82) rfl ?_
      refine ix_goto (tgt := 97) X (ix_tb_at tb_X11_line 40 rfl) (by decide) ?_
      exact ix_iret X hr hlk (ix_r2 (f := fun r => some (.int r)) (g := ix_w z) h) (ix_tb_at tb_X11_line 47 rfl)
  · have h := ix_iff q_1 h
    refine ix_iload_n (i := 1) (j := 1) X (ix_tb_at tb_X11_line 3 rfl) rfl rfl (pc1 := 8) rfl ?_
    refine ix_sipush (v := 2000) X (ix_tb_at tb_X11_line 4 rfl) (by decide) (pc1 := 11) rfl ?_
    refine ix_isub X (ix_tb_at tb_X11_line 5 rfl) (pc1 := 12) rfl ?_
    obtain ⟨x3_23, e_24, h⟩ := ix_lt_ex h
    refine ix_nmi e_24 ?_
    refine ix_istore_n (i := 3) (L1 := [(3, .int x3_23), (0, .ref (K.2.2.1 + a0)), (1, .int x1), (2, .int x2)]) X (ix_tb_at tb_X11_line 6 rfl) rfl (Nat.le_of_ble_eq_true rfl) rfl (pc1 := 13) rfl ?_
    refine ix_iload_n (i := 3) (j := 0) X (ix_tb_at tb_X11_line 7 rfl) rfl rfl (pc1 := 14) rfl ?_
    refine ix_aload_n (i := 0) (j := 1) X (ix_tb_at tb_X11_line 8 rfl) rfl rfl (pc1 := 15) rfl ?_
    obtain ⟨k_25, h⟩ := ix_ck_some h
    obtain ⟨b_26, q_27, h⟩ := ix_bd1_ex h
    refine iz_getR X fl_RX11_41 k_25 q_27 (ix_tb_at tb_X11_line 9 rfl) (pc1 := 18) rfl ?_
    obtain ⟨k_28, h⟩ := ix_ck_some h
    obtain ⟨b_29, q_30, h⟩ := ix_bd1_ex h
    refine iz_getR X fl_RX11_174 k_28 q_30 (ix_tb_at tb_X11_line 10 rfl) (pc1 := 21) rfl ?_
    refine ix_iconst (v := 4) X (ix_tb_at tb_X11_line 11 rfl) (by decide) (pc1 := 22) rfl ?_
    obtain ⟨k_31, h⟩ := ix_ck_some h
    refine iz_iald X k_31 (ix_tb_at tb_X11_line 12 rfl) (pc1 := 23) rfl ?_
    refine ix_icmp_ge (tgt := 55) X (ix_tb_at tb_X11_line 13 rfl) (by decide) (pc1 := 26) rfl (fun q_32 => ?_) (fun q_32 => ?_)
    · have h := ix_ift q_32 h
      refine ix_sipush (v := (-1005)) X (ix_tb_at tb_X11_line 27 rfl) (by decide) (pc1 := 58) rfl ?_
      exact ix_iret X hr hlk (ix_r2 (f := fun r => some (.int r)) (g := ix_w z) h) (ix_tb_at tb_X11_line 28 rfl)
    · have h := ix_iff q_32 h
      refine ix_aload_n (i := 0) (j := 1) X (ix_tb_at tb_X11_line 14 rfl) rfl rfl (pc1 := 27) rfl ?_
      refine iz_getR X fl_RX11_41 k_25 q_27 (ix_tb_at tb_X11_line 15 rfl) (pc1 := 30) rfl ?_
      obtain ⟨b_33, q_34, h⟩ := ix_bd1_ex h
      refine iz_getR X fl_RX11_177 k_28 q_34 (ix_tb_at tb_X11_line 16 rfl) (pc1 := 33) rfl ?_
      obtain ⟨k_35, h⟩ := ix_ck_some h
      obtain ⟨b_36, q_37, h⟩ := ix_bd1_ex h
      refine iz_getR X fl_RX11_181 k_35 q_37 (ix_tb_at tb_X11_line 17 rfl) (pc1 := 36) rfl ?_
      refine ix_aload_n (i := 0) (j := 1) X (ix_tb_at tb_X11_line 18 rfl) rfl rfl (pc1 := 37) rfl ?_
      refine iz_getR X fl_RX11_41 k_25 q_27 (ix_tb_at tb_X11_line 19 rfl) (pc1 := 40) rfl ?_
      refine iz_getR X fl_RX11_177 k_28 q_34 (ix_tb_at tb_X11_line 20 rfl) (pc1 := 43) rfl ?_
      refine iz_getI X fl_RX11_186 k_35 (ix_tb_at tb_X11_line 21 rfl) (pc1 := 46) rfl ?_
      refine ix_iload_n (i := 3) (j := 0) X (ix_tb_at tb_X11_line 22 rfl) rfl rfl (pc1 := 47) rfl ?_
      refine ix_iadd X (ix_tb_at tb_X11_line 23 rfl) (pc1 := 48) rfl ?_
      refine ix_iload_n (i := 2) (j := 3) X (ix_tb_at tb_X11_line 24 rfl) rfl rfl (pc1 := 49) rfl ?_
      obtain ⟨k_40, h⟩ := ix_ck_some h
      obtain ⟨r_41, d_38, h_39, h⟩ := ix_bd2_ex h
      refine ix_callV (As := [.int ((d.1 b_33 16) + x3_23), .int x2]) (rest := []) (ci := 7) (T := TX7) (nf := 3) X mf_X7_tell mi_X7_tell ms_X7_tell rfl (Nat.le_of_ble_eq_true rfl) ml_RX11_189 ⟨Nat.le_of_ble_eq_true rfl, Nat.le_of_ble_eq_true rfl⟩ ⟨Nat.le_of_ble_eq_true rfl, Nat.le_of_ble_eq_true rfl⟩ rfl (Nat.le_of_ble_eq_true rfl) (ix_tb_at tb_X11_line 25 rfl) ⟨k_40.1, List.mem_singleton.mp k_40.2⟩ (c_X7_tell hKp h_39) rfl (pc1 := 52) rfl ?_
      refine ix_goto (tgt := 58) X (ix_tb_at tb_X11_line 26 rfl) (by decide) ?_
      exact ix_iret X hr hlk (ix_r2 (f := fun r => some (.int r)) (g := ix_w z) h) (ix_tb_at tb_X11_line 28 rfl)
def tab_X11_saidYes : List (Nat × Instr × Nat) := [(0, .aload_n 0, 1), (1, .getfield 41, 3), (4, .getfield 174, 3), (7, .iconst 0, 1), (8, .iaload, 1), (9, .iconst 1, 1), (10, .if_icmp .ne 7, 3), (13, .iconst 1, 1), (14, .goto 4, 3), (17, .iconst 0, 1), (18, .ireturn, 1)]
theorem tb_X11_saidYes : ix_tab cX11_saidYes tab_X11_saidYes := by
  unfold ix_tab
  decide +kernel
noncomputable def f_X11_saidYes (n : Nat) (z : ix_Z) (a0 : Nat) (d : ix_D2) : Option (Int32 × ix_D2) :=
  ix_ck (ix_ok z [10] a0) (ix_bd1 (z.1 a0 6) (fun b_2 => ix_ck (ix_ok z [8] b_2) (ix_bd1 (z.1 b_2 10) (fun b_5 => ix_ck (ix_ix z 20 b_5 0) (ix_if (d.1 b_5 (ix_n 0) = 1) (some (1, d)) (some (0, d)))))))
set_option maxRecDepth 20000 in
theorem c_X11_saidYes {l : Launch} {K : ix_Cx} (hKp : ix_Kp K) {n : Nat} {z : ix_Z} {a0 : Nat} {d : ix_D2} {r : Int32} {d1 : ix_D2} (h : f_X11_saidYes n z a0 d = some (r, d1)) : ix_M l K yX11_saidYes cX11_saidYes 1 (some .boolean) 0 0 0 0 [.ref (K.2.2.1 + a0)] (ix_w z d) (some (.int r)) (ix_w z d1) := by
  refine ix_met mf_X11_saidYes hKp (Nat.le_of_ble_eq_true rfl) ?_
  intro p e s m args below meth c hr hlk hnm X
  have X : ix_X p s m args c K cX11_saidYes RX11 1 := X
  show ix_G p l e (ix_rm 0 0 0 0) s m args below meth c (MQ below (ix_Post K (some (.int r)) (ix_w z d1)) args s 0 0 (ix_A K)) K 1 0 0 0 [(0, .ref (K.2.2.1 + a0))] [] (ix_w z d)
  unfold f_X11_saidYes at h
  refine ix_aload_n (i := 0) (j := 0) X (ix_tb_at tb_X11_saidYes 0 rfl) rfl rfl (pc1 := 1) rfl ?_
  obtain ⟨k_1, h⟩ := ix_ck_some h
  obtain ⟨b_2, q_3, h⟩ := ix_bd1_ex h
  refine iz_getR X fl_RX11_41 k_1 q_3 (ix_tb_at tb_X11_saidYes 1 rfl) (pc1 := 4) rfl ?_
  obtain ⟨k_4, h⟩ := ix_ck_some h
  obtain ⟨b_5, q_6, h⟩ := ix_bd1_ex h
  refine iz_getR X fl_RX11_174 k_4 q_6 (ix_tb_at tb_X11_saidYes 2 rfl) (pc1 := 7) rfl ?_
  refine ix_iconst (v := 0) X (ix_tb_at tb_X11_saidYes 3 rfl) (by decide) (pc1 := 8) rfl ?_
  obtain ⟨k_7, h⟩ := ix_ck_some h
  refine iz_iald X k_7 (ix_tb_at tb_X11_saidYes 4 rfl) (pc1 := 9) rfl ?_
  refine ix_iconst (v := 1) X (ix_tb_at tb_X11_saidYes 5 rfl) (by decide) (pc1 := 10) rfl ?_
  refine ix_icmp_ne (tgt := 17) X (ix_tb_at tb_X11_saidYes 6 rfl) (by decide) (pc1 := 13) rfl (fun q_8 => ?_) (fun q_8 => ?_)
  · have h := ix_iff q_8 h
    refine ix_iconst (v := 0) X (ix_tb_at tb_X11_saidYes 9 rfl) (by decide) (pc1 := 18) rfl ?_
    exact ix_zret X hr hlk (by decide) (ix_r2 (f := fun r => some (.int r)) (g := ix_w z) h) (ix_tb_at tb_X11_saidYes 10 rfl)
  · have h := ix_ift q_8 h
    refine ix_iconst (v := 1) X (ix_tb_at tb_X11_saidYes 7 rfl) (by decide) (pc1 := 14) rfl ?_
    refine ix_goto (tgt := 18) X (ix_tb_at tb_X11_saidYes 8 rfl) (by decide) ?_
    exact ix_zret X hr hlk (by decide) (ix_r2 (f := fun r => some (.int r)) (g := ix_w z) h) (ix_tb_at tb_X11_saidYes 10 rfl)
def tab_X11_ask : List (Nat × Instr × Nat) := [(0, .aload_n 0, 1), (1, .iload_n 1, 1), (2, .invokevirtual 154, 3), (5, .astore_n 3, 1), (6, .aload_n 3, 1), (7, .ifnull 12, 3), (10, .iload_n 2, 1), (11, .ifCond .lt 8, 3), (14, .iload_n 2, 1), (15, .iconst 3, 1), (16, .if_icmp .le 11, 3), (19, .aload_n 0, 1), (20, .sipush (-1001), 3), (23, .invokevirtual 73, 3), (26, .ireturn, 1), (27, .iload_n 2, 1), (28, .tableswitch 95 0 2 #[28, 77, 86], 28), (56, .aload_n 0, 1), (57, .invokevirtual 196, 3), (60, .ifCond .eq 11, 3), (63, .iload_n 1, 1), (64, .aload_n 0, 1), (65, .getfield 200, 3), (68, .if_icmp .lt 13, 3), (71, .aload_n 0, 1), (72, .sipush (-1002), 3), (75, .invokevirtual 73, 3), (78, .goto 26, 3), (81, .aload_n 3, 1), (82, .aload_n 0, 1), (83, .getfield 41, 3), (86, .getfield 177, 3), (89, .aload_n 0, 1), (90, .getfield 21, 3), (93, .invokevirtual 203, 3), (96, .ifCond .eq 7, 3), (99, .iconst 1, 1), (100, .goto 4, 3), (103, .iconst 0, 1), (104, .ireturn, 1), (105, .aload_n 3, 1), (106, .aload_n 0, 1), (107, .getfield 21, 3), (110, .invokevirtual 207, 3), (113, .ireturn, 1), (114, .aload_n 3, 1), (115, .aload_n 0, 1), (116, .getfield 21, 3), (119, .invokevirtual 211, 3), (122, .ireturn, 1), (123, .aload_n 3, 1), (124, .aload_n 0, 1), (125, .getfield 21, 3), (128, .invokevirtual 214, 3), (131, .ireturn, 1)]
theorem tb_X11_ask : ix_tab cX11_ask tab_X11_ask := by
  unfold ix_tab
  decide +kernel
noncomputable def v_RX11_203 (n : Nat) (z : ix_Z) (b : Nat) (p0 : Nat) (p1 : Nat) (d : ix_D2) : Option (Int32 × ix_D2) := ix_if ((z.2.1 b).1 = 0) (f_X0_holds n z b p0 p1 d) (ix_if ((z.2.1 b).1 = 3) (f_X3_holds n z b p0 p1 d) (ix_if ((z.2.1 b).1 = 5) (f_X5_holds n z b p0 p1 d) (ix_if ((z.2.1 b).1 = 6) (f_X6_holds n z b p0 p1 d) (f_X10_holds n z b p0 p1 d))))
theorem tv_RX11_203 {l : Launch} {p : Program} {e : Env} {s : State} {m : MethodId} {args : Array Value} {below : List Frame} {meth : Method} {c : Code} {K : ix_Cx} {R : Room} {Q : State → Prop} {nL k n pc : Nat} {cc : ByteArray} {L : List (Nat × Value)} {rest : List Value} (hKp : ix_Kp K) (X : ix_X p s m args c K cc RX11 nL) {N : Nat} {z : ix_Z} {b : Nat} {p0 : Nat} {p1 : Nat} {d : ix_D2} {r : Int32} {d1 : ix_D2} (hk : ix_ok z [0, 3, 5, 6, 9] b) (hcall : v_RX11_203 N z b p0 p1 d = some (r, d1)) (hfr : 5 ≤ R.frames) (hlo : 109 ≤ R.locals) (hcs : k + 0 ≤ R.cells ∧ n + 0 ≤ R.slots) (hrm : (rest.map fun v => v.category).sum ≤ 8) (hd : decode cc pc = .ok (.invokevirtual 203, 3)) {pc1 : Nat} (hp : pc + 3 = pc1) (kk : ix_G p l e R s m args below meth c Q K nL k n pc1 L (.int r :: rest) (ix_w z d1)) : ix_G p l e R s m args below meth c Q K nL k n pc L (.ref (K.2.2.1 + p1) :: .ref (K.2.2.1 + p0) :: .ref (K.2.2.1 + b) :: rest) (ix_w z d) := by
  unfold v_RX11_203 at hcall
  have h2 := hk.2
  simp only [List.mem_cons, List.not_mem_nil, or_false] at h2
  rcases h2 with h2 | h2 | h2 | h2 | h2
  · have hcall := ix_ift h2 hcall
    exact ix_callU (As := [.ref (K.2.2.1 + p0), .ref (K.2.2.1 + p1)]) (rest := rest) (x := (⟨"ClauseCourt$Rule", "holds", "(LClauseCourt$Board;LClauseCourt$Desk;)Z"⟩ : MethodName)) (owner := "ClauseCourt$Rule") (C := RX0) (T := TX0) (nf := 4) (ci := 0) X mf_X0_holds mi_X0_holds (ix_wm (i := 906) (by decide +kernel)) (ix_wm (i := 905) (by decide +kernel)) (Or.inl (ix_wm (i := 904) (by decide +kernel))) ⟨by decide, by decide⟩ (by decide +kernel) rfl (by decide) ml_RX11_203 ⟨Nat.le_trans (Nat.le_of_ble_eq_true rfl) hfr, Nat.le_trans (Nat.le_of_ble_eq_true rfl) hlo⟩ hcs rfl hrm hd ⟨hk.1, h2⟩ (c_X0_holds hKp hcall) rfl hp kk
  · have hcall := ix_iff (by rw [h2]; decide) hcall
    have hcall := ix_ift h2 hcall
    exact ix_callU (As := [.ref (K.2.2.1 + p0), .ref (K.2.2.1 + p1)]) (rest := rest) (x := (⟨"ClauseCourt$Rule", "holds", "(LClauseCourt$Board;LClauseCourt$Desk;)Z"⟩ : MethodName)) (owner := "ClauseCourt$Rule") (C := RX3) (T := TX3) (nf := 3) (ci := 3) X mf_X3_holds mi_X3_holds (ix_wm (i := 928) (by decide +kernel)) (ix_wm (i := 905) (by decide +kernel)) (Or.inl (ix_wm (i := 904) (by decide +kernel))) ⟨by decide, by decide⟩ (by decide +kernel) rfl (by decide) ml_RX11_203 ⟨Nat.le_trans (Nat.le_of_ble_eq_true rfl) hfr, Nat.le_trans (Nat.le_of_ble_eq_true rfl) hlo⟩ hcs rfl hrm hd ⟨hk.1, h2⟩ (c_X3_holds hKp hcall) rfl hp kk
  · have hcall := ix_iff (by rw [h2]; decide) hcall
    have hcall := ix_iff (by rw [h2]; decide) hcall
    have hcall := ix_ift h2 hcall
    exact ix_callU (As := [.ref (K.2.2.1 + p0), .ref (K.2.2.1 + p1)]) (rest := rest) (x := (⟨"ClauseCourt$Rule", "holds", "(LClauseCourt$Board;LClauseCourt$Desk;)Z"⟩ : MethodName)) (owner := "ClauseCourt$Rule") (C := RX5) (T := TX5) (nf := 4) (ci := 5) X mf_X5_holds mi_X5_holds (ix_wm (i := 938) (by decide +kernel)) (ix_wm (i := 905) (by decide +kernel)) (Or.inl (ix_wm (i := 904) (by decide +kernel))) ⟨by decide, by decide⟩ (by decide +kernel) rfl (by decide) ml_RX11_203 ⟨Nat.le_trans (Nat.le_of_ble_eq_true rfl) hfr, Nat.le_trans (Nat.le_of_ble_eq_true rfl) hlo⟩ hcs rfl hrm hd ⟨hk.1, h2⟩ (c_X5_holds hKp hcall) rfl hp kk
  · have hcall := ix_iff (by rw [h2]; decide) hcall
    have hcall := ix_iff (by rw [h2]; decide) hcall
    have hcall := ix_iff (by rw [h2]; decide) hcall
    have hcall := ix_ift h2 hcall
    exact ix_callU (As := [.ref (K.2.2.1 + p0), .ref (K.2.2.1 + p1)]) (rest := rest) (x := (⟨"ClauseCourt$Rule", "holds", "(LClauseCourt$Board;LClauseCourt$Desk;)Z"⟩ : MethodName)) (owner := "ClauseCourt$Rule") (C := RX6) (T := TX6) (nf := 4) (ci := 6) X mf_X6_holds mi_X6_holds (ix_wm (i := 946) (by decide +kernel)) (ix_wm (i := 905) (by decide +kernel)) (Or.inl (ix_wm (i := 904) (by decide +kernel))) ⟨by decide, by decide⟩ (by decide +kernel) rfl (by decide) ml_RX11_203 ⟨Nat.le_trans (Nat.le_of_ble_eq_true rfl) hfr, Nat.le_trans (Nat.le_of_ble_eq_true rfl) hlo⟩ hcs rfl hrm hd ⟨hk.1, h2⟩ (c_X6_holds hKp hcall) rfl hp kk
  · have hcall := ix_iff (by rw [h2]; decide) hcall
    have hcall := ix_iff (by rw [h2]; decide) hcall
    have hcall := ix_iff (by rw [h2]; decide) hcall
    have hcall := ix_iff (by rw [h2]; decide) hcall
    exact ix_callU (As := [.ref (K.2.2.1 + p0), .ref (K.2.2.1 + p1)]) (rest := rest) (x := (⟨"ClauseCourt$Rule", "holds", "(LClauseCourt$Board;LClauseCourt$Desk;)Z"⟩ : MethodName)) (owner := "ClauseCourt$Rule") (C := RX10) (T := TX10) (nf := 6) (ci := 9) X mf_X10_holds mi_X10_holds (ix_wm (i := 953) (by decide +kernel)) (ix_wm (i := 905) (by decide +kernel)) (Or.inl (ix_wm (i := 904) (by decide +kernel))) ⟨by decide, by decide⟩ (by decide +kernel) rfl (by decide) ml_RX11_203 ⟨Nat.le_trans (Nat.le_of_ble_eq_true rfl) hfr, Nat.le_trans (Nat.le_of_ble_eq_true rfl) hlo⟩ hcs rfl hrm hd ⟨hk.1, h2⟩ (c_X10_holds hKp hcall) rfl hp kk
noncomputable def v_RX11_207 (n : Nat) (z : ix_Z) (b : Nat) (p0 : Nat) (d : ix_D2) : Option (Int32 × ix_D2) := ix_if ((z.2.1 b).1 = 0) (f_X0_fewest n z b p0 d) (ix_if ((z.2.1 b).1 = 3) (f_X3_fewest n z b p0 d) (ix_if ((z.2.1 b).1 = 5) (f_X5_fewest n z b p0 d) (ix_if ((z.2.1 b).1 = 6) (f_X6_fewest n z b p0 d) (f_X3_fewest n z b p0 d))))
theorem tv_RX11_207 {l : Launch} {p : Program} {e : Env} {s : State} {m : MethodId} {args : Array Value} {below : List Frame} {meth : Method} {c : Code} {K : ix_Cx} {R : Room} {Q : State → Prop} {nL k n pc : Nat} {cc : ByteArray} {L : List (Nat × Value)} {rest : List Value} (hKp : ix_Kp K) (X : ix_X p s m args c K cc RX11 nL) {N : Nat} {z : ix_Z} {b : Nat} {p0 : Nat} {d : ix_D2} {r : Int32} {d1 : ix_D2} (hk : ix_ok z [0, 3, 5, 6, 9] b) (hcall : v_RX11_207 N z b p0 d = some (r, d1)) (hfr : 4 ≤ R.frames) (hlo : 84 ≤ R.locals) (hcs : k + 0 ≤ R.cells ∧ n + 0 ≤ R.slots) (hrm : (rest.map fun v => v.category).sum ≤ 8) (hd : decode cc pc = .ok (.invokevirtual 207, 3)) {pc1 : Nat} (hp : pc + 3 = pc1) (kk : ix_G p l e R s m args below meth c Q K nL k n pc1 L (.int r :: rest) (ix_w z d1)) : ix_G p l e R s m args below meth c Q K nL k n pc L (.ref (K.2.2.1 + p0) :: .ref (K.2.2.1 + b) :: rest) (ix_w z d) := by
  unfold v_RX11_207 at hcall
  have h2 := hk.2
  simp only [List.mem_cons, List.not_mem_nil, or_false] at h2
  rcases h2 with h2 | h2 | h2 | h2 | h2
  · have hcall := ix_ift h2 hcall
    exact ix_callU (As := [.ref (K.2.2.1 + p0)]) (rest := rest) (x := (⟨"ClauseCourt$Rule", "fewest", "(LClauseCourt$Desk;)I"⟩ : MethodName)) (owner := "ClauseCourt$Rule") (C := RX0) (T := TX0) (nf := 4) (ci := 0) X mf_X0_fewest mi_X0_fewest (ix_wm (i := 965) (by decide +kernel)) (ix_wm (i := 964) (by decide +kernel)) (Or.inr ⟨ix_wm (i := 963) (by decide +kernel), _, _, _, ix_wm (i := 981) (w := Cond.code yX8_fewest cX8_fewest 2 (some .int)) (by decide +kernel)⟩) ⟨by decide, by decide⟩ (by decide +kernel) rfl (by decide) ml_RX11_207 ⟨Nat.le_trans (Nat.le_of_ble_eq_true rfl) hfr, Nat.le_trans (Nat.le_of_ble_eq_true rfl) hlo⟩ hcs rfl hrm hd ⟨hk.1, h2⟩ (c_X0_fewest hKp hcall) rfl hp kk
  · have hcall := ix_iff (by rw [h2]; decide) hcall
    have hcall := ix_ift h2 hcall
    exact ix_callU (As := [.ref (K.2.2.1 + p0)]) (rest := rest) (x := (⟨"ClauseCourt$Rule", "fewest", "(LClauseCourt$Desk;)I"⟩ : MethodName)) (owner := "ClauseCourt$Rule") (C := RX3) (T := TX3) (nf := 3) (ci := 3) X mf_X3_fewest mi_X3_fewest (ix_wm (i := 972) (by decide +kernel)) (ix_wm (i := 964) (by decide +kernel)) (Or.inr ⟨ix_wm (i := 963) (by decide +kernel), _, _, _, ix_wm (i := 981) (w := Cond.code yX8_fewest cX8_fewest 2 (some .int)) (by decide +kernel)⟩) ⟨by decide, by decide⟩ (by decide +kernel) rfl (by decide) ml_RX11_207 ⟨Nat.le_trans (Nat.le_of_ble_eq_true rfl) hfr, Nat.le_trans (Nat.le_of_ble_eq_true rfl) hlo⟩ hcs rfl hrm hd ⟨hk.1, h2⟩ (c_X3_fewest hKp hcall) rfl hp kk
  · have hcall := ix_iff (by rw [h2]; decide) hcall
    have hcall := ix_iff (by rw [h2]; decide) hcall
    have hcall := ix_ift h2 hcall
    exact ix_callU (As := [.ref (K.2.2.1 + p0)]) (rest := rest) (x := (⟨"ClauseCourt$Rule", "fewest", "(LClauseCourt$Desk;)I"⟩ : MethodName)) (owner := "ClauseCourt$Rule") (C := RX5) (T := TX5) (nf := 4) (ci := 5) X mf_X5_fewest mi_X5_fewest (ix_wm (i := 973) (by decide +kernel)) (ix_wm (i := 964) (by decide +kernel)) (Or.inr ⟨ix_wm (i := 963) (by decide +kernel), _, _, _, ix_wm (i := 981) (w := Cond.code yX8_fewest cX8_fewest 2 (some .int)) (by decide +kernel)⟩) ⟨by decide, by decide⟩ (by decide +kernel) rfl (by decide) ml_RX11_207 ⟨Nat.le_trans (Nat.le_of_ble_eq_true rfl) hfr, Nat.le_trans (Nat.le_of_ble_eq_true rfl) hlo⟩ hcs rfl hrm hd ⟨hk.1, h2⟩ (c_X5_fewest hKp hcall) rfl hp kk
  · have hcall := ix_iff (by rw [h2]; decide) hcall
    have hcall := ix_iff (by rw [h2]; decide) hcall
    have hcall := ix_iff (by rw [h2]; decide) hcall
    have hcall := ix_ift h2 hcall
    exact ix_callU (As := [.ref (K.2.2.1 + p0)]) (rest := rest) (x := (⟨"ClauseCourt$Rule", "fewest", "(LClauseCourt$Desk;)I"⟩ : MethodName)) (owner := "ClauseCourt$Rule") (C := RX6) (T := TX6) (nf := 4) (ci := 6) X mf_X6_fewest mi_X6_fewest (ix_wm (i := 976) (by decide +kernel)) (ix_wm (i := 964) (by decide +kernel)) (Or.inr ⟨ix_wm (i := 963) (by decide +kernel), _, _, _, ix_wm (i := 981) (w := Cond.code yX8_fewest cX8_fewest 2 (some .int)) (by decide +kernel)⟩) ⟨by decide, by decide⟩ (by decide +kernel) rfl (by decide) ml_RX11_207 ⟨Nat.le_trans (Nat.le_of_ble_eq_true rfl) hfr, Nat.le_trans (Nat.le_of_ble_eq_true rfl) hlo⟩ hcs rfl hrm hd ⟨hk.1, h2⟩ (c_X6_fewest hKp hcall) rfl hp kk
  · have hcall := ix_iff (by rw [h2]; decide) hcall
    have hcall := ix_iff (by rw [h2]; decide) hcall
    have hcall := ix_iff (by rw [h2]; decide) hcall
    have hcall := ix_iff (by rw [h2]; decide) hcall
    exact ix_callU (As := [.ref (K.2.2.1 + p0)]) (rest := rest) (x := (⟨"ClauseCourt$Rule", "fewest", "(LClauseCourt$Desk;)I"⟩ : MethodName)) (owner := "ClauseCourt$Rule") (C := RX10) (T := TX10) (nf := 6) (ci := 9) X mf_X3_fewest mi_X3_fewest (ix_wm (i := 980) (by decide +kernel)) (ix_wm (i := 964) (by decide +kernel)) (Or.inr ⟨ix_wm (i := 963) (by decide +kernel), _, _, _, ix_wm (i := 981) (w := Cond.code yX8_fewest cX8_fewest 2 (some .int)) (by decide +kernel)⟩) ⟨by decide, by decide⟩ (by decide +kernel) rfl (by decide) ml_RX11_207 ⟨Nat.le_trans (Nat.le_of_ble_eq_true rfl) hfr, Nat.le_trans (Nat.le_of_ble_eq_true rfl) hlo⟩ hcs rfl hrm hd ⟨hk.1, h2⟩ (c_X3_fewest hKp hcall) rfl hp kk
noncomputable def v_RX11_211 (n : Nat) (z : ix_Z) (b : Nat) (p0 : Nat) (d : ix_D2) : Option (Int32 × ix_D2) := ix_if ((z.2.1 b).1 = 0) (f_X0_greatest n z b p0 d) (ix_if ((z.2.1 b).1 = 3) (f_X8_greatest n z b p0 d) (ix_if ((z.2.1 b).1 = 5) (f_X0_greatest n z b p0 d) (ix_if ((z.2.1 b).1 = 6) (f_X6_greatest n z b p0 d) (f_X10_greatest n z b p0 d))))
theorem tv_RX11_211 {l : Launch} {p : Program} {e : Env} {s : State} {m : MethodId} {args : Array Value} {below : List Frame} {meth : Method} {c : Code} {K : ix_Cx} {R : Room} {Q : State → Prop} {nL k n pc : Nat} {cc : ByteArray} {L : List (Nat × Value)} {rest : List Value} (hKp : ix_Kp K) (X : ix_X p s m args c K cc RX11 nL) {N : Nat} {z : ix_Z} {b : Nat} {p0 : Nat} {d : ix_D2} {r : Int32} {d1 : ix_D2} (hk : ix_ok z [0, 3, 5, 6, 9] b) (hcall : v_RX11_211 N z b p0 d = some (r, d1)) (hfr : 3 ≤ R.frames) (hlo : 64 ≤ R.locals) (hcs : k + 0 ≤ R.cells ∧ n + 0 ≤ R.slots) (hrm : (rest.map fun v => v.category).sum ≤ 8) (hd : decode cc pc = .ok (.invokevirtual 211, 3)) {pc1 : Nat} (hp : pc + 3 = pc1) (kk : ix_G p l e R s m args below meth c Q K nL k n pc1 L (.int r :: rest) (ix_w z d1)) : ix_G p l e R s m args below meth c Q K nL k n pc L (.ref (K.2.2.1 + p0) :: .ref (K.2.2.1 + b) :: rest) (ix_w z d) := by
  unfold v_RX11_211 at hcall
  have h2 := hk.2
  simp only [List.mem_cons, List.not_mem_nil, or_false] at h2
  rcases h2 with h2 | h2 | h2 | h2 | h2
  · have hcall := ix_ift h2 hcall
    exact ix_callU (As := [.ref (K.2.2.1 + p0)]) (rest := rest) (x := (⟨"ClauseCourt$Rule", "greatest", "(LClauseCourt$Desk;)I"⟩ : MethodName)) (owner := "ClauseCourt$Rule") (C := RX0) (T := TX0) (nf := 4) (ci := 0) X mf_X0_greatest mi_X0_greatest (ix_wm (i := 986) (by decide +kernel)) (ix_wm (i := 985) (by decide +kernel)) (Or.inl (ix_wm (i := 991) (by decide +kernel))) ⟨by decide, by decide⟩ (by decide +kernel) rfl (by decide) ml_RX11_211 ⟨Nat.le_trans (Nat.le_of_ble_eq_true rfl) hfr, Nat.le_trans (Nat.le_of_ble_eq_true rfl) hlo⟩ hcs rfl hrm hd ⟨hk.1, h2⟩ (c_X0_greatest hKp hcall) rfl hp kk
  · have hcall := ix_iff (by rw [h2]; decide) hcall
    have hcall := ix_ift h2 hcall
    exact ix_callU (As := [.ref (K.2.2.1 + p0)]) (rest := rest) (x := (⟨"ClauseCourt$Rule", "greatest", "(LClauseCourt$Desk;)I"⟩ : MethodName)) (owner := "ClauseCourt$Rule") (C := RX3) (T := TX3) (nf := 3) (ci := 3) X mf_X8_greatest mi_X8_greatest (ix_wm (i := 993) (by decide +kernel)) (ix_wm (i := 985) (by decide +kernel)) (Or.inl (ix_wm (i := 991) (by decide +kernel))) ⟨by decide, by decide⟩ (by decide +kernel) rfl (by decide) ml_RX11_211 ⟨Nat.le_trans (Nat.le_of_ble_eq_true rfl) hfr, Nat.le_trans (Nat.le_of_ble_eq_true rfl) hlo⟩ hcs rfl hrm hd ⟨hk.1, h2⟩ (c_X8_greatest hKp hcall) rfl hp kk
  · have hcall := ix_iff (by rw [h2]; decide) hcall
    have hcall := ix_iff (by rw [h2]; decide) hcall
    have hcall := ix_ift h2 hcall
    exact ix_callU (As := [.ref (K.2.2.1 + p0)]) (rest := rest) (x := (⟨"ClauseCourt$Rule", "greatest", "(LClauseCourt$Desk;)I"⟩ : MethodName)) (owner := "ClauseCourt$Rule") (C := RX5) (T := TX5) (nf := 4) (ci := 5) X mf_X0_greatest mi_X0_greatest (ix_wm (i := 994) (by decide +kernel)) (ix_wm (i := 985) (by decide +kernel)) (Or.inl (ix_wm (i := 991) (by decide +kernel))) ⟨by decide, by decide⟩ (by decide +kernel) rfl (by decide) ml_RX11_211 ⟨Nat.le_trans (Nat.le_of_ble_eq_true rfl) hfr, Nat.le_trans (Nat.le_of_ble_eq_true rfl) hlo⟩ hcs rfl hrm hd ⟨hk.1, h2⟩ (c_X0_greatest hKp hcall) rfl hp kk
  · have hcall := ix_iff (by rw [h2]; decide) hcall
    have hcall := ix_iff (by rw [h2]; decide) hcall
    have hcall := ix_iff (by rw [h2]; decide) hcall
    have hcall := ix_ift h2 hcall
    exact ix_callU (As := [.ref (K.2.2.1 + p0)]) (rest := rest) (x := (⟨"ClauseCourt$Rule", "greatest", "(LClauseCourt$Desk;)I"⟩ : MethodName)) (owner := "ClauseCourt$Rule") (C := RX6) (T := TX6) (nf := 4) (ci := 6) X mf_X6_greatest mi_X6_greatest (ix_wm (i := 995) (by decide +kernel)) (ix_wm (i := 985) (by decide +kernel)) (Or.inl (ix_wm (i := 991) (by decide +kernel))) ⟨by decide, by decide⟩ (by decide +kernel) rfl (by decide) ml_RX11_211 ⟨Nat.le_trans (Nat.le_of_ble_eq_true rfl) hfr, Nat.le_trans (Nat.le_of_ble_eq_true rfl) hlo⟩ hcs rfl hrm hd ⟨hk.1, h2⟩ (c_X6_greatest hKp hcall) rfl hp kk
  · have hcall := ix_iff (by rw [h2]; decide) hcall
    have hcall := ix_iff (by rw [h2]; decide) hcall
    have hcall := ix_iff (by rw [h2]; decide) hcall
    have hcall := ix_iff (by rw [h2]; decide) hcall
    exact ix_callU (As := [.ref (K.2.2.1 + p0)]) (rest := rest) (x := (⟨"ClauseCourt$Rule", "greatest", "(LClauseCourt$Desk;)I"⟩ : MethodName)) (owner := "ClauseCourt$Rule") (C := RX10) (T := TX10) (nf := 6) (ci := 9) X mf_X10_greatest mi_X10_greatest (ix_wm (i := 999) (by decide +kernel)) (ix_wm (i := 985) (by decide +kernel)) (Or.inl (ix_wm (i := 991) (by decide +kernel))) ⟨by decide, by decide⟩ (by decide +kernel) rfl (by decide) ml_RX11_211 ⟨Nat.le_trans (Nat.le_of_ble_eq_true rfl) hfr, Nat.le_trans (Nat.le_of_ble_eq_true rfl) hlo⟩ hcs rfl hrm hd ⟨hk.1, h2⟩ (c_X10_greatest hKp hcall) rfl hp kk
noncomputable def v_RX11_214 (n : Nat) (z : ix_Z) (b : Nat) (p0 : Nat) (d : ix_D2) : Option (Int32 × ix_D2) := ix_if ((z.2.1 b).1 = 0) (f_X8_laid n z b p0 d) (ix_if ((z.2.1 b).1 = 3) (f_X8_laid n z b p0 d) (ix_if ((z.2.1 b).1 = 5) (f_X8_laid n z b p0 d) (ix_if ((z.2.1 b).1 = 6) (f_X8_laid n z b p0 d) (f_X8_laid n z b p0 d))))
theorem tv_RX11_214 {l : Launch} {p : Program} {e : Env} {s : State} {m : MethodId} {args : Array Value} {below : List Frame} {meth : Method} {c : Code} {K : ix_Cx} {R : Room} {Q : State → Prop} {nL k n pc : Nat} {cc : ByteArray} {L : List (Nat × Value)} {rest : List Value} (hKp : ix_Kp K) (X : ix_X p s m args c K cc RX11 nL) {N : Nat} {z : ix_Z} {b : Nat} {p0 : Nat} {d : ix_D2} {r : Int32} {d1 : ix_D2} (hk : ix_ok z [0, 3, 5, 6, 9] b) (hcall : v_RX11_214 N z b p0 d = some (r, d1)) (hfr : 2 ≤ R.frames) (hlo : 42 ≤ R.locals) (hcs : k + 0 ≤ R.cells ∧ n + 0 ≤ R.slots) (hrm : (rest.map fun v => v.category).sum ≤ 8) (hd : decode cc pc = .ok (.invokevirtual 214, 3)) {pc1 : Nat} (hp : pc + 3 = pc1) (kk : ix_G p l e R s m args below meth c Q K nL k n pc1 L (.int r :: rest) (ix_w z d1)) : ix_G p l e R s m args below meth c Q K nL k n pc L (.ref (K.2.2.1 + p0) :: .ref (K.2.2.1 + b) :: rest) (ix_w z d) := by
  unfold v_RX11_214 at hcall
  have h2 := hk.2
  simp only [List.mem_cons, List.not_mem_nil, or_false] at h2
  rcases h2 with h2 | h2 | h2 | h2 | h2
  · have hcall := ix_ift h2 hcall
    exact ix_callU (As := [.ref (K.2.2.1 + p0)]) (rest := rest) (x := (⟨"ClauseCourt$Rule", "laid", "(LClauseCourt$Desk;)I"⟩ : MethodName)) (owner := "ClauseCourt$Rule") (C := RX0) (T := TX0) (nf := 4) (ci := 0) X mf_X8_laid mi_X8_laid (ix_wm (i := 1006) (by decide +kernel)) (ix_wm (i := 1005) (by decide +kernel)) (Or.inr ⟨ix_wm (i := 1004) (by decide +kernel), _, _, _, ix_wm (i := 1011) (w := Cond.code yX8_laid cX8_laid 2 (some .int)) (by decide +kernel)⟩) ⟨by decide, by decide⟩ (by decide +kernel) rfl (by decide) ml_RX11_214 ⟨Nat.le_trans (Nat.le_of_ble_eq_true rfl) hfr, Nat.le_trans (Nat.le_of_ble_eq_true rfl) hlo⟩ hcs rfl hrm hd ⟨hk.1, h2⟩ (c_X8_laid hKp hcall) rfl hp kk
  · have hcall := ix_iff (by rw [h2]; decide) hcall
    have hcall := ix_ift h2 hcall
    exact ix_callU (As := [.ref (K.2.2.1 + p0)]) (rest := rest) (x := (⟨"ClauseCourt$Rule", "laid", "(LClauseCourt$Desk;)I"⟩ : MethodName)) (owner := "ClauseCourt$Rule") (C := RX3) (T := TX3) (nf := 3) (ci := 3) X mf_X8_laid mi_X8_laid (ix_wm (i := 1007) (by decide +kernel)) (ix_wm (i := 1005) (by decide +kernel)) (Or.inr ⟨ix_wm (i := 1004) (by decide +kernel), _, _, _, ix_wm (i := 1011) (w := Cond.code yX8_laid cX8_laid 2 (some .int)) (by decide +kernel)⟩) ⟨by decide, by decide⟩ (by decide +kernel) rfl (by decide) ml_RX11_214 ⟨Nat.le_trans (Nat.le_of_ble_eq_true rfl) hfr, Nat.le_trans (Nat.le_of_ble_eq_true rfl) hlo⟩ hcs rfl hrm hd ⟨hk.1, h2⟩ (c_X8_laid hKp hcall) rfl hp kk
  · have hcall := ix_iff (by rw [h2]; decide) hcall
    have hcall := ix_iff (by rw [h2]; decide) hcall
    have hcall := ix_ift h2 hcall
    exact ix_callU (As := [.ref (K.2.2.1 + p0)]) (rest := rest) (x := (⟨"ClauseCourt$Rule", "laid", "(LClauseCourt$Desk;)I"⟩ : MethodName)) (owner := "ClauseCourt$Rule") (C := RX5) (T := TX5) (nf := 4) (ci := 5) X mf_X8_laid mi_X8_laid (ix_wm (i := 1008) (by decide +kernel)) (ix_wm (i := 1005) (by decide +kernel)) (Or.inr ⟨ix_wm (i := 1004) (by decide +kernel), _, _, _, ix_wm (i := 1011) (w := Cond.code yX8_laid cX8_laid 2 (some .int)) (by decide +kernel)⟩) ⟨by decide, by decide⟩ (by decide +kernel) rfl (by decide) ml_RX11_214 ⟨Nat.le_trans (Nat.le_of_ble_eq_true rfl) hfr, Nat.le_trans (Nat.le_of_ble_eq_true rfl) hlo⟩ hcs rfl hrm hd ⟨hk.1, h2⟩ (c_X8_laid hKp hcall) rfl hp kk
  · have hcall := ix_iff (by rw [h2]; decide) hcall
    have hcall := ix_iff (by rw [h2]; decide) hcall
    have hcall := ix_iff (by rw [h2]; decide) hcall
    have hcall := ix_ift h2 hcall
    exact ix_callU (As := [.ref (K.2.2.1 + p0)]) (rest := rest) (x := (⟨"ClauseCourt$Rule", "laid", "(LClauseCourt$Desk;)I"⟩ : MethodName)) (owner := "ClauseCourt$Rule") (C := RX6) (T := TX6) (nf := 4) (ci := 6) X mf_X8_laid mi_X8_laid (ix_wm (i := 1009) (by decide +kernel)) (ix_wm (i := 1005) (by decide +kernel)) (Or.inr ⟨ix_wm (i := 1004) (by decide +kernel), _, _, _, ix_wm (i := 1011) (w := Cond.code yX8_laid cX8_laid 2 (some .int)) (by decide +kernel)⟩) ⟨by decide, by decide⟩ (by decide +kernel) rfl (by decide) ml_RX11_214 ⟨Nat.le_trans (Nat.le_of_ble_eq_true rfl) hfr, Nat.le_trans (Nat.le_of_ble_eq_true rfl) hlo⟩ hcs rfl hrm hd ⟨hk.1, h2⟩ (c_X8_laid hKp hcall) rfl hp kk
  · have hcall := ix_iff (by rw [h2]; decide) hcall
    have hcall := ix_iff (by rw [h2]; decide) hcall
    have hcall := ix_iff (by rw [h2]; decide) hcall
    have hcall := ix_iff (by rw [h2]; decide) hcall
    exact ix_callU (As := [.ref (K.2.2.1 + p0)]) (rest := rest) (x := (⟨"ClauseCourt$Rule", "laid", "(LClauseCourt$Desk;)I"⟩ : MethodName)) (owner := "ClauseCourt$Rule") (C := RX10) (T := TX10) (nf := 6) (ci := 9) X mf_X8_laid mi_X8_laid (ix_wm (i := 1010) (by decide +kernel)) (ix_wm (i := 1005) (by decide +kernel)) (Or.inr ⟨ix_wm (i := 1004) (by decide +kernel), _, _, _, ix_wm (i := 1011) (w := Cond.code yX8_laid cX8_laid 2 (some .int)) (by decide +kernel)⟩) ⟨by decide, by decide⟩ (by decide +kernel) rfl (by decide) ml_RX11_214 ⟨Nat.le_trans (Nat.le_of_ble_eq_true rfl) hfr, Nat.le_trans (Nat.le_of_ble_eq_true rfl) hlo⟩ hcs rfl hrm hd ⟨hk.1, h2⟩ (c_X8_laid hKp hcall) rfl hp kk
noncomputable def f_X11_ask_19 (n : Nat) (z : ix_Z)  (a0 : Nat) (d : ix_D2) : Option (Int32 × ix_D2) :=
  ix_ck (ix_ok z [10] a0) (ix_bd2 (f_X11_refuse n z a0 ((-1001)) d) (fun r_9 d_6 => some (r_9, d_6)))
noncomputable def f_X11_ask_71 (n : Nat) (z : ix_Z)  (a0 : Nat) (d : ix_D2) : Option (Int32 × ix_D2) :=
  ix_ck (ix_ok z [10] a0) (ix_bd2 (f_X11_refuse n z a0 ((-1002)) d) (fun r_20 d_17 => some (r_20, d_17)))
noncomputable def f_X11_ask (n : Nat) (z : ix_Z) (a0 : Nat) (x1 : Int32) (x2 : Int32) (d : ix_D2) : Option (Int32 × ix_D2) :=
  ix_ck (ix_ok z [10] a0) (ix_bd2 (f_X11_ruleAt n z a0 x1 d) (fun r_4 d_1 => ix_on r_4 (f_X11_ask_19 n z  a0 d_1) (fun b_5 => ix_if (x2 < 0) (f_X11_ask_19 n z  a0 d_1) (ix_if (x2 ≤ 3) (ix_if (x2 = 0) (ix_bd2 (f_X11_saidYes n z a0 d_1) (fun r_15 d_13 => ix_if (r_15 = 0) (f_X11_ask_71 n z  a0 d_13) (ix_if (x1 < d_13.1 a0 15) (ix_bd1 (z.1 a0 6) (fun b_22 => ix_ck (ix_ok z [8] b_22) (ix_bd1 (z.1 b_22 0) (fun b_25 => ix_bd1 (z.1 a0 2) (fun b_27 => ix_ck (ix_ok z [0, 3, 5, 6, 9] b_5) (ix_bd2 (v_RX11_203 n z b_5 b_25 b_27 d_13) (fun r_32 d_30 => ix_if (r_32 = 0) (some (0, d_30)) (some (1, d_30))))))))) (f_X11_ask_71 n z  a0 d_13)))) (ix_if (x2 = 1) (ix_bd1 (z.1 a0 2) (fun b_35 => ix_ck (ix_ok z [0, 3, 5, 6, 9] b_5) (ix_bd2 (v_RX11_207 n z b_5 b_35 d_1) (fun r_40 d_38 => some (r_40, d_38))))) (ix_if (x2 = 2) (ix_bd1 (z.1 a0 2) (fun b_42 => ix_ck (ix_ok z [0, 3, 5, 6, 9] b_5) (ix_bd2 (v_RX11_211 n z b_5 b_42 d_1) (fun r_47 d_45 => some (r_47, d_45))))) (ix_bd1 (z.1 a0 2) (fun b_48 => ix_ck (ix_ok z [0, 3, 5, 6, 9] b_5) (ix_bd2 (v_RX11_214 n z b_5 b_48 d_1) (fun r_53 d_51 => some (r_53, d_51)))))))) (f_X11_ask_19 n z  a0 d_1)))))
set_option maxRecDepth 20000 in
theorem t_X11_ask_19 {l : Launch} {p : Program} {e : Env} {s : State} {m : MethodId} {args : Array Value} {below : List Frame} {meth : Method} {c : Code} {K : ix_Cx} (hKp : ix_Kp K) {n : Nat} {z : ix_Z} (X : ix_X p s m args c K cX11_ask RX11 4) (hr : meth.sig.returnType = (some .int)) (hlk : meth.locks = false)  {a0 : Nat} {r : Int32} {d1 : ix_D2}  {d : ix_D2} (h : f_X11_ask_19 n z  a0 d = some (r, d1)) : ix_G p l e (ix_rm 5 109 0 0) s m args below meth c (MQ below (ix_Post K (some (.int r)) (ix_w z d1)) args s 0 0 (ix_A K)) K 4 0 0 19 [(0, .ref (K.2.2.1 + a0))] [] (ix_w z d) := by
  unfold f_X11_ask_19 at h
  refine ix_aload_n (i := 0) (j := 0) X (ix_tb_at tb_X11_ask 11 rfl) rfl rfl (pc1 := 20) rfl ?_
  refine ix_sipush (v := (-1001)) X (ix_tb_at tb_X11_ask 12 rfl) (by decide) (pc1 := 23) rfl ?_
  obtain ⟨k_8, h⟩ := ix_ck_some h
  obtain ⟨r_9, d_6, h_7, h⟩ := ix_bd2_ex h
  refine ix_callV (As := [.int ((-1001))]) (rest := []) (ci := 10) (T := TX11) (nf := 18) X mf_X11_refuse mi_X11_refuse ms_X11_refuse rfl (Nat.le_of_ble_eq_true rfl) ml_RX11_73 ⟨Nat.le_of_ble_eq_true rfl, Nat.le_of_ble_eq_true rfl⟩ ⟨Nat.le_of_ble_eq_true rfl, Nat.le_of_ble_eq_true rfl⟩ rfl (Nat.le_of_ble_eq_true rfl) (ix_tb_at tb_X11_ask 13 rfl) ⟨k_8.1, List.mem_singleton.mp k_8.2⟩ (c_X11_refuse hKp h_7) rfl (pc1 := 26) rfl ?_
  exact ix_iret X hr hlk (ix_r2 (f := fun r => some (.int r)) (g := ix_w z) h) (ix_tb_at tb_X11_ask 14 rfl)
set_option maxRecDepth 20000 in
theorem t_X11_ask_71 {l : Launch} {p : Program} {e : Env} {s : State} {m : MethodId} {args : Array Value} {below : List Frame} {meth : Method} {c : Code} {K : ix_Cx} (hKp : ix_Kp K) {n : Nat} {z : ix_Z} (X : ix_X p s m args c K cX11_ask RX11 4) (hr : meth.sig.returnType = (some .int)) (hlk : meth.locks = false)  {a0 : Nat} {r : Int32} {d1 : ix_D2}  {d : ix_D2} (h : f_X11_ask_71 n z  a0 d = some (r, d1)) : ix_G p l e (ix_rm 5 109 0 0) s m args below meth c (MQ below (ix_Post K (some (.int r)) (ix_w z d1)) args s 0 0 (ix_A K)) K 4 0 0 71 [(0, .ref (K.2.2.1 + a0))] [] (ix_w z d) := by
  unfold f_X11_ask_71 at h
  refine ix_aload_n (i := 0) (j := 0) X (ix_tb_at tb_X11_ask 24 rfl) rfl rfl (pc1 := 72) rfl ?_
  refine ix_sipush (v := (-1002)) X (ix_tb_at tb_X11_ask 25 rfl) (by decide) (pc1 := 75) rfl ?_
  obtain ⟨k_19, h⟩ := ix_ck_some h
  obtain ⟨r_20, d_17, h_18, h⟩ := ix_bd2_ex h
  refine ix_callV (As := [.int ((-1002))]) (rest := []) (ci := 10) (T := TX11) (nf := 18) X mf_X11_refuse mi_X11_refuse ms_X11_refuse rfl (Nat.le_of_ble_eq_true rfl) ml_RX11_73 ⟨Nat.le_of_ble_eq_true rfl, Nat.le_of_ble_eq_true rfl⟩ ⟨Nat.le_of_ble_eq_true rfl, Nat.le_of_ble_eq_true rfl⟩ rfl (Nat.le_of_ble_eq_true rfl) (ix_tb_at tb_X11_ask 26 rfl) ⟨k_19.1, List.mem_singleton.mp k_19.2⟩ (c_X11_refuse hKp h_18) rfl (pc1 := 78) rfl ?_
  refine ix_goto (tgt := 104) X (ix_tb_at tb_X11_ask 27 rfl) (by decide) ?_
  exact ix_iret X hr hlk (ix_r2 (f := fun r => some (.int r)) (g := ix_w z) h) (ix_tb_at tb_X11_ask 39 rfl)
set_option maxRecDepth 20000 in
theorem c_X11_ask {l : Launch} {K : ix_Cx} (hKp : ix_Kp K) {n : Nat} {z : ix_Z} {a0 : Nat} {x1 : Int32} {x2 : Int32} {d : ix_D2} {r : Int32} {d1 : ix_D2} (h : f_X11_ask n z a0 x1 x2 d = some (r, d1)) : ix_M l K yX11_ask cX11_ask 4 (some .int) 5 109 0 0 [.ref (K.2.2.1 + a0), .int x1, .int x2] (ix_w z d) (some (.int r)) (ix_w z d1) := by
  refine ix_met mf_X11_ask hKp (Nat.le_of_ble_eq_true rfl) ?_
  intro p e s m args below meth c hr hlk hnm X
  have X : ix_X p s m args c K cX11_ask RX11 4 := X
  show ix_G p l e (ix_rm 5 109 0 0) s m args below meth c (MQ below (ix_Post K (some (.int r)) (ix_w z d1)) args s 0 0 (ix_A K)) K 4 0 0 0 [(0, .ref (K.2.2.1 + a0)), (1, .int x1), (2, .int x2)] [] (ix_w z d)
  unfold f_X11_ask at h
  refine ix_aload_n (i := 0) (j := 0) X (ix_tb_at tb_X11_ask 0 rfl) rfl rfl (pc1 := 1) rfl ?_
  refine ix_iload_n (i := 1) (j := 1) X (ix_tb_at tb_X11_ask 1 rfl) rfl rfl (pc1 := 2) rfl ?_
  obtain ⟨k_3, h⟩ := ix_ck_some h
  obtain ⟨r_4, d_1, h_2, h⟩ := ix_bd2_ex h
  refine ix_callV (As := [.int x1]) (rest := []) (ci := 10) (T := TX11) (nf := 18) X mf_X11_ruleAt mi_X11_ruleAt ms_X11_ruleAt rfl (Nat.le_of_ble_eq_true rfl) ml_RX11_154 ⟨Nat.le_of_ble_eq_true rfl, Nat.le_of_ble_eq_true rfl⟩ ⟨Nat.le_of_ble_eq_true rfl, Nat.le_of_ble_eq_true rfl⟩ rfl (Nat.le_of_ble_eq_true rfl) (ix_tb_at tb_X11_ask 2 rfl) ⟨k_3.1, List.mem_singleton.mp k_3.2⟩ (c_X11_ruleAt hKp h_2) rfl (pc1 := 5) rfl ?_
  rcases r_4 with _ | b_5
  · have h := ix_on_n h
    refine ix_rvn rfl ?_
    refine ix_astore_nN (i := 3) (L1 := [(3, .null), (0, .ref (K.2.2.1 + a0)), (1, .int x1), (2, .int x2)]) X (ix_tb_at tb_X11_ask 3 rfl) rfl (Nat.le_of_ble_eq_true rfl) rfl (pc1 := 6) rfl ?_
    refine ix_aload_nN (i := 3) (j := 0) X (ix_tb_at tb_X11_ask 4 rfl) rfl rfl (pc1 := 7) rfl ?_
    refine ix_ifnullN (tgt := 19) X (ix_tb_at tb_X11_ask 5 rfl) (by decide) ?_
    refine ix_sub (L1 := [(0, .ref (K.2.2.1 + a0))]) [1] rfl ?_
    exact t_X11_ask_19 hKp X hr hlk  h
  · have h := ix_on_s h
    refine ix_rvs (b := b_5) rfl ?_
    refine ix_astore_n (i := 3) (L1 := [(3, .ref (K.2.2.1 + b_5)), (0, .ref (K.2.2.1 + a0)), (1, .int x1), (2, .int x2)]) X (ix_tb_at tb_X11_ask 3 rfl) rfl (Nat.le_of_ble_eq_true rfl) rfl (pc1 := 6) rfl ?_
    refine ix_aload_n (i := 3) (j := 0) X (ix_tb_at tb_X11_ask 4 rfl) rfl rfl (pc1 := 7) rfl ?_
    refine ix_ifnull X (ix_tb_at tb_X11_ask 5 rfl) (pc1 := 10) rfl ?_
    refine ix_iload_n (i := 2) (j := 3) X (ix_tb_at tb_X11_ask 6 rfl) rfl rfl (pc1 := 11) rfl ?_
    refine ix_if_lt (tgt := 19) X (ix_tb_at tb_X11_ask 7 rfl) (by decide) (pc1 := 14) rfl (fun q_10 => ?_) (fun q_10 => ?_)
    · have h := ix_ift q_10 h
      refine ix_sub (L1 := [(0, .ref (K.2.2.1 + a0))]) [1] rfl ?_
      exact t_X11_ask_19 hKp X hr hlk  h
    · have h := ix_iff q_10 h
      refine ix_iload_n (i := 2) (j := 3) X (ix_tb_at tb_X11_ask 8 rfl) rfl rfl (pc1 := 15) rfl ?_
      refine ix_iconst (v := 3) X (ix_tb_at tb_X11_ask 9 rfl) (by decide) (pc1 := 16) rfl ?_
      refine ix_icmp_le (tgt := 27) X (ix_tb_at tb_X11_ask 10 rfl) (by decide) (pc1 := 19) rfl (fun q_11 => ?_) (fun q_11 => ?_)
      · have h := ix_ift q_11 h
        refine ix_iload_n (i := 2) (j := 3) X (ix_tb_at tb_X11_ask 15 rfl) rfl rfl (pc1 := 28) rfl ?_
        rcases Classical.em (x2 = 0) with q_12 | q_12
        · have h := ix_ift q_12 h
          refine ix_swin (tgt := 56) X (ix_tb_at tb_X11_ask 16 rfl) (by rw [q_12]; decide) (by rw [q_12]; decide) (by rw [q_12]; rfl) (by decide) ?_
          refine ix_aload_n (i := 0) (j := 1) X (ix_tb_at tb_X11_ask 17 rfl) rfl rfl (pc1 := 57) rfl ?_
          obtain ⟨r_15, d_13, h_14, h⟩ := ix_bd2_ex h
          refine ix_callV (As := []) (rest := []) (ci := 10) (T := TX11) (nf := 18) X mf_X11_saidYes mi_X11_saidYes ms_X11_saidYes rfl (Nat.le_of_ble_eq_true rfl) ml_RX11_196 ⟨Nat.le_of_ble_eq_true rfl, Nat.le_of_ble_eq_true rfl⟩ ⟨Nat.le_of_ble_eq_true rfl, Nat.le_of_ble_eq_true rfl⟩ rfl (Nat.le_of_ble_eq_true rfl) (ix_tb_at tb_X11_ask 18 rfl) ⟨k_3.1, List.mem_singleton.mp k_3.2⟩ (c_X11_saidYes hKp h_14) rfl (pc1 := 60) rfl ?_
          refine ix_if_eq (tgt := 71) X (ix_tb_at tb_X11_ask 19 rfl) (by decide) (pc1 := 63) rfl (fun q_16 => ?_) (fun q_16 => ?_)
          · have h := ix_ift q_16 h
            refine ix_sub (L1 := [(0, .ref (K.2.2.1 + a0))]) [1] rfl ?_
            exact t_X11_ask_71 hKp X hr hlk  h
          · have h := ix_iff q_16 h
            refine ix_iload_n (i := 1) (j := 2) X (ix_tb_at tb_X11_ask 20 rfl) rfl rfl (pc1 := 64) rfl ?_
            refine ix_aload_n (i := 0) (j := 1) X (ix_tb_at tb_X11_ask 21 rfl) rfl rfl (pc1 := 65) rfl ?_
            refine iz_getI X fl_RX11_200 k_3 (ix_tb_at tb_X11_ask 22 rfl) (pc1 := 68) rfl ?_
            refine ix_icmp_lt (tgt := 81) X (ix_tb_at tb_X11_ask 23 rfl) (by decide) (pc1 := 71) rfl (fun q_21 => ?_) (fun q_21 => ?_)
            · have h := ix_ift q_21 h
              refine ix_aload_n (i := 3) (j := 0) X (ix_tb_at tb_X11_ask 28 rfl) rfl rfl (pc1 := 82) rfl ?_
              refine ix_aload_n (i := 0) (j := 1) X (ix_tb_at tb_X11_ask 29 rfl) rfl rfl (pc1 := 83) rfl ?_
              obtain ⟨b_22, q_23, h⟩ := ix_bd1_ex h
              refine iz_getR X fl_RX11_41 k_3 q_23 (ix_tb_at tb_X11_ask 30 rfl) (pc1 := 86) rfl ?_
              obtain ⟨k_24, h⟩ := ix_ck_some h
              obtain ⟨b_25, q_26, h⟩ := ix_bd1_ex h
              refine iz_getR X fl_RX11_177 k_24 q_26 (ix_tb_at tb_X11_ask 31 rfl) (pc1 := 89) rfl ?_
              refine ix_aload_n (i := 0) (j := 1) X (ix_tb_at tb_X11_ask 32 rfl) rfl rfl (pc1 := 90) rfl ?_
              obtain ⟨b_27, q_28, h⟩ := ix_bd1_ex h
              refine iz_getR X fl_RX11_21 k_3 q_28 (ix_tb_at tb_X11_ask 33 rfl) (pc1 := 93) rfl ?_
              obtain ⟨k_29, h⟩ := ix_ck_some h
              obtain ⟨r_32, d_30, h_31, h⟩ := ix_bd2_ex h
              refine tv_RX11_203 (rest := []) hKp X k_29 h_31 (Nat.le_of_ble_eq_true rfl) (Nat.le_of_ble_eq_true rfl) ⟨Nat.le_of_ble_eq_true rfl, Nat.le_of_ble_eq_true rfl⟩ (Nat.le_of_ble_eq_true rfl) (ix_tb_at tb_X11_ask 34 rfl) (pc1 := 96) rfl ?_
              refine ix_if_eq (tgt := 103) X (ix_tb_at tb_X11_ask 35 rfl) (by decide) (pc1 := 99) rfl (fun q_33 => ?_) (fun q_33 => ?_)
              · have h := ix_ift q_33 h
                refine ix_iconst (v := 0) X (ix_tb_at tb_X11_ask 38 rfl) (by decide) (pc1 := 104) rfl ?_
                exact ix_iret X hr hlk (ix_r2 (f := fun r => some (.int r)) (g := ix_w z) h) (ix_tb_at tb_X11_ask 39 rfl)
              · have h := ix_iff q_33 h
                refine ix_iconst (v := 1) X (ix_tb_at tb_X11_ask 36 rfl) (by decide) (pc1 := 100) rfl ?_
                refine ix_goto (tgt := 104) X (ix_tb_at tb_X11_ask 37 rfl) (by decide) ?_
                exact ix_iret X hr hlk (ix_r2 (f := fun r => some (.int r)) (g := ix_w z) h) (ix_tb_at tb_X11_ask 39 rfl)
            · have h := ix_iff q_21 h
              refine ix_sub (L1 := [(0, .ref (K.2.2.1 + a0))]) [1] rfl ?_
              exact t_X11_ask_71 hKp X hr hlk  h
        · have h := ix_iff q_12 h
          rcases Classical.em (x2 = 1) with q_34 | q_34
          · have h := ix_ift q_34 h
            refine ix_swin (tgt := 105) X (ix_tb_at tb_X11_ask 16 rfl) (by rw [q_34]; decide) (by rw [q_34]; decide) (by rw [q_34]; rfl) (by decide) ?_
            refine ix_aload_n (i := 3) (j := 0) X (ix_tb_at tb_X11_ask 40 rfl) rfl rfl (pc1 := 106) rfl ?_
            refine ix_aload_n (i := 0) (j := 1) X (ix_tb_at tb_X11_ask 41 rfl) rfl rfl (pc1 := 107) rfl ?_
            obtain ⟨b_35, q_36, h⟩ := ix_bd1_ex h
            refine iz_getR X fl_RX11_21 k_3 q_36 (ix_tb_at tb_X11_ask 42 rfl) (pc1 := 110) rfl ?_
            obtain ⟨k_37, h⟩ := ix_ck_some h
            obtain ⟨r_40, d_38, h_39, h⟩ := ix_bd2_ex h
            refine tv_RX11_207 (rest := []) hKp X k_37 h_39 (Nat.le_of_ble_eq_true rfl) (Nat.le_of_ble_eq_true rfl) ⟨Nat.le_of_ble_eq_true rfl, Nat.le_of_ble_eq_true rfl⟩ (Nat.le_of_ble_eq_true rfl) (ix_tb_at tb_X11_ask 43 rfl) (pc1 := 113) rfl ?_
            exact ix_iret X hr hlk (ix_r2 (f := fun r => some (.int r)) (g := ix_w z) h) (ix_tb_at tb_X11_ask 44 rfl)
          · have h := ix_iff q_34 h
            rcases Classical.em (x2 = 2) with q_41 | q_41
            · have h := ix_ift q_41 h
              refine ix_swin (tgt := 114) X (ix_tb_at tb_X11_ask 16 rfl) (by rw [q_41]; decide) (by rw [q_41]; decide) (by rw [q_41]; rfl) (by decide) ?_
              refine ix_aload_n (i := 3) (j := 0) X (ix_tb_at tb_X11_ask 45 rfl) rfl rfl (pc1 := 115) rfl ?_
              refine ix_aload_n (i := 0) (j := 1) X (ix_tb_at tb_X11_ask 46 rfl) rfl rfl (pc1 := 116) rfl ?_
              obtain ⟨b_42, q_43, h⟩ := ix_bd1_ex h
              refine iz_getR X fl_RX11_21 k_3 q_43 (ix_tb_at tb_X11_ask 47 rfl) (pc1 := 119) rfl ?_
              obtain ⟨k_44, h⟩ := ix_ck_some h
              obtain ⟨r_47, d_45, h_46, h⟩ := ix_bd2_ex h
              refine tv_RX11_211 (rest := []) hKp X k_44 h_46 (Nat.le_of_ble_eq_true rfl) (Nat.le_of_ble_eq_true rfl) ⟨Nat.le_of_ble_eq_true rfl, Nat.le_of_ble_eq_true rfl⟩ (Nat.le_of_ble_eq_true rfl) (ix_tb_at tb_X11_ask 48 rfl) (pc1 := 122) rfl ?_
              exact ix_iret X hr hlk (ix_r2 (f := fun r => some (.int r)) (g := ix_w z) h) (ix_tb_at tb_X11_ask 49 rfl)
            · have h := ix_iff q_41 h
              refine ix_swout (tgt := 123) X (ix_tb_at tb_X11_ask 16 rfl) (by have wq_12 := ix_ne (a := 0) (by decide) q_12; have wq_34 := ix_ne (a := 1) (by decide) q_34; have wq_41 := ix_ne (a := 2) (by decide) q_41; omega) (by decide) ?_
              refine ix_aload_n (i := 3) (j := 0) X (ix_tb_at tb_X11_ask 50 rfl) rfl rfl (pc1 := 124) rfl ?_
              refine ix_aload_n (i := 0) (j := 1) X (ix_tb_at tb_X11_ask 51 rfl) rfl rfl (pc1 := 125) rfl ?_
              obtain ⟨b_48, q_49, h⟩ := ix_bd1_ex h
              refine iz_getR X fl_RX11_21 k_3 q_49 (ix_tb_at tb_X11_ask 52 rfl) (pc1 := 128) rfl ?_
              obtain ⟨k_50, h⟩ := ix_ck_some h
              obtain ⟨r_53, d_51, h_52, h⟩ := ix_bd2_ex h
              refine tv_RX11_214 (rest := []) hKp X k_50 h_52 (Nat.le_of_ble_eq_true rfl) (Nat.le_of_ble_eq_true rfl) ⟨Nat.le_of_ble_eq_true rfl, Nat.le_of_ble_eq_true rfl⟩ (Nat.le_of_ble_eq_true rfl) (ix_tb_at tb_X11_ask 53 rfl) (pc1 := 131) rfl ?_
              exact ix_iret X hr hlk (ix_r2 (f := fun r => some (.int r)) (g := ix_w z) h) (ix_tb_at tb_X11_ask 54 rfl)
      · have h := ix_iff q_11 h
        refine ix_sub (L1 := [(0, .ref (K.2.2.1 + a0))]) [1] rfl ?_
        exact t_X11_ask_19 hKp X hr hlk  h
def tab_X11_print : List (Nat × Instr × Nat) := [(0, .aload_n 0, 1), (1, .iload_n 1, 1), (2, .invokevirtual 154, 3), (5, .astore_n 2, 1), (6, .aload_n 2, 1), (7, .ifnonnull 11, 3), (10, .aload_n 0, 1), (11, .sipush (-1001), 3), (14, .invokevirtual 73, 3), (17, .ireturn, 1), (18, .aload_n 0, 1), (19, .getfield 21, 3), (22, .iconst 0, 1), (23, .putfield 217, 3), (26, .aload_n 2, 1), (27, .aload_n 0, 1), (28, .getfield 21, 3), (31, .invokevirtual 220, 3), (34, .aload_n 0, 1), (35, .getfield 21, 3), (38, .getfield 217, 3), (41, .ireturn, 1)]
theorem tb_X11_print : ix_tab cX11_print tab_X11_print := by
  unfold ix_tab
  decide +kernel
noncomputable def v_RX11_220 (n : Nat) (z : ix_Z) (b : Nat) (p0 : Nat) (d : ix_D2) : Option (ix_D2) := ix_if ((z.2.1 b).1 = 0) (f_X0_write n z b p0 d) (ix_if ((z.2.1 b).1 = 3) (f_X3_write n z b p0 d) (ix_if ((z.2.1 b).1 = 5) (f_X5_write n z b p0 d) (ix_if ((z.2.1 b).1 = 6) (f_X6_write n z b p0 d) (f_X10_write n z b p0 d))))
theorem tv_RX11_220 {l : Launch} {p : Program} {e : Env} {s : State} {m : MethodId} {args : Array Value} {below : List Frame} {meth : Method} {c : Code} {K : ix_Cx} {R : Room} {Q : State → Prop} {nL k n pc : Nat} {cc : ByteArray} {L : List (Nat × Value)} {rest : List Value} (hKp : ix_Kp K) (hT : ix_Tc K) (X : ix_X p s m args c K cc RX11 nL) {N : Nat} {z : ix_Z} {b : Nat} {p0 : Nat} {d : ix_D2} {d1 : ix_D2} (hk : ix_ok z [0, 3, 5, 6, 9] b) (hcall : v_RX11_220 N z b p0 d = some d1) (hfr : 7 ≤ R.frames) (hlo : 149 ≤ R.locals) (hcs : k + 0 ≤ R.cells ∧ n + 0 ≤ R.slots) (hrm : (rest.map fun v => v.category).sum ≤ 8) (hd : decode cc pc = .ok (.invokevirtual 220, 3)) {pc1 : Nat} (hp : pc + 3 = pc1) (kk : ix_G p l e R s m args below meth c Q K nL k n pc1 L (rest) (ix_w z d1)) : ix_G p l e R s m args below meth c Q K nL k n pc L (.ref (K.2.2.1 + p0) :: .ref (K.2.2.1 + b) :: rest) (ix_w z d) := by
  unfold v_RX11_220 at hcall
  have h2 := hk.2
  simp only [List.mem_cons, List.not_mem_nil, or_false] at h2
  rcases h2 with h2 | h2 | h2 | h2 | h2
  · have hcall := ix_ift h2 hcall
    exact ix_callU (As := [.ref (K.2.2.1 + p0)]) (rest := rest) (x := (⟨"ClauseCourt$Rule", "write", "(LClauseCourt$Desk;)V"⟩ : MethodName)) (owner := "ClauseCourt$Rule") (C := RX0) (T := TX0) (nf := 4) (ci := 0) X mf_X0_write mi_X0_write (ix_wm (i := 1019) (by decide +kernel)) (ix_wm (i := 1018) (by decide +kernel)) (Or.inl (ix_wm (i := 1017) (by decide +kernel))) ⟨by decide, by decide⟩ (by decide +kernel) rfl (by decide) ml_RX11_220 ⟨Nat.le_trans (Nat.le_of_ble_eq_true rfl) hfr, Nat.le_trans (Nat.le_of_ble_eq_true rfl) hlo⟩ hcs rfl hrm hd ⟨hk.1, h2⟩ (c_X0_write hKp hT hcall) rfl hp kk
  · have hcall := ix_iff (by rw [h2]; decide) hcall
    have hcall := ix_ift h2 hcall
    exact ix_callU (As := [.ref (K.2.2.1 + p0)]) (rest := rest) (x := (⟨"ClauseCourt$Rule", "write", "(LClauseCourt$Desk;)V"⟩ : MethodName)) (owner := "ClauseCourt$Rule") (C := RX3) (T := TX3) (nf := 3) (ci := 3) X mf_X3_write mi_X3_write (ix_wm (i := 1062) (by decide +kernel)) (ix_wm (i := 1018) (by decide +kernel)) (Or.inl (ix_wm (i := 1017) (by decide +kernel))) ⟨by decide, by decide⟩ (by decide +kernel) rfl (by decide) ml_RX11_220 ⟨Nat.le_trans (Nat.le_of_ble_eq_true rfl) hfr, Nat.le_trans (Nat.le_of_ble_eq_true rfl) hlo⟩ hcs rfl hrm hd ⟨hk.1, h2⟩ (c_X3_write hKp hT hcall) rfl hp kk
  · have hcall := ix_iff (by rw [h2]; decide) hcall
    have hcall := ix_iff (by rw [h2]; decide) hcall
    have hcall := ix_ift h2 hcall
    exact ix_callU (As := [.ref (K.2.2.1 + p0)]) (rest := rest) (x := (⟨"ClauseCourt$Rule", "write", "(LClauseCourt$Desk;)V"⟩ : MethodName)) (owner := "ClauseCourt$Rule") (C := RX5) (T := TX5) (nf := 4) (ci := 5) X mf_X5_write mi_X5_write (ix_wm (i := 1068) (by decide +kernel)) (ix_wm (i := 1018) (by decide +kernel)) (Or.inl (ix_wm (i := 1017) (by decide +kernel))) ⟨by decide, by decide⟩ (by decide +kernel) rfl (by decide) ml_RX11_220 ⟨Nat.le_trans (Nat.le_of_ble_eq_true rfl) hfr, Nat.le_trans (Nat.le_of_ble_eq_true rfl) hlo⟩ hcs rfl hrm hd ⟨hk.1, h2⟩ (c_X5_write hKp hT hcall) rfl hp kk
  · have hcall := ix_iff (by rw [h2]; decide) hcall
    have hcall := ix_iff (by rw [h2]; decide) hcall
    have hcall := ix_iff (by rw [h2]; decide) hcall
    have hcall := ix_ift h2 hcall
    exact ix_callU (As := [.ref (K.2.2.1 + p0)]) (rest := rest) (x := (⟨"ClauseCourt$Rule", "write", "(LClauseCourt$Desk;)V"⟩ : MethodName)) (owner := "ClauseCourt$Rule") (C := RX6) (T := TX6) (nf := 4) (ci := 6) X mf_X6_write mi_X6_write (ix_wm (i := 1074) (by decide +kernel)) (ix_wm (i := 1018) (by decide +kernel)) (Or.inl (ix_wm (i := 1017) (by decide +kernel))) ⟨by decide, by decide⟩ (by decide +kernel) rfl (by decide) ml_RX11_220 ⟨Nat.le_trans (Nat.le_of_ble_eq_true rfl) hfr, Nat.le_trans (Nat.le_of_ble_eq_true rfl) hlo⟩ hcs rfl hrm hd ⟨hk.1, h2⟩ (c_X6_write hKp hT hcall) rfl hp kk
  · have hcall := ix_iff (by rw [h2]; decide) hcall
    have hcall := ix_iff (by rw [h2]; decide) hcall
    have hcall := ix_iff (by rw [h2]; decide) hcall
    have hcall := ix_iff (by rw [h2]; decide) hcall
    exact ix_callU (As := [.ref (K.2.2.1 + p0)]) (rest := rest) (x := (⟨"ClauseCourt$Rule", "write", "(LClauseCourt$Desk;)V"⟩ : MethodName)) (owner := "ClauseCourt$Rule") (C := RX10) (T := TX10) (nf := 6) (ci := 9) X mf_X10_write mi_X10_write (ix_wm (i := 1081) (by decide +kernel)) (ix_wm (i := 1018) (by decide +kernel)) (Or.inl (ix_wm (i := 1017) (by decide +kernel))) ⟨by decide, by decide⟩ (by decide +kernel) rfl (by decide) ml_RX11_220 ⟨Nat.le_trans (Nat.le_of_ble_eq_true rfl) hfr, Nat.le_trans (Nat.le_of_ble_eq_true rfl) hlo⟩ hcs rfl hrm hd ⟨hk.1, h2⟩ (c_X10_write hKp hcall) rfl hp kk
noncomputable def f_X11_print (n : Nat) (z : ix_Z) (a0 : Nat) (x1 : Int32) (d : ix_D2) : Option (Int32 × ix_D2) :=
  ix_ck (ix_ok z [10] a0) (ix_bd2 (f_X11_ruleAt n z a0 x1 d) (fun r_4 d_1 => ix_on r_4 (ix_bd2 (f_X11_refuse n z a0 ((-1001)) d_1) (fun r_8 d_6 => some (r_8, d_6))) (fun b_5 => ix_bd1 (z.1 a0 2) (fun b_9 => ix_ck (ix_ok z [4] b_9) (ix_lt (ix_di d_1 b_9 3 0) (fun d_12 => ix_ck (ix_ok z [0, 3, 5, 6, 9] b_5) (ix_bd1 (v_RX11_220 n z b_5 b_9 d_12) (fun d_15 => some (d_15.1 b_9 3, d_15)))))))))
set_option maxRecDepth 20000 in
theorem c_X11_print {l : Launch} {K : ix_Cx} (hKp : ix_Kp K) (hT : ix_Tc K) {n : Nat} {z : ix_Z} {a0 : Nat} {x1 : Int32} {d : ix_D2} {r : Int32} {d1 : ix_D2} (h : f_X11_print n z a0 x1 d = some (r, d1)) : ix_M l K yX11_print cX11_print 3 (some .int) 7 149 0 0 [.ref (K.2.2.1 + a0), .int x1] (ix_w z d) (some (.int r)) (ix_w z d1) := by
  refine ix_met mf_X11_print hKp (Nat.le_of_ble_eq_true rfl) ?_
  intro p e s m args below meth c hr hlk hnm X
  have X : ix_X p s m args c K cX11_print RX11 3 := X
  show ix_G p l e (ix_rm 7 149 0 0) s m args below meth c (MQ below (ix_Post K (some (.int r)) (ix_w z d1)) args s 0 0 (ix_A K)) K 3 0 0 0 [(0, .ref (K.2.2.1 + a0)), (1, .int x1)] [] (ix_w z d)
  unfold f_X11_print at h
  refine ix_aload_n (i := 0) (j := 0) X (ix_tb_at tb_X11_print 0 rfl) rfl rfl (pc1 := 1) rfl ?_
  refine ix_iload_n (i := 1) (j := 1) X (ix_tb_at tb_X11_print 1 rfl) rfl rfl (pc1 := 2) rfl ?_
  obtain ⟨k_3, h⟩ := ix_ck_some h
  obtain ⟨r_4, d_1, h_2, h⟩ := ix_bd2_ex h
  refine ix_callV (As := [.int x1]) (rest := []) (ci := 10) (T := TX11) (nf := 18) X mf_X11_ruleAt mi_X11_ruleAt ms_X11_ruleAt rfl (Nat.le_of_ble_eq_true rfl) ml_RX11_154 ⟨Nat.le_of_ble_eq_true rfl, Nat.le_of_ble_eq_true rfl⟩ ⟨Nat.le_of_ble_eq_true rfl, Nat.le_of_ble_eq_true rfl⟩ rfl (Nat.le_of_ble_eq_true rfl) (ix_tb_at tb_X11_print 2 rfl) ⟨k_3.1, List.mem_singleton.mp k_3.2⟩ (c_X11_ruleAt hKp h_2) rfl (pc1 := 5) rfl ?_
  rcases r_4 with _ | b_5
  · have h := ix_on_n h
    refine ix_rvn rfl ?_
    refine ix_astore_nN (i := 2) (L1 := [(2, .null), (0, .ref (K.2.2.1 + a0)), (1, .int x1)]) X (ix_tb_at tb_X11_print 3 rfl) rfl (Nat.le_of_ble_eq_true rfl) rfl (pc1 := 6) rfl ?_
    refine ix_aload_nN (i := 2) (j := 0) X (ix_tb_at tb_X11_print 4 rfl) rfl rfl (pc1 := 7) rfl ?_
    refine ix_ifnonnullN X (ix_tb_at tb_X11_print 5 rfl) (pc1 := 10) rfl ?_
    refine ix_aload_n (i := 0) (j := 1) X (ix_tb_at tb_X11_print 6 rfl) rfl rfl (pc1 := 11) rfl ?_
    refine ix_sipush (v := (-1001)) X (ix_tb_at tb_X11_print 7 rfl) (by decide) (pc1 := 14) rfl ?_
    obtain ⟨r_8, d_6, h_7, h⟩ := ix_bd2_ex h
    refine ix_callV (As := [.int ((-1001))]) (rest := []) (ci := 10) (T := TX11) (nf := 18) X mf_X11_refuse mi_X11_refuse ms_X11_refuse rfl (Nat.le_of_ble_eq_true rfl) ml_RX11_73 ⟨Nat.le_of_ble_eq_true rfl, Nat.le_of_ble_eq_true rfl⟩ ⟨Nat.le_of_ble_eq_true rfl, Nat.le_of_ble_eq_true rfl⟩ rfl (Nat.le_of_ble_eq_true rfl) (ix_tb_at tb_X11_print 8 rfl) ⟨k_3.1, List.mem_singleton.mp k_3.2⟩ (c_X11_refuse hKp h_7) rfl (pc1 := 17) rfl ?_
    exact ix_iret X hr hlk (ix_r2 (f := fun r => some (.int r)) (g := ix_w z) h) (ix_tb_at tb_X11_print 9 rfl)
  · have h := ix_on_s h
    refine ix_rvs (b := b_5) rfl ?_
    refine ix_astore_n (i := 2) (L1 := [(2, .ref (K.2.2.1 + b_5)), (0, .ref (K.2.2.1 + a0)), (1, .int x1)]) X (ix_tb_at tb_X11_print 3 rfl) rfl (Nat.le_of_ble_eq_true rfl) rfl (pc1 := 6) rfl ?_
    refine ix_aload_n (i := 2) (j := 0) X (ix_tb_at tb_X11_print 4 rfl) rfl rfl (pc1 := 7) rfl ?_
    refine ix_ifnonnull (tgt := 18) X (ix_tb_at tb_X11_print 5 rfl) (by decide) ?_
    refine ix_aload_n (i := 0) (j := 1) X (ix_tb_at tb_X11_print 10 rfl) rfl rfl (pc1 := 19) rfl ?_
    obtain ⟨b_9, q_10, h⟩ := ix_bd1_ex h
    refine iz_getR X fl_RX11_21 k_3 q_10 (ix_tb_at tb_X11_print 11 rfl) (pc1 := 22) rfl ?_
    refine ix_iconst (v := 0) X (ix_tb_at tb_X11_print 12 rfl) (by decide) (pc1 := 23) rfl ?_
    obtain ⟨k_11, h⟩ := ix_ck_some h
    obtain ⟨d_12, e_13, h⟩ := ix_lt_ex h
    refine iz_putI X fp_RX11_217 k_11 (ix_tb_at tb_X11_print 13 rfl) e_13 (pc1 := 26) rfl ?_
    refine ix_aload_n (i := 2) (j := 0) X (ix_tb_at tb_X11_print 14 rfl) rfl rfl (pc1 := 27) rfl ?_
    refine ix_aload_n (i := 0) (j := 1) X (ix_tb_at tb_X11_print 15 rfl) rfl rfl (pc1 := 28) rfl ?_
    refine iz_getR X fl_RX11_21 k_3 q_10 (ix_tb_at tb_X11_print 16 rfl) (pc1 := 31) rfl ?_
    obtain ⟨k_14, h⟩ := ix_ck_some h
    obtain ⟨d_15, h_16, h⟩ := ix_bd1_ex h
    refine tv_RX11_220 (rest := []) hKp hT X k_14 h_16 (Nat.le_of_ble_eq_true rfl) (Nat.le_of_ble_eq_true rfl) ⟨Nat.le_of_ble_eq_true rfl, Nat.le_of_ble_eq_true rfl⟩ (Nat.le_of_ble_eq_true rfl) (ix_tb_at tb_X11_print 17 rfl) (pc1 := 34) rfl ?_
    refine ix_aload_n (i := 0) (j := 1) X (ix_tb_at tb_X11_print 18 rfl) rfl rfl (pc1 := 35) rfl ?_
    refine iz_getR X fl_RX11_21 k_3 q_10 (ix_tb_at tb_X11_print 19 rfl) (pc1 := 38) rfl ?_
    refine iz_getI X fl_RX11_217 k_11 (ix_tb_at tb_X11_print 20 rfl) (pc1 := 41) rfl ?_
    exact ix_iret X hr hlk (ix_r2 (f := fun r => some (.int r)) (g := ix_w z) h) (ix_tb_at tb_X11_print 21 rfl)
def tab_X11_export : List (Nat × Instr × Nat) := [(0, .aload_n 0, 1), (1, .getfield 21, 3), (4, .iconst 0, 1), (5, .putfield 217, 3), (8, .iconst 0, 1), (9, .istore_n 1, 1), (10, .iload_n 1, 1), (11, .aload_n 0, 1), (12, .getfield 28, 3), (15, .getfield 195, 3), (18, .getfield 224, 3), (21, .if_icmp .ge 24, 3), (24, .aload_n 0, 1), (25, .getfield 21, 3), (28, .aload_n 0, 1), (29, .getfield 28, 3), (32, .getfield 195, 3), (35, .iload_n 1, 1), (36, .invokevirtual 227, 3), (39, .iinc 1 1, 3), (42, .goto (-32), 3), (45, .aload_n 0, 1), (46, .getfield 21, 3), (49, .getfield 217, 3), (52, .ireturn, 1)]
theorem tb_X11_export : ix_tab cX11_export tab_X11_export := by
  unfold ix_tab
  decide +kernel
noncomputable def b_X11_export_10 (n : Nat) (z : ix_Z)  (a0 : Nat) (rec10 : Int32 → ix_D2 → Option (Int32 × ix_D2)) (x1 : Int32) (d : ix_D2) : Option (Int32 × ix_D2) :=
  ix_ck (ix_ok z [10] a0) (ix_bd1 (z.1 a0 3) (fun b_8 => ix_ck (ix_ok z [2] b_8) (ix_bd1 (z.1 b_8 0) (fun b_11 => ix_ck (ix_ok z [7] b_11) (ix_if (d.1 b_11 2 ≤ x1) (ix_bd1 (z.1 a0 2) (fun b_15 => ix_ck (ix_ok z [4] b_15) (some (d.1 b_15 3, d)))) (ix_bd1 (z.1 a0 2) (fun b_18 => ix_ck (ix_ok z [4] b_18) (ix_bd1 (f_X4_writeRow n z b_18 b_11 x1 d) (fun d_20 => ix_lt (x1 + 1) (fun x1_23 => rec10 x1_23 d_20))))))))))
noncomputable def f_X11_export_10 (n : Nat) (z : ix_Z)  (a0 : Nat) (x1 : Int32) (d : ix_D2) : Option (Int32 × ix_D2) := ix_fix (b_X11_export_10 n z  a0) (fun _ _ => none) n x1 d
noncomputable def f_X11_export (n : Nat) (z : ix_Z) (a0 : Nat) (d : ix_D2) : Option (Int32 × ix_D2) :=
  ix_ck (ix_ok z [10] a0) (ix_bd1 (z.1 a0 2) (fun b_2 => ix_ck (ix_ok z [4] b_2) (ix_lt (ix_di d b_2 3 0) (fun d_5 => f_X11_export_10 n z  a0 0 d_5))))
set_option maxRecDepth 20000 in
theorem tb_X11_export_10 {l : Launch} {p : Program} {e : Env} {s : State} {m : MethodId} {args : Array Value} {below : List Frame} {meth : Method} {c : Code} {K : ix_Cx} (hKp : ix_Kp K) {n : Nat} {z : ix_Z} (X : ix_X p s m args c K cX11_export RX11 2) (hr : meth.sig.returnType = (some .int)) (hlk : meth.locks = false)  {a0 : Nat} {rec10 : Int32 → ix_D2 → Option (Int32 × ix_D2)} {r : Int32} {d1 : ix_D2} (hrec10 : ∀ (x1 : Int32) (d : ix_D2), rec10 x1 d = some (r, d1) → ix_G p l e (ix_rm 4 87 0 0) s m args below meth c (MQ below (ix_Post K (some (.int r)) (ix_w z d1)) args s 0 0 (ix_A K)) K 2 0 0 10 [(0, .ref (K.2.2.1 + a0)), (1, .int x1)] [] (ix_w z d)) {x1 : Int32} {d : ix_D2} (h : b_X11_export_10 n z  a0 rec10 x1 d = some (r, d1)) : ix_G p l e (ix_rm 4 87 0 0) s m args below meth c (MQ below (ix_Post K (some (.int r)) (ix_w z d1)) args s 0 0 (ix_A K)) K 2 0 0 10 [(0, .ref (K.2.2.1 + a0)), (1, .int x1)] [] (ix_w z d) := by
  unfold b_X11_export_10 at h
  refine ix_iload_n (i := 1) (j := 1) X (ix_tb_at tb_X11_export 6 rfl) rfl rfl (pc1 := 11) rfl ?_
  refine ix_aload_n (i := 0) (j := 0) X (ix_tb_at tb_X11_export 7 rfl) rfl rfl (pc1 := 12) rfl ?_
  obtain ⟨k_7, h⟩ := ix_ck_some h
  obtain ⟨b_8, q_9, h⟩ := ix_bd1_ex h
  refine iz_getR X fl_RX11_28 k_7 q_9 (ix_tb_at tb_X11_export 8 rfl) (pc1 := 15) rfl ?_
  obtain ⟨k_10, h⟩ := ix_ck_some h
  obtain ⟨b_11, q_12, h⟩ := ix_bd1_ex h
  refine iz_getR X fl_RX11_195 k_10 q_12 (ix_tb_at tb_X11_export 9 rfl) (pc1 := 18) rfl ?_
  obtain ⟨k_13, h⟩ := ix_ck_some h
  refine iz_getI X fl_RX11_224 k_13 (ix_tb_at tb_X11_export 10 rfl) (pc1 := 21) rfl ?_
  refine ix_icmp_ge (tgt := 45) X (ix_tb_at tb_X11_export 11 rfl) (by decide) (pc1 := 24) rfl (fun q_14 => ?_) (fun q_14 => ?_)
  · have h := ix_ift q_14 h
    refine ix_aload_n (i := 0) (j := 0) X (ix_tb_at tb_X11_export 21 rfl) rfl rfl (pc1 := 46) rfl ?_
    obtain ⟨b_15, q_16, h⟩ := ix_bd1_ex h
    refine iz_getR X fl_RX11_21 k_7 q_16 (ix_tb_at tb_X11_export 22 rfl) (pc1 := 49) rfl ?_
    obtain ⟨k_17, h⟩ := ix_ck_some h
    refine iz_getI X fl_RX11_217 k_17 (ix_tb_at tb_X11_export 23 rfl) (pc1 := 52) rfl ?_
    exact ix_iret X hr hlk (ix_r2 (f := fun r => some (.int r)) (g := ix_w z) h) (ix_tb_at tb_X11_export 24 rfl)
  · have h := ix_iff q_14 h
    refine ix_aload_n (i := 0) (j := 0) X (ix_tb_at tb_X11_export 12 rfl) rfl rfl (pc1 := 25) rfl ?_
    obtain ⟨b_18, q_19, h⟩ := ix_bd1_ex h
    refine iz_getR X fl_RX11_21 k_7 q_19 (ix_tb_at tb_X11_export 13 rfl) (pc1 := 28) rfl ?_
    refine ix_aload_n (i := 0) (j := 0) X (ix_tb_at tb_X11_export 14 rfl) rfl rfl (pc1 := 29) rfl ?_
    refine iz_getR X fl_RX11_28 k_7 q_9 (ix_tb_at tb_X11_export 15 rfl) (pc1 := 32) rfl ?_
    refine iz_getR X fl_RX11_195 k_10 q_12 (ix_tb_at tb_X11_export 16 rfl) (pc1 := 35) rfl ?_
    refine ix_iload_n (i := 1) (j := 1) X (ix_tb_at tb_X11_export 17 rfl) rfl rfl (pc1 := 36) rfl ?_
    obtain ⟨k_22, h⟩ := ix_ck_some h
    obtain ⟨d_20, h_21, h⟩ := ix_bd1_ex h
    refine ix_callV (As := [.ref (K.2.2.1 + b_11), .int x1]) (rest := []) (ci := 4) (T := TX4) (nf := 17) X mf_X4_writeRow mi_X4_writeRow ms_X4_writeRow rfl (Nat.le_of_ble_eq_true rfl) ml_RX11_227 ⟨Nat.le_of_ble_eq_true rfl, Nat.le_of_ble_eq_true rfl⟩ ⟨Nat.le_of_ble_eq_true rfl, Nat.le_of_ble_eq_true rfl⟩ rfl (Nat.le_of_ble_eq_true rfl) (ix_tb_at tb_X11_export 18 rfl) ⟨k_22.1, List.mem_singleton.mp k_22.2⟩ (c_X4_writeRow hKp h_21) rfl (pc1 := 39) rfl ?_
    obtain ⟨x1_23, e_24, h⟩ := ix_lt_ex h
    refine ix_iinc (i := 1) (j := 1) (v := x1_23) (L1 := [(1, .int x1_23), (0, .ref (K.2.2.1 + a0))]) X (ix_tb_at tb_X11_export 19 rfl) rfl (by rw [oi_1]; exact e_24.symm) (Nat.le_of_ble_eq_true rfl) rfl (pc1 := 42) rfl ?_
    refine ix_goto (tgt := 10) X (ix_tb_at tb_X11_export 20 rfl) (by decide) ?_
    refine ix_sub (L1 := [(0, .ref (K.2.2.1 + a0)), (1, .int x1_23)]) [1, 0] rfl ?_
    exact hrec10 x1_23 d_20 h
theorem t_X11_export_10 {l : Launch} {p : Program} {e : Env} {s : State} {m : MethodId} {args : Array Value} {below : List Frame} {meth : Method} {c : Code} {K : ix_Cx} (hKp : ix_Kp K) {n : Nat} {z : ix_Z} (X : ix_X p s m args c K cX11_export RX11 2) (hr : meth.sig.returnType = (some .int)) (hlk : meth.locks = false)  {a0 : Nat} {r : Int32} {d1 : ix_D2}  {x1 : Int32} {d : ix_D2} (h : f_X11_export_10 n z  a0 x1 d = some (r, d1)) : ix_G p l e (ix_rm 4 87 0 0) s m args below meth c (MQ below (ix_Post K (some (.int r)) (ix_w z d1)) args s 0 0 (ix_A K)) K 2 0 0 10 [(0, .ref (K.2.2.1 + a0)), (1, .int x1)] [] (ix_w z d) := by
  have key : ∀ (f : Nat) (x1 : Int32) (d : ix_D2), ix_fix (b_X11_export_10 n z  a0) (fun _ _ => none) f x1 d = some (r, d1) → ix_G p l e (ix_rm 4 87 0 0) s m args below meth c (MQ below (ix_Post K (some (.int r)) (ix_w z d1)) args s 0 0 (ix_A K)) K 2 0 0 10 [(0, .ref (K.2.2.1 + a0)), (1, .int x1)] [] (ix_w z d) := by
    intro f
    induction f with
    | zero =>
      intro x1 d h
      have h : (none : Option (Int32 × ix_D2)) = some (r, d1) := h
      cases h
    | succ f ih =>
      intro x1 d h
      exact tb_X11_export_10 hKp X hr hlk (rec10 := ix_fix (b_X11_export_10 n z  a0) (fun _ _ => none) f)  ih h
  exact key n x1 d h
set_option maxRecDepth 20000 in
theorem c_X11_export {l : Launch} {K : ix_Cx} (hKp : ix_Kp K) {n : Nat} {z : ix_Z} {a0 : Nat} {d : ix_D2} {r : Int32} {d1 : ix_D2} (h : f_X11_export n z a0 d = some (r, d1)) : ix_M l K yX11_export cX11_export 2 (some .int) 4 87 0 0 [.ref (K.2.2.1 + a0)] (ix_w z d) (some (.int r)) (ix_w z d1) := by
  refine ix_met mf_X11_export hKp (Nat.le_of_ble_eq_true rfl) ?_
  intro p e s m args below meth c hr hlk hnm X
  have X : ix_X p s m args c K cX11_export RX11 2 := X
  show ix_G p l e (ix_rm 4 87 0 0) s m args below meth c (MQ below (ix_Post K (some (.int r)) (ix_w z d1)) args s 0 0 (ix_A K)) K 2 0 0 0 [(0, .ref (K.2.2.1 + a0))] [] (ix_w z d)
  unfold f_X11_export at h
  refine ix_aload_n (i := 0) (j := 0) X (ix_tb_at tb_X11_export 0 rfl) rfl rfl (pc1 := 1) rfl ?_
  obtain ⟨k_1, h⟩ := ix_ck_some h
  obtain ⟨b_2, q_3, h⟩ := ix_bd1_ex h
  refine iz_getR X fl_RX11_21 k_1 q_3 (ix_tb_at tb_X11_export 1 rfl) (pc1 := 4) rfl ?_
  refine ix_iconst (v := 0) X (ix_tb_at tb_X11_export 2 rfl) (by decide) (pc1 := 5) rfl ?_
  obtain ⟨k_4, h⟩ := ix_ck_some h
  obtain ⟨d_5, e_6, h⟩ := ix_lt_ex h
  refine iz_putI X fp_RX11_217 k_4 (ix_tb_at tb_X11_export 3 rfl) e_6 (pc1 := 8) rfl ?_
  refine ix_iconst (v := 0) X (ix_tb_at tb_X11_export 4 rfl) (by decide) (pc1 := 9) rfl ?_
  refine ix_istore_n (i := 1) (L1 := [(1, .int 0), (0, .ref (K.2.2.1 + a0))]) X (ix_tb_at tb_X11_export 5 rfl) rfl (Nat.le_of_ble_eq_true rfl) rfl (pc1 := 10) rfl ?_
  refine ix_sub (L1 := [(0, .ref (K.2.2.1 + a0)), (1, .int 0)]) [1, 0] rfl ?_
  exact t_X11_export_10 hKp X hr hlk  h
def tab_X11_out : List (Nat × Instr × Nat) := [(0, .iload_n 1, 1), (1, .ifCond .lt 30, 3), (4, .iload_n 1, 1), (5, .aload_n 0, 1), (6, .getfield 21, 3), (9, .getfield 217, 3), (12, .if_icmp .ge 19, 3), (15, .aload_n 0, 1), (16, .getfield 21, 3), (19, .getfield 231, 3), (22, .iload_n 1, 1), (23, .baload, 1), (24, .sipush 255, 3), (27, .iand, 1), (28, .goto 6, 3), (31, .sipush (-1005), 3), (34, .ireturn, 1)]
theorem tb_X11_out : ix_tab cX11_out tab_X11_out := by
  unfold ix_tab
  decide +kernel
noncomputable def f_X11_out_31 (n : Nat) (z : ix_Z)   (d : ix_D2) : Option (Int32 × ix_D2) :=
  some ((-1005), d)
noncomputable def f_X11_out (n : Nat) (z : ix_Z) (a0 : Nat) (x1 : Int32) (d : ix_D2) : Option (Int32 × ix_D2) :=
  ix_if (x1 < 0) (f_X11_out_31 n z   d) (ix_ck (ix_ok z [10] a0) (ix_bd1 (z.1 a0 2) (fun b_3 => ix_ck (ix_ok z [4] b_3) (ix_if (d.1 b_3 3 ≤ x1) (f_X11_out_31 n z   d) (ix_bd1 (z.1 b_3 2) (fun b_7 => ix_ck (ix_ix z 21 b_7 x1) (some ((d.1 b_7 (ix_n x1)) &&& 255, d))))))))
set_option maxRecDepth 20000 in
theorem t_X11_out_31 {l : Launch} {p : Program} {e : Env} {s : State} {m : MethodId} {args : Array Value} {below : List Frame} {meth : Method} {c : Code} {K : ix_Cx} (hKp : ix_Kp K) {n : Nat} {z : ix_Z} (X : ix_X p s m args c K cX11_out RX11 2) (hr : meth.sig.returnType = (some .int)) (hlk : meth.locks = false)   {r : Int32} {d1 : ix_D2}  {d : ix_D2} (h : f_X11_out_31 n z   d = some (r, d1)) : ix_G p l e (ix_rm 0 0 0 0) s m args below meth c (MQ below (ix_Post K (some (.int r)) (ix_w z d1)) args s 0 0 (ix_A K)) K 2 0 0 31 [] [] (ix_w z d) := by
  unfold f_X11_out_31 at h
  refine ix_sipush (v := (-1005)) X (ix_tb_at tb_X11_out 15 rfl) (by decide) (pc1 := 34) rfl ?_
  exact ix_iret X hr hlk (ix_r2 (f := fun r => some (.int r)) (g := ix_w z) h) (ix_tb_at tb_X11_out 16 rfl)
set_option maxRecDepth 20000 in
theorem c_X11_out {l : Launch} {K : ix_Cx} (hKp : ix_Kp K) {n : Nat} {z : ix_Z} {a0 : Nat} {x1 : Int32} {d : ix_D2} {r : Int32} {d1 : ix_D2} (h : f_X11_out n z a0 x1 d = some (r, d1)) : ix_M l K yX11_out cX11_out 2 (some .int) 0 0 0 0 [.ref (K.2.2.1 + a0), .int x1] (ix_w z d) (some (.int r)) (ix_w z d1) := by
  refine ix_met mf_X11_out hKp (Nat.le_of_ble_eq_true rfl) ?_
  intro p e s m args below meth c hr hlk hnm X
  have X : ix_X p s m args c K cX11_out RX11 2 := X
  show ix_G p l e (ix_rm 0 0 0 0) s m args below meth c (MQ below (ix_Post K (some (.int r)) (ix_w z d1)) args s 0 0 (ix_A K)) K 2 0 0 0 [(0, .ref (K.2.2.1 + a0)), (1, .int x1)] [] (ix_w z d)
  unfold f_X11_out at h
  refine ix_iload_n (i := 1) (j := 1) X (ix_tb_at tb_X11_out 0 rfl) rfl rfl (pc1 := 1) rfl ?_
  refine ix_if_lt (tgt := 31) X (ix_tb_at tb_X11_out 1 rfl) (by decide) (pc1 := 4) rfl (fun q_1 => ?_) (fun q_1 => ?_)
  · have h := ix_ift q_1 h
    refine ix_sub (L1 := []) [] rfl ?_
    exact t_X11_out_31 hKp X hr hlk  h
  · have h := ix_iff q_1 h
    refine ix_iload_n (i := 1) (j := 1) X (ix_tb_at tb_X11_out 2 rfl) rfl rfl (pc1 := 5) rfl ?_
    refine ix_aload_n (i := 0) (j := 0) X (ix_tb_at tb_X11_out 3 rfl) rfl rfl (pc1 := 6) rfl ?_
    obtain ⟨k_2, h⟩ := ix_ck_some h
    obtain ⟨b_3, q_4, h⟩ := ix_bd1_ex h
    refine iz_getR X fl_RX11_21 k_2 q_4 (ix_tb_at tb_X11_out 4 rfl) (pc1 := 9) rfl ?_
    obtain ⟨k_5, h⟩ := ix_ck_some h
    refine iz_getI X fl_RX11_217 k_5 (ix_tb_at tb_X11_out 5 rfl) (pc1 := 12) rfl ?_
    refine ix_icmp_ge (tgt := 31) X (ix_tb_at tb_X11_out 6 rfl) (by decide) (pc1 := 15) rfl (fun q_6 => ?_) (fun q_6 => ?_)
    · have h := ix_ift q_6 h
      refine ix_sub (L1 := []) [] rfl ?_
      exact t_X11_out_31 hKp X hr hlk  h
    · have h := ix_iff q_6 h
      refine ix_aload_n (i := 0) (j := 0) X (ix_tb_at tb_X11_out 7 rfl) rfl rfl (pc1 := 16) rfl ?_
      refine iz_getR X fl_RX11_21 k_2 q_4 (ix_tb_at tb_X11_out 8 rfl) (pc1 := 19) rfl ?_
      obtain ⟨b_7, q_8, h⟩ := ix_bd1_ex h
      refine iz_getR X fl_RX11_231 k_5 q_8 (ix_tb_at tb_X11_out 9 rfl) (pc1 := 22) rfl ?_
      refine ix_iload_n (i := 1) (j := 1) X (ix_tb_at tb_X11_out 10 rfl) rfl rfl (pc1 := 23) rfl ?_
      obtain ⟨k_9, h⟩ := ix_ck_some h
      refine iz_bald X k_9 (ix_tb_at tb_X11_out 11 rfl) (pc1 := 24) rfl ?_
      refine ix_sipush (v := 255) X (ix_tb_at tb_X11_out 12 rfl) (by decide) (pc1 := 27) rfl ?_
      refine ix_iand X (ix_tb_at tb_X11_out 13 rfl) (pc1 := 28) rfl ?_
      refine ix_goto (tgt := 34) X (ix_tb_at tb_X11_out 14 rfl) (by decide) ?_
      exact ix_iret X hr hlk (ix_r2 (f := fun r => some (.int r)) (g := ix_w z) h) (ix_tb_at tb_X11_out 16 rfl)
def tab_X11_assume : List (Nat × Instr × Nat) := [(0, .aload_n 0, 1), (1, .getfield 28, 3), (4, .iload_n 1, 1), (5, .invokevirtual 235, 3), (8, .istore_n 2, 1), (9, .iload_n 2, 1), (10, .ifCond .eq 9, 3), (13, .aload_n 0, 1), (14, .iload_n 2, 1), (15, .invokevirtual 73, 3), (18, .ireturn, 1), (19, .aload_n 0, 1), (20, .getfield 28, 3), (23, .iload_n 1, 1), (24, .invokevirtual 238, 3), (27, .ifCond .eq 11, 3), (30, .aload_n 0, 1), (31, .sipush (-1002), 3), (34, .invokevirtual 73, 3), (37, .ireturn, 1), (38, .aload_n 0, 1), (39, .getfield 28, 3), (42, .getfield 241, 3), (45, .bipush 20, 2), (47, .if_icmp .lt 11, 3), (50, .aload_n 0, 1), (51, .sipush (-1003), 3), (54, .invokevirtual 73, 3), (57, .ireturn, 1), (58, .aload_n 0, 1), (59, .iconst 0, 1), (60, .putfield 80, 3), (63, .aload_n 0, 1), (64, .getfield 28, 3), (67, .getfield 244, 3), (70, .aload_n 0, 1), (71, .getfield 28, 3), (74, .getfield 241, 3), (77, .iload_n 1, 1), (78, .iastore, 1), (79, .aload_n 0, 1), (80, .getfield 28, 3), (83, .dup, 1), (84, .getfield 241, 3), (87, .iconst 1, 1), (88, .iadd, 1), (89, .putfield 241, 3), (92, .aload_n 0, 1), (93, .getfield 28, 3), (96, .getfield 241, 3), (99, .ireturn, 1)]
theorem tb_X11_assume : ix_tab cX11_assume tab_X11_assume := by
  unfold ix_tab
  decide +kernel
noncomputable def f_X11_assume (n : Nat) (z : ix_Z) (a0 : Nat) (x1 : Int32) (d : ix_D2) : Option (Int32 × ix_D2) :=
  ix_ck (ix_ok z [10] a0) (ix_bd1 (z.1 a0 3) (fun b_2 => ix_ck (ix_ok z [2] b_2) (ix_bd2 (f_X2_look n z b_2 x1 d) (fun r_7 d_4 => ix_if (r_7 = 0) (ix_bd2 (f_X2_isAssumed n z b_2 x1 d_4) (fun r_11 d_9 => ix_if (r_11 = 0) (ix_if (d_9.1 b_2 7 < 20) (ix_lt (ix_di d_9 a0 14 0) (fun d_14 => ix_bd1 (z.1 b_2 3) (fun b_16 => ix_ck (ix_ix z 20 b_16 (d_14.1 b_2 7)) (ix_lt (ix_di d_14 b_16 (ix_n (d_14.1 b_2 7)) x1) (fun d_19 => ix_lt (ix_di d_19 b_2 7 ((d_19.1 b_2 7) + 1)) (fun d_21 => some (d_21.1 b_2 7, d_21))))))) (ix_bd2 (f_X11_refuse n z a0 ((-1003)) d_9) (fun r_25 d_23 => some (r_25, d_23)))) (ix_bd2 (f_X11_refuse n z a0 ((-1002)) d_9) (fun r_28 d_26 => some (r_28, d_26))))) (ix_bd2 (f_X11_refuse n z a0 r_7 d_4) (fun r_31 d_29 => some (r_31, d_29)))))))
set_option maxRecDepth 20000 in
theorem c_X11_assume {l : Launch} {K : ix_Cx} (hKp : ix_Kp K) {n : Nat} {z : ix_Z} {a0 : Nat} {x1 : Int32} {d : ix_D2} {r : Int32} {d1 : ix_D2} (h : f_X11_assume n z a0 x1 d = some (r, d1)) : ix_M l K yX11_assume cX11_assume 3 (some .int) 2 44 0 0 [.ref (K.2.2.1 + a0), .int x1] (ix_w z d) (some (.int r)) (ix_w z d1) := by
  refine ix_met mf_X11_assume hKp (Nat.le_of_ble_eq_true rfl) ?_
  intro p e s m args below meth c hr hlk hnm X
  have X : ix_X p s m args c K cX11_assume RX11 3 := X
  show ix_G p l e (ix_rm 2 44 0 0) s m args below meth c (MQ below (ix_Post K (some (.int r)) (ix_w z d1)) args s 0 0 (ix_A K)) K 3 0 0 0 [(0, .ref (K.2.2.1 + a0)), (1, .int x1)] [] (ix_w z d)
  unfold f_X11_assume at h
  refine ix_aload_n (i := 0) (j := 0) X (ix_tb_at tb_X11_assume 0 rfl) rfl rfl (pc1 := 1) rfl ?_
  obtain ⟨k_1, h⟩ := ix_ck_some h
  obtain ⟨b_2, q_3, h⟩ := ix_bd1_ex h
  refine iz_getR X fl_RX11_28 k_1 q_3 (ix_tb_at tb_X11_assume 1 rfl) (pc1 := 4) rfl ?_
  refine ix_iload_n (i := 1) (j := 1) X (ix_tb_at tb_X11_assume 2 rfl) rfl rfl (pc1 := 5) rfl ?_
  obtain ⟨k_6, h⟩ := ix_ck_some h
  obtain ⟨r_7, d_4, h_5, h⟩ := ix_bd2_ex h
  refine ix_callV (As := [.int x1]) (rest := []) (ci := 2) (T := TX2) (nf := 12) X mf_X2_look mi_X2_look ms_X2_look rfl (Nat.le_of_ble_eq_true rfl) ml_RX11_235 ⟨Nat.le_of_ble_eq_true rfl, Nat.le_of_ble_eq_true rfl⟩ ⟨Nat.le_of_ble_eq_true rfl, Nat.le_of_ble_eq_true rfl⟩ rfl (Nat.le_of_ble_eq_true rfl) (ix_tb_at tb_X11_assume 3 rfl) ⟨k_6.1, List.mem_singleton.mp k_6.2⟩ (c_X2_look hKp h_5) rfl (pc1 := 8) rfl ?_
  refine ix_istore_n (i := 2) (L1 := [(2, .int r_7), (0, .ref (K.2.2.1 + a0)), (1, .int x1)]) X (ix_tb_at tb_X11_assume 4 rfl) rfl (Nat.le_of_ble_eq_true rfl) rfl (pc1 := 9) rfl ?_
  refine ix_iload_n (i := 2) (j := 0) X (ix_tb_at tb_X11_assume 5 rfl) rfl rfl (pc1 := 10) rfl ?_
  refine ix_if_eq (tgt := 19) X (ix_tb_at tb_X11_assume 6 rfl) (by decide) (pc1 := 13) rfl (fun q_8 => ?_) (fun q_8 => ?_)
  · have h := ix_ift q_8 h
    refine ix_aload_n (i := 0) (j := 1) X (ix_tb_at tb_X11_assume 11 rfl) rfl rfl (pc1 := 20) rfl ?_
    refine iz_getR X fl_RX11_28 k_1 q_3 (ix_tb_at tb_X11_assume 12 rfl) (pc1 := 23) rfl ?_
    refine ix_iload_n (i := 1) (j := 2) X (ix_tb_at tb_X11_assume 13 rfl) rfl rfl (pc1 := 24) rfl ?_
    obtain ⟨r_11, d_9, h_10, h⟩ := ix_bd2_ex h
    refine ix_callV (As := [.int x1]) (rest := []) (ci := 2) (T := TX2) (nf := 12) X mf_X2_isAssumed mi_X2_isAssumed ms_X2_isAssumed rfl (Nat.le_of_ble_eq_true rfl) ml_RX11_238 ⟨Nat.le_of_ble_eq_true rfl, Nat.le_of_ble_eq_true rfl⟩ ⟨Nat.le_of_ble_eq_true rfl, Nat.le_of_ble_eq_true rfl⟩ rfl (Nat.le_of_ble_eq_true rfl) (ix_tb_at tb_X11_assume 14 rfl) ⟨k_6.1, List.mem_singleton.mp k_6.2⟩ (c_X2_isAssumed hKp h_10) rfl (pc1 := 27) rfl ?_
    refine ix_if_eq (tgt := 38) X (ix_tb_at tb_X11_assume 15 rfl) (by decide) (pc1 := 30) rfl (fun q_12 => ?_) (fun q_12 => ?_)
    · have h := ix_ift q_12 h
      refine ix_aload_n (i := 0) (j := 1) X (ix_tb_at tb_X11_assume 20 rfl) rfl rfl (pc1 := 39) rfl ?_
      refine iz_getR X fl_RX11_28 k_1 q_3 (ix_tb_at tb_X11_assume 21 rfl) (pc1 := 42) rfl ?_
      refine iz_getI X fl_RX11_241 k_6 (ix_tb_at tb_X11_assume 22 rfl) (pc1 := 45) rfl ?_
      refine ix_bipush (v := 20) X (ix_tb_at tb_X11_assume 23 rfl) (by decide) (pc1 := 47) rfl ?_
      refine ix_icmp_lt (tgt := 58) X (ix_tb_at tb_X11_assume 24 rfl) (by decide) (pc1 := 50) rfl (fun q_13 => ?_) (fun q_13 => ?_)
      · have h := ix_ift q_13 h
        refine ix_aload_n (i := 0) (j := 1) X (ix_tb_at tb_X11_assume 29 rfl) rfl rfl (pc1 := 59) rfl ?_
        refine ix_iconst (v := 0) X (ix_tb_at tb_X11_assume 30 rfl) (by decide) (pc1 := 60) rfl ?_
        obtain ⟨d_14, e_15, h⟩ := ix_lt_ex h
        refine iz_putZ X fp_RX11_80 k_1 (ix_tb_at tb_X11_assume 31 rfl) (by decide) e_15 (pc1 := 63) rfl ?_
        refine ix_aload_n (i := 0) (j := 1) X (ix_tb_at tb_X11_assume 32 rfl) rfl rfl (pc1 := 64) rfl ?_
        refine iz_getR X fl_RX11_28 k_1 q_3 (ix_tb_at tb_X11_assume 33 rfl) (pc1 := 67) rfl ?_
        obtain ⟨b_16, q_17, h⟩ := ix_bd1_ex h
        refine iz_getR X fl_RX11_244 k_6 q_17 (ix_tb_at tb_X11_assume 34 rfl) (pc1 := 70) rfl ?_
        refine ix_aload_n (i := 0) (j := 1) X (ix_tb_at tb_X11_assume 35 rfl) rfl rfl (pc1 := 71) rfl ?_
        refine iz_getR X fl_RX11_28 k_1 q_3 (ix_tb_at tb_X11_assume 36 rfl) (pc1 := 74) rfl ?_
        refine iz_getI X fl_RX11_241 k_6 (ix_tb_at tb_X11_assume 37 rfl) (pc1 := 77) rfl ?_
        refine ix_iload_n (i := 1) (j := 2) X (ix_tb_at tb_X11_assume 38 rfl) rfl rfl (pc1 := 78) rfl ?_
        obtain ⟨k_18, h⟩ := ix_ck_some h
        obtain ⟨d_19, e_20, h⟩ := ix_lt_ex h
        refine iz_iast X k_18 (ix_tb_at tb_X11_assume 39 rfl) e_20 (pc1 := 79) rfl ?_
        refine ix_aload_n (i := 0) (j := 1) X (ix_tb_at tb_X11_assume 40 rfl) rfl rfl (pc1 := 80) rfl ?_
        refine iz_getR X fl_RX11_28 k_1 q_3 (ix_tb_at tb_X11_assume 41 rfl) (pc1 := 83) rfl ?_
        refine ix_dup X (ix_tb_at tb_X11_assume 42 rfl) rfl (pc1 := 84) rfl ?_
        refine iz_getI X fl_RX11_241 k_6 (ix_tb_at tb_X11_assume 43 rfl) (pc1 := 87) rfl ?_
        refine ix_iconst (v := 1) X (ix_tb_at tb_X11_assume 44 rfl) (by decide) (pc1 := 88) rfl ?_
        refine ix_iadd X (ix_tb_at tb_X11_assume 45 rfl) (pc1 := 89) rfl ?_
        obtain ⟨d_21, e_22, h⟩ := ix_lt_ex h
        refine iz_putI X fp_RX11_241 k_6 (ix_tb_at tb_X11_assume 46 rfl) e_22 (pc1 := 92) rfl ?_
        refine ix_aload_n (i := 0) (j := 1) X (ix_tb_at tb_X11_assume 47 rfl) rfl rfl (pc1 := 93) rfl ?_
        refine iz_getR X fl_RX11_28 k_1 q_3 (ix_tb_at tb_X11_assume 48 rfl) (pc1 := 96) rfl ?_
        refine iz_getI X fl_RX11_241 k_6 (ix_tb_at tb_X11_assume 49 rfl) (pc1 := 99) rfl ?_
        exact ix_iret X hr hlk (ix_r2 (f := fun r => some (.int r)) (g := ix_w z) h) (ix_tb_at tb_X11_assume 50 rfl)
      · have h := ix_iff q_13 h
        refine ix_aload_n (i := 0) (j := 1) X (ix_tb_at tb_X11_assume 25 rfl) rfl rfl (pc1 := 51) rfl ?_
        refine ix_sipush (v := (-1003)) X (ix_tb_at tb_X11_assume 26 rfl) (by decide) (pc1 := 54) rfl ?_
        obtain ⟨r_25, d_23, h_24, h⟩ := ix_bd2_ex h
        refine ix_callV (As := [.int ((-1003))]) (rest := []) (ci := 10) (T := TX11) (nf := 18) X mf_X11_refuse mi_X11_refuse ms_X11_refuse rfl (Nat.le_of_ble_eq_true rfl) ml_RX11_73 ⟨Nat.le_of_ble_eq_true rfl, Nat.le_of_ble_eq_true rfl⟩ ⟨Nat.le_of_ble_eq_true rfl, Nat.le_of_ble_eq_true rfl⟩ rfl (Nat.le_of_ble_eq_true rfl) (ix_tb_at tb_X11_assume 27 rfl) ⟨k_1.1, List.mem_singleton.mp k_1.2⟩ (c_X11_refuse hKp h_24) rfl (pc1 := 57) rfl ?_
        exact ix_iret X hr hlk (ix_r2 (f := fun r => some (.int r)) (g := ix_w z) h) (ix_tb_at tb_X11_assume 28 rfl)
    · have h := ix_iff q_12 h
      refine ix_aload_n (i := 0) (j := 1) X (ix_tb_at tb_X11_assume 16 rfl) rfl rfl (pc1 := 31) rfl ?_
      refine ix_sipush (v := (-1002)) X (ix_tb_at tb_X11_assume 17 rfl) (by decide) (pc1 := 34) rfl ?_
      obtain ⟨r_28, d_26, h_27, h⟩ := ix_bd2_ex h
      refine ix_callV (As := [.int ((-1002))]) (rest := []) (ci := 10) (T := TX11) (nf := 18) X mf_X11_refuse mi_X11_refuse ms_X11_refuse rfl (Nat.le_of_ble_eq_true rfl) ml_RX11_73 ⟨Nat.le_of_ble_eq_true rfl, Nat.le_of_ble_eq_true rfl⟩ ⟨Nat.le_of_ble_eq_true rfl, Nat.le_of_ble_eq_true rfl⟩ rfl (Nat.le_of_ble_eq_true rfl) (ix_tb_at tb_X11_assume 18 rfl) ⟨k_1.1, List.mem_singleton.mp k_1.2⟩ (c_X11_refuse hKp h_27) rfl (pc1 := 37) rfl ?_
      exact ix_iret X hr hlk (ix_r2 (f := fun r => some (.int r)) (g := ix_w z) h) (ix_tb_at tb_X11_assume 19 rfl)
  · have h := ix_iff q_8 h
    refine ix_aload_n (i := 0) (j := 1) X (ix_tb_at tb_X11_assume 7 rfl) rfl rfl (pc1 := 14) rfl ?_
    refine ix_iload_n (i := 2) (j := 0) X (ix_tb_at tb_X11_assume 8 rfl) rfl rfl (pc1 := 15) rfl ?_
    obtain ⟨r_31, d_29, h_30, h⟩ := ix_bd2_ex h
    refine ix_callV (As := [.int r_7]) (rest := []) (ci := 10) (T := TX11) (nf := 18) X mf_X11_refuse mi_X11_refuse ms_X11_refuse rfl (Nat.le_of_ble_eq_true rfl) ml_RX11_73 ⟨Nat.le_of_ble_eq_true rfl, Nat.le_of_ble_eq_true rfl⟩ ⟨Nat.le_of_ble_eq_true rfl, Nat.le_of_ble_eq_true rfl⟩ rfl (Nat.le_of_ble_eq_true rfl) (ix_tb_at tb_X11_assume 9 rfl) ⟨k_1.1, List.mem_singleton.mp k_1.2⟩ (c_X11_refuse hKp h_30) rfl (pc1 := 18) rfl ?_
    exact ix_iret X hr hlk (ix_r2 (f := fun r => some (.int r)) (g := ix_w z) h) (ix_tb_at tb_X11_assume 10 rfl)
def tab_X11_free : List (Nat × Instr × Nat) := [(0, .aload_n 0, 1), (1, .getfield 28, 3), (4, .getfield 241, 3), (7, .istore_n 1, 1), (8, .aload_n 0, 1), (9, .getfield 28, 3), (12, .iconst 0, 1), (13, .putfield 241, 3), (16, .aload_n 0, 1), (17, .iconst 0, 1), (18, .putfield 80, 3), (21, .iload_n 1, 1), (22, .ireturn, 1)]
theorem tb_X11_free : ix_tab cX11_free tab_X11_free := by
  unfold ix_tab
  decide +kernel
noncomputable def f_X11_free (n : Nat) (z : ix_Z) (a0 : Nat) (d : ix_D2) : Option (Int32 × ix_D2) :=
  ix_ck (ix_ok z [10] a0) (ix_bd1 (z.1 a0 3) (fun b_2 => ix_ck (ix_ok z [2] b_2) (ix_lt (d.1 b_2 7) (fun x1_5 => ix_lt (ix_di d b_2 7 0) (fun d_7 => ix_lt (ix_di d_7 a0 14 0) (fun d_9 => some (x1_5, d_9)))))))
set_option maxRecDepth 20000 in
theorem c_X11_free {l : Launch} {K : ix_Cx} (hKp : ix_Kp K) {n : Nat} {z : ix_Z} {a0 : Nat} {d : ix_D2} {r : Int32} {d1 : ix_D2} (h : f_X11_free n z a0 d = some (r, d1)) : ix_M l K yX11_free cX11_free 2 (some .int) 0 0 0 0 [.ref (K.2.2.1 + a0)] (ix_w z d) (some (.int r)) (ix_w z d1) := by
  refine ix_met mf_X11_free hKp (Nat.le_of_ble_eq_true rfl) ?_
  intro p e s m args below meth c hr hlk hnm X
  have X : ix_X p s m args c K cX11_free RX11 2 := X
  show ix_G p l e (ix_rm 0 0 0 0) s m args below meth c (MQ below (ix_Post K (some (.int r)) (ix_w z d1)) args s 0 0 (ix_A K)) K 2 0 0 0 [(0, .ref (K.2.2.1 + a0))] [] (ix_w z d)
  unfold f_X11_free at h
  refine ix_aload_n (i := 0) (j := 0) X (ix_tb_at tb_X11_free 0 rfl) rfl rfl (pc1 := 1) rfl ?_
  obtain ⟨k_1, h⟩ := ix_ck_some h
  obtain ⟨b_2, q_3, h⟩ := ix_bd1_ex h
  refine iz_getR X fl_RX11_28 k_1 q_3 (ix_tb_at tb_X11_free 1 rfl) (pc1 := 4) rfl ?_
  obtain ⟨k_4, h⟩ := ix_ck_some h
  refine iz_getI X fl_RX11_241 k_4 (ix_tb_at tb_X11_free 2 rfl) (pc1 := 7) rfl ?_
  obtain ⟨x1_5, e_6, h⟩ := ix_lt_ex h
  refine ix_nmi e_6 ?_
  refine ix_istore_n (i := 1) (L1 := [(1, .int x1_5), (0, .ref (K.2.2.1 + a0))]) X (ix_tb_at tb_X11_free 3 rfl) rfl (Nat.le_of_ble_eq_true rfl) rfl (pc1 := 8) rfl ?_
  refine ix_aload_n (i := 0) (j := 1) X (ix_tb_at tb_X11_free 4 rfl) rfl rfl (pc1 := 9) rfl ?_
  refine iz_getR X fl_RX11_28 k_1 q_3 (ix_tb_at tb_X11_free 5 rfl) (pc1 := 12) rfl ?_
  refine ix_iconst (v := 0) X (ix_tb_at tb_X11_free 6 rfl) (by decide) (pc1 := 13) rfl ?_
  obtain ⟨d_7, e_8, h⟩ := ix_lt_ex h
  refine iz_putI X fp_RX11_241 k_4 (ix_tb_at tb_X11_free 7 rfl) e_8 (pc1 := 16) rfl ?_
  refine ix_aload_n (i := 0) (j := 1) X (ix_tb_at tb_X11_free 8 rfl) rfl rfl (pc1 := 17) rfl ?_
  refine ix_iconst (v := 0) X (ix_tb_at tb_X11_free 9 rfl) (by decide) (pc1 := 18) rfl ?_
  obtain ⟨d_9, e_10, h⟩ := ix_lt_ex h
  refine iz_putZ X fp_RX11_80 k_1 (ix_tb_at tb_X11_free 10 rfl) (by decide) e_10 (pc1 := 21) rfl ?_
  refine ix_iload_n (i := 1) (j := 0) X (ix_tb_at tb_X11_free 11 rfl) rfl rfl (pc1 := 22) rfl ?_
  exact ix_iret X hr hlk (ix_r2 (f := fun r => some (.int r)) (g := ix_w z) h) (ix_tb_at tb_X11_free 12 rfl)
def tab_X11_isName : List (Nat × Instr × Nat) := [(0, .iload_n 1, 1), (1, .iconst 1, 1), (2, .if_icmp .lt 18, 3), (5, .iload_n 1, 1), (6, .aload_n 0, 1), (7, .getfield 28, 3), (10, .getfield 77, 3), (13, .if_icmp .gt 7, 3), (16, .iconst 1, 1), (17, .goto 4, 3), (20, .iconst 0, 1), (21, .ireturn, 1)]
theorem tb_X11_isName : ix_tab cX11_isName tab_X11_isName := by
  unfold ix_tab
  decide +kernel
noncomputable def f_X11_isName (n : Nat) (z : ix_Z) (a0 : Nat) (x1 : Int32) (d : ix_D2) : Option (Int32 × ix_D2) :=
  ix_if (x1 < 1) (some (0, d)) (ix_ck (ix_ok z [10] a0) (ix_bd1 (z.1 a0 3) (fun b_3 => ix_ck (ix_ok z [2] b_3) (ix_if (d.1 b_3 5 < x1) (some (0, d)) (some (1, d))))))
set_option maxRecDepth 20000 in
theorem c_X11_isName {l : Launch} {K : ix_Cx} (hKp : ix_Kp K) {n : Nat} {z : ix_Z} {a0 : Nat} {x1 : Int32} {d : ix_D2} {r : Int32} {d1 : ix_D2} (h : f_X11_isName n z a0 x1 d = some (r, d1)) : ix_M l K yX11_isName cX11_isName 2 (some .boolean) 0 0 0 0 [.ref (K.2.2.1 + a0), .int x1] (ix_w z d) (some (.int r)) (ix_w z d1) := by
  refine ix_met mf_X11_isName hKp (Nat.le_of_ble_eq_true rfl) ?_
  intro p e s m args below meth c hr hlk hnm X
  have X : ix_X p s m args c K cX11_isName RX11 2 := X
  show ix_G p l e (ix_rm 0 0 0 0) s m args below meth c (MQ below (ix_Post K (some (.int r)) (ix_w z d1)) args s 0 0 (ix_A K)) K 2 0 0 0 [(0, .ref (K.2.2.1 + a0)), (1, .int x1)] [] (ix_w z d)
  unfold f_X11_isName at h
  refine ix_iload_n (i := 1) (j := 1) X (ix_tb_at tb_X11_isName 0 rfl) rfl rfl (pc1 := 1) rfl ?_
  refine ix_iconst (v := 1) X (ix_tb_at tb_X11_isName 1 rfl) (by decide) (pc1 := 2) rfl ?_
  refine ix_icmp_lt (tgt := 20) X (ix_tb_at tb_X11_isName 2 rfl) (by decide) (pc1 := 5) rfl (fun q_1 => ?_) (fun q_1 => ?_)
  · have h := ix_ift q_1 h
    refine ix_iconst (v := 0) X (ix_tb_at tb_X11_isName 10 rfl) (by decide) (pc1 := 21) rfl ?_
    exact ix_zret X hr hlk (by decide) (ix_r2 (f := fun r => some (.int r)) (g := ix_w z) h) (ix_tb_at tb_X11_isName 11 rfl)
  · have h := ix_iff q_1 h
    refine ix_iload_n (i := 1) (j := 1) X (ix_tb_at tb_X11_isName 3 rfl) rfl rfl (pc1 := 6) rfl ?_
    refine ix_aload_n (i := 0) (j := 0) X (ix_tb_at tb_X11_isName 4 rfl) rfl rfl (pc1 := 7) rfl ?_
    obtain ⟨k_2, h⟩ := ix_ck_some h
    obtain ⟨b_3, q_4, h⟩ := ix_bd1_ex h
    refine iz_getR X fl_RX11_28 k_2 q_4 (ix_tb_at tb_X11_isName 5 rfl) (pc1 := 10) rfl ?_
    obtain ⟨k_5, h⟩ := ix_ck_some h
    refine iz_getI X fl_RX11_77 k_5 (ix_tb_at tb_X11_isName 6 rfl) (pc1 := 13) rfl ?_
    refine ix_icmp_gt (tgt := 20) X (ix_tb_at tb_X11_isName 7 rfl) (by decide) (pc1 := 16) rfl (fun q_6 => ?_) (fun q_6 => ?_)
    · have h := ix_ift q_6 h
      refine ix_iconst (v := 0) X (ix_tb_at tb_X11_isName 10 rfl) (by decide) (pc1 := 21) rfl ?_
      exact ix_zret X hr hlk (by decide) (ix_r2 (f := fun r => some (.int r)) (g := ix_w z) h) (ix_tb_at tb_X11_isName 11 rfl)
    · have h := ix_iff q_6 h
      refine ix_iconst (v := 1) X (ix_tb_at tb_X11_isName 8 rfl) (by decide) (pc1 := 17) rfl ?_
      refine ix_goto (tgt := 21) X (ix_tb_at tb_X11_isName 9 rfl) (by decide) ?_
      exact ix_zret X hr hlk (by decide) (ix_r2 (f := fun r => some (.int r)) (g := ix_w z) h) (ix_tb_at tb_X11_isName 11 rfl)
def tab_X11_weight : List (Nat × Instr × Nat) := [(0, .aload_n 0, 1), (1, .iload_n 1, 1), (2, .invokevirtual 247, 3), (5, .ifCond .eq 14, 3), (8, .iload_n 2, 1), (9, .ifCond .lt 10, 3), (12, .iload_n 2, 1), (13, .sipush 1000, 3), (16, .if_icmp .le 11, 3), (19, .aload_n 0, 1), (20, .sipush (-1001), 3), (23, .invokevirtual 73, 3), (26, .ireturn, 1), (27, .aload_n 0, 1), (28, .getfield 28, 3), (31, .getfield 250, 3), (34, .iload_n 1, 1), (35, .iaload, 1), (36, .istore_n 3, 1), (37, .aload_n 0, 1), (38, .getfield 28, 3), (41, .getfield 250, 3), (44, .iload_n 1, 1), (45, .iload_n 2, 1), (46, .iastore, 1), (47, .aload_n 0, 1), (48, .iconst 0, 1), (49, .putfield 80, 3), (52, .iload_n 3, 1), (53, .ireturn, 1)]
theorem tb_X11_weight : ix_tab cX11_weight tab_X11_weight := by
  unfold ix_tab
  decide +kernel
noncomputable def f_X11_weight_19 (n : Nat) (z : ix_Z)  (a0 : Nat) (d : ix_D2) : Option (Int32 × ix_D2) :=
  ix_ck (ix_ok z [10] a0) (ix_bd2 (f_X11_refuse n z a0 ((-1001)) d) (fun r_9 d_6 => some (r_9, d_6)))
noncomputable def f_X11_weight (n : Nat) (z : ix_Z) (a0 : Nat) (x1 : Int32) (x2 : Int32) (d : ix_D2) : Option (Int32 × ix_D2) :=
  ix_ck (ix_ok z [10] a0) (ix_bd2 (f_X11_isName n z a0 x1 d) (fun r_4 d_1 => ix_if (r_4 = 0) (f_X11_weight_19 n z  a0 d_1) (ix_if (x2 < 0) (f_X11_weight_19 n z  a0 d_1) (ix_if (x2 ≤ 1000) (ix_bd1 (z.1 a0 3) (fun b_12 => ix_ck (ix_ok z [2] b_12) (ix_bd1 (z.1 b_12 1) (fun b_15 => ix_ck (ix_ix z 20 b_15 x1) (ix_lt (d_1.1 b_15 (ix_n x1)) (fun x3_18 => ix_lt (ix_di d_1 b_15 (ix_n x1) x2) (fun d_20 => ix_lt (ix_di d_20 a0 14 0) (fun d_22 => some (x3_18, d_22))))))))) (f_X11_weight_19 n z  a0 d_1)))))
set_option maxRecDepth 20000 in
theorem t_X11_weight_19 {l : Launch} {p : Program} {e : Env} {s : State} {m : MethodId} {args : Array Value} {below : List Frame} {meth : Method} {c : Code} {K : ix_Cx} (hKp : ix_Kp K) {n : Nat} {z : ix_Z} (X : ix_X p s m args c K cX11_weight RX11 4) (hr : meth.sig.returnType = (some .int)) (hlk : meth.locks = false)  {a0 : Nat} {r : Int32} {d1 : ix_D2}  {d : ix_D2} (h : f_X11_weight_19 n z  a0 d = some (r, d1)) : ix_G p l e (ix_rm 1 21 0 0) s m args below meth c (MQ below (ix_Post K (some (.int r)) (ix_w z d1)) args s 0 0 (ix_A K)) K 4 0 0 19 [(0, .ref (K.2.2.1 + a0))] [] (ix_w z d) := by
  unfold f_X11_weight_19 at h
  refine ix_aload_n (i := 0) (j := 0) X (ix_tb_at tb_X11_weight 9 rfl) rfl rfl (pc1 := 20) rfl ?_
  refine ix_sipush (v := (-1001)) X (ix_tb_at tb_X11_weight 10 rfl) (by decide) (pc1 := 23) rfl ?_
  obtain ⟨k_8, h⟩ := ix_ck_some h
  obtain ⟨r_9, d_6, h_7, h⟩ := ix_bd2_ex h
  refine ix_callV (As := [.int ((-1001))]) (rest := []) (ci := 10) (T := TX11) (nf := 18) X mf_X11_refuse mi_X11_refuse ms_X11_refuse rfl (Nat.le_of_ble_eq_true rfl) ml_RX11_73 ⟨Nat.le_of_ble_eq_true rfl, Nat.le_of_ble_eq_true rfl⟩ ⟨Nat.le_of_ble_eq_true rfl, Nat.le_of_ble_eq_true rfl⟩ rfl (Nat.le_of_ble_eq_true rfl) (ix_tb_at tb_X11_weight 11 rfl) ⟨k_8.1, List.mem_singleton.mp k_8.2⟩ (c_X11_refuse hKp h_7) rfl (pc1 := 26) rfl ?_
  exact ix_iret X hr hlk (ix_r2 (f := fun r => some (.int r)) (g := ix_w z) h) (ix_tb_at tb_X11_weight 12 rfl)
set_option maxRecDepth 20000 in
theorem c_X11_weight {l : Launch} {K : ix_Cx} (hKp : ix_Kp K) {n : Nat} {z : ix_Z} {a0 : Nat} {x1 : Int32} {x2 : Int32} {d : ix_D2} {r : Int32} {d1 : ix_D2} (h : f_X11_weight n z a0 x1 x2 d = some (r, d1)) : ix_M l K yX11_weight cX11_weight 4 (some .int) 1 21 0 0 [.ref (K.2.2.1 + a0), .int x1, .int x2] (ix_w z d) (some (.int r)) (ix_w z d1) := by
  refine ix_met mf_X11_weight hKp (Nat.le_of_ble_eq_true rfl) ?_
  intro p e s m args below meth c hr hlk hnm X
  have X : ix_X p s m args c K cX11_weight RX11 4 := X
  show ix_G p l e (ix_rm 1 21 0 0) s m args below meth c (MQ below (ix_Post K (some (.int r)) (ix_w z d1)) args s 0 0 (ix_A K)) K 4 0 0 0 [(0, .ref (K.2.2.1 + a0)), (1, .int x1), (2, .int x2)] [] (ix_w z d)
  unfold f_X11_weight at h
  refine ix_aload_n (i := 0) (j := 0) X (ix_tb_at tb_X11_weight 0 rfl) rfl rfl (pc1 := 1) rfl ?_
  refine ix_iload_n (i := 1) (j := 1) X (ix_tb_at tb_X11_weight 1 rfl) rfl rfl (pc1 := 2) rfl ?_
  obtain ⟨k_3, h⟩ := ix_ck_some h
  obtain ⟨r_4, d_1, h_2, h⟩ := ix_bd2_ex h
  refine ix_callV (As := [.int x1]) (rest := []) (ci := 10) (T := TX11) (nf := 18) X mf_X11_isName mi_X11_isName ms_X11_isName rfl (Nat.le_of_ble_eq_true rfl) ml_RX11_247 ⟨Nat.le_of_ble_eq_true rfl, Nat.le_of_ble_eq_true rfl⟩ ⟨Nat.le_of_ble_eq_true rfl, Nat.le_of_ble_eq_true rfl⟩ rfl (Nat.le_of_ble_eq_true rfl) (ix_tb_at tb_X11_weight 2 rfl) ⟨k_3.1, List.mem_singleton.mp k_3.2⟩ (c_X11_isName hKp h_2) rfl (pc1 := 5) rfl ?_
  refine ix_if_eq (tgt := 19) X (ix_tb_at tb_X11_weight 3 rfl) (by decide) (pc1 := 8) rfl (fun q_5 => ?_) (fun q_5 => ?_)
  · have h := ix_ift q_5 h
    refine ix_sub (L1 := [(0, .ref (K.2.2.1 + a0))]) [0] rfl ?_
    exact t_X11_weight_19 hKp X hr hlk  h
  · have h := ix_iff q_5 h
    refine ix_iload_n (i := 2) (j := 2) X (ix_tb_at tb_X11_weight 4 rfl) rfl rfl (pc1 := 9) rfl ?_
    refine ix_if_lt (tgt := 19) X (ix_tb_at tb_X11_weight 5 rfl) (by decide) (pc1 := 12) rfl (fun q_10 => ?_) (fun q_10 => ?_)
    · have h := ix_ift q_10 h
      refine ix_sub (L1 := [(0, .ref (K.2.2.1 + a0))]) [0] rfl ?_
      exact t_X11_weight_19 hKp X hr hlk  h
    · have h := ix_iff q_10 h
      refine ix_iload_n (i := 2) (j := 2) X (ix_tb_at tb_X11_weight 6 rfl) rfl rfl (pc1 := 13) rfl ?_
      refine ix_sipush (v := 1000) X (ix_tb_at tb_X11_weight 7 rfl) (by decide) (pc1 := 16) rfl ?_
      refine ix_icmp_le (tgt := 27) X (ix_tb_at tb_X11_weight 8 rfl) (by decide) (pc1 := 19) rfl (fun q_11 => ?_) (fun q_11 => ?_)
      · have h := ix_ift q_11 h
        refine ix_aload_n (i := 0) (j := 0) X (ix_tb_at tb_X11_weight 13 rfl) rfl rfl (pc1 := 28) rfl ?_
        obtain ⟨b_12, q_13, h⟩ := ix_bd1_ex h
        refine iz_getR X fl_RX11_28 k_3 q_13 (ix_tb_at tb_X11_weight 14 rfl) (pc1 := 31) rfl ?_
        obtain ⟨k_14, h⟩ := ix_ck_some h
        obtain ⟨b_15, q_16, h⟩ := ix_bd1_ex h
        refine iz_getR X fl_RX11_250 k_14 q_16 (ix_tb_at tb_X11_weight 15 rfl) (pc1 := 34) rfl ?_
        refine ix_iload_n (i := 1) (j := 1) X (ix_tb_at tb_X11_weight 16 rfl) rfl rfl (pc1 := 35) rfl ?_
        obtain ⟨k_17, h⟩ := ix_ck_some h
        refine iz_iald X k_17 (ix_tb_at tb_X11_weight 17 rfl) (pc1 := 36) rfl ?_
        obtain ⟨x3_18, e_19, h⟩ := ix_lt_ex h
        refine ix_nmi e_19 ?_
        refine ix_istore_n (i := 3) (L1 := [(3, .int x3_18), (0, .ref (K.2.2.1 + a0)), (1, .int x1), (2, .int x2)]) X (ix_tb_at tb_X11_weight 18 rfl) rfl (Nat.le_of_ble_eq_true rfl) rfl (pc1 := 37) rfl ?_
        refine ix_aload_n (i := 0) (j := 1) X (ix_tb_at tb_X11_weight 19 rfl) rfl rfl (pc1 := 38) rfl ?_
        refine iz_getR X fl_RX11_28 k_3 q_13 (ix_tb_at tb_X11_weight 20 rfl) (pc1 := 41) rfl ?_
        refine iz_getR X fl_RX11_250 k_14 q_16 (ix_tb_at tb_X11_weight 21 rfl) (pc1 := 44) rfl ?_
        refine ix_iload_n (i := 1) (j := 2) X (ix_tb_at tb_X11_weight 22 rfl) rfl rfl (pc1 := 45) rfl ?_
        refine ix_iload_n (i := 2) (j := 3) X (ix_tb_at tb_X11_weight 23 rfl) rfl rfl (pc1 := 46) rfl ?_
        obtain ⟨d_20, e_21, h⟩ := ix_lt_ex h
        refine iz_iast X k_17 (ix_tb_at tb_X11_weight 24 rfl) e_21 (pc1 := 47) rfl ?_
        refine ix_aload_n (i := 0) (j := 1) X (ix_tb_at tb_X11_weight 25 rfl) rfl rfl (pc1 := 48) rfl ?_
        refine ix_iconst (v := 0) X (ix_tb_at tb_X11_weight 26 rfl) (by decide) (pc1 := 49) rfl ?_
        obtain ⟨d_22, e_23, h⟩ := ix_lt_ex h
        refine iz_putZ X fp_RX11_80 k_3 (ix_tb_at tb_X11_weight 27 rfl) (by decide) e_23 (pc1 := 52) rfl ?_
        refine ix_iload_n (i := 3) (j := 0) X (ix_tb_at tb_X11_weight 28 rfl) rfl rfl (pc1 := 53) rfl ?_
        exact ix_iret X hr hlk (ix_r2 (f := fun r => some (.int r)) (g := ix_w z) h) (ix_tb_at tb_X11_weight 29 rfl)
      · have h := ix_iff q_11 h
        refine ix_sub (L1 := [(0, .ref (K.2.2.1 + a0))]) [0] rfl ?_
        exact t_X11_weight_19 hKp X hr hlk  h
def tab_X11_weighs : List (Nat × Instr × Nat) := [(0, .aload_n 0, 1), (1, .iload_n 1, 1), (2, .invokevirtual 247, 3), (5, .ifCond .ne 12, 3), (8, .aload_n 0, 1), (9, .sipush (-1001), 3), (12, .invokevirtual 73, 3), (15, .i2l, 1), (16, .lreturn, 1), (17, .iload_n 1, 1), (18, .aload_n 0, 1), (19, .getfield 41, 3), (22, .getfield 177, 3), (25, .getfield 253, 3), (28, .if_icmp .gt 15, 3), (31, .aload_n 0, 1), (32, .getfield 41, 3), (35, .getfield 254, 3), (38, .iload_n 1, 1), (39, .laload, 1), (40, .goto 4, 3), (43, .lconst 0, 1), (44, .lreturn, 1)]
theorem tb_X11_weighs : ix_tab cX11_weighs tab_X11_weighs := by
  unfold ix_tab
  decide +kernel
noncomputable def f_X11_weighs (n : Nat) (z : ix_Z) (a0 : Nat) (x1 : Int32) (d : ix_D2) : Option (Int64 × ix_D2) :=
  ix_ck (ix_ok z [10] a0) (ix_bd2 (f_X11_isName n z a0 x1 d) (fun r_4 d_1 => ix_if (r_4 = 0) (ix_bd2 (f_X11_refuse n z a0 ((-1001)) d_1) (fun r_18 d_16 => some (r_18.toInt64, d_16))) (ix_bd1 (z.1 a0 6) (fun b_6 => ix_ck (ix_ok z [8] b_6) (ix_bd1 (z.1 b_6 0) (fun b_9 => ix_ck (ix_ok z [1] b_9) (ix_if (d_1.1 b_9 14 < x1) (some (0, d_1)) (ix_bd1 (z.1 b_6 2) (fun b_13 => ix_ck (ix_ix z 23 b_13 x1) (some (d_1.2 b_13 (ix_n x1), d_1)))))))))))
set_option maxRecDepth 20000 in
theorem c_X11_weighs {l : Launch} {K : ix_Cx} (hKp : ix_Kp K) {n : Nat} {z : ix_Z} {a0 : Nat} {x1 : Int32} {d : ix_D2} {r : Int64} {d1 : ix_D2} (h : f_X11_weighs n z a0 x1 d = some (r, d1)) : ix_M l K yX11_weighs cX11_weighs 2 (some .long) 1 21 0 0 [.ref (K.2.2.1 + a0), .int x1] (ix_w z d) (some (.long r)) (ix_w z d1) := by
  refine ix_met mf_X11_weighs hKp (Nat.le_of_ble_eq_true rfl) ?_
  intro p e s m args below meth c hr hlk hnm X
  have X : ix_X p s m args c K cX11_weighs RX11 2 := X
  show ix_G p l e (ix_rm 1 21 0 0) s m args below meth c (MQ below (ix_Post K (some (.long r)) (ix_w z d1)) args s 0 0 (ix_A K)) K 2 0 0 0 [(0, .ref (K.2.2.1 + a0)), (1, .int x1)] [] (ix_w z d)
  unfold f_X11_weighs at h
  refine ix_aload_n (i := 0) (j := 0) X (ix_tb_at tb_X11_weighs 0 rfl) rfl rfl (pc1 := 1) rfl ?_
  refine ix_iload_n (i := 1) (j := 1) X (ix_tb_at tb_X11_weighs 1 rfl) rfl rfl (pc1 := 2) rfl ?_
  obtain ⟨k_3, h⟩ := ix_ck_some h
  obtain ⟨r_4, d_1, h_2, h⟩ := ix_bd2_ex h
  refine ix_callV (As := [.int x1]) (rest := []) (ci := 10) (T := TX11) (nf := 18) X mf_X11_isName mi_X11_isName ms_X11_isName rfl (Nat.le_of_ble_eq_true rfl) ml_RX11_247 ⟨Nat.le_of_ble_eq_true rfl, Nat.le_of_ble_eq_true rfl⟩ ⟨Nat.le_of_ble_eq_true rfl, Nat.le_of_ble_eq_true rfl⟩ rfl (Nat.le_of_ble_eq_true rfl) (ix_tb_at tb_X11_weighs 2 rfl) ⟨k_3.1, List.mem_singleton.mp k_3.2⟩ (c_X11_isName hKp h_2) rfl (pc1 := 5) rfl ?_
  refine ix_if_ne (tgt := 17) X (ix_tb_at tb_X11_weighs 3 rfl) (by decide) (pc1 := 8) rfl (fun q_5 => ?_) (fun q_5 => ?_)
  · have h := ix_iff q_5 h
    refine ix_iload_n (i := 1) (j := 1) X (ix_tb_at tb_X11_weighs 9 rfl) rfl rfl (pc1 := 18) rfl ?_
    refine ix_aload_n (i := 0) (j := 0) X (ix_tb_at tb_X11_weighs 10 rfl) rfl rfl (pc1 := 19) rfl ?_
    obtain ⟨b_6, q_7, h⟩ := ix_bd1_ex h
    refine iz_getR X fl_RX11_41 k_3 q_7 (ix_tb_at tb_X11_weighs 11 rfl) (pc1 := 22) rfl ?_
    obtain ⟨k_8, h⟩ := ix_ck_some h
    obtain ⟨b_9, q_10, h⟩ := ix_bd1_ex h
    refine iz_getR X fl_RX11_177 k_8 q_10 (ix_tb_at tb_X11_weighs 12 rfl) (pc1 := 25) rfl ?_
    obtain ⟨k_11, h⟩ := ix_ck_some h
    refine iz_getI X fl_RX11_253 k_11 (ix_tb_at tb_X11_weighs 13 rfl) (pc1 := 28) rfl ?_
    refine ix_icmp_gt (tgt := 43) X (ix_tb_at tb_X11_weighs 14 rfl) (by decide) (pc1 := 31) rfl (fun q_12 => ?_) (fun q_12 => ?_)
    · have h := ix_ift q_12 h
      refine ix_lconst (v := 0) X (ix_tb_at tb_X11_weighs 21 rfl) (by decide) (pc1 := 44) rfl ?_
      exact ix_lret X hr hlk (ix_r2 (f := fun r => some (.long r)) (g := ix_w z) h) (ix_tb_at tb_X11_weighs 22 rfl)
    · have h := ix_iff q_12 h
      refine ix_aload_n (i := 0) (j := 0) X (ix_tb_at tb_X11_weighs 15 rfl) rfl rfl (pc1 := 32) rfl ?_
      refine iz_getR X fl_RX11_41 k_3 q_7 (ix_tb_at tb_X11_weighs 16 rfl) (pc1 := 35) rfl ?_
      obtain ⟨b_13, q_14, h⟩ := ix_bd1_ex h
      refine iz_getR X fl_RX11_254 k_8 q_14 (ix_tb_at tb_X11_weighs 17 rfl) (pc1 := 38) rfl ?_
      refine ix_iload_n (i := 1) (j := 1) X (ix_tb_at tb_X11_weighs 18 rfl) rfl rfl (pc1 := 39) rfl ?_
      obtain ⟨k_15, h⟩ := ix_ck_some h
      refine iz_lald X k_15 (ix_tb_at tb_X11_weighs 19 rfl) (pc1 := 40) rfl ?_
      refine ix_goto (tgt := 44) X (ix_tb_at tb_X11_weighs 20 rfl) (by decide) ?_
      exact ix_lret X hr hlk (ix_r2 (f := fun r => some (.long r)) (g := ix_w z) h) (ix_tb_at tb_X11_weighs 22 rfl)
  · have h := ix_ift q_5 h
    refine ix_aload_n (i := 0) (j := 0) X (ix_tb_at tb_X11_weighs 4 rfl) rfl rfl (pc1 := 9) rfl ?_
    refine ix_sipush (v := (-1001)) X (ix_tb_at tb_X11_weighs 5 rfl) (by decide) (pc1 := 12) rfl ?_
    obtain ⟨r_18, d_16, h_17, h⟩ := ix_bd2_ex h
    refine ix_callV (As := [.int ((-1001))]) (rest := []) (ci := 10) (T := TX11) (nf := 18) X mf_X11_refuse mi_X11_refuse ms_X11_refuse rfl (Nat.le_of_ble_eq_true rfl) ml_RX11_73 ⟨Nat.le_of_ble_eq_true rfl, Nat.le_of_ble_eq_true rfl⟩ ⟨Nat.le_of_ble_eq_true rfl, Nat.le_of_ble_eq_true rfl⟩ rfl (Nat.le_of_ble_eq_true rfl) (ix_tb_at tb_X11_weighs 6 rfl) ⟨k_3.1, List.mem_singleton.mp k_3.2⟩ (c_X11_refuse hKp h_17) rfl (pc1 := 15) rfl ?_
    refine ix_i2l X (ix_tb_at tb_X11_weighs 7 rfl) (pc1 := 16) rfl ?_
    exact ix_lret X hr hlk (ix_r2 (f := fun r => some (.long r)) (g := ix_w z) h) (ix_tb_at tb_X11_weighs 8 rfl)
def tab_X11_begin : List (Nat × Instr × Nat) := [(0, .iload_n 1, 1), (1, .ifCond .lt 9, 3), (4, .iload_n 1, 1), (5, .bipush 100, 2), (7, .if_icmp .le 11, 3), (10, .aload_n 0, 1), (11, .sipush (-1001), 3), (14, .invokevirtual 73, 3), (17, .ireturn, 1), (18, .aload_n 0, 1), (19, .getfield 28, 3), (22, .getfield 257, 3), (25, .istore_n 2, 1), (26, .aload_n 0, 1), (27, .getfield 28, 3), (30, .iload_n 1, 1), (31, .putfield 257, 3), (34, .aload_n 0, 1), (35, .iconst 0, 1), (36, .putfield 80, 3), (39, .iload_n 2, 1), (40, .ireturn, 1)]
theorem tb_X11_begin : ix_tab cX11_begin tab_X11_begin := by
  unfold ix_tab
  decide +kernel
noncomputable def f_X11_begin_10 (n : Nat) (z : ix_Z)  (a0 : Nat) (d : ix_D2) : Option (Int32 × ix_D2) :=
  ix_ck (ix_ok z [10] a0) (ix_bd2 (f_X11_refuse n z a0 ((-1001)) d) (fun r_5 d_2 => some (r_5, d_2)))
noncomputable def f_X11_begin (n : Nat) (z : ix_Z) (a0 : Nat) (x1 : Int32) (d : ix_D2) : Option (Int32 × ix_D2) :=
  ix_if (x1 < 0) (f_X11_begin_10 n z  a0 d) (ix_if (x1 ≤ 100) (ix_ck (ix_ok z [10] a0) (ix_bd1 (z.1 a0 3) (fun b_8 => ix_ck (ix_ok z [2] b_8) (ix_lt (d.1 b_8 8) (fun x2_11 => ix_lt (ix_di d b_8 8 x1) (fun d_13 => ix_lt (ix_di d_13 a0 14 0) (fun d_15 => some (x2_11, d_15)))))))) (f_X11_begin_10 n z  a0 d))
set_option maxRecDepth 20000 in
theorem t_X11_begin_10 {l : Launch} {p : Program} {e : Env} {s : State} {m : MethodId} {args : Array Value} {below : List Frame} {meth : Method} {c : Code} {K : ix_Cx} (hKp : ix_Kp K) {n : Nat} {z : ix_Z} (X : ix_X p s m args c K cX11_begin RX11 3) (hr : meth.sig.returnType = (some .int)) (hlk : meth.locks = false)  {a0 : Nat} {r : Int32} {d1 : ix_D2}  {d : ix_D2} (h : f_X11_begin_10 n z  a0 d = some (r, d1)) : ix_G p l e (ix_rm 1 21 0 0) s m args below meth c (MQ below (ix_Post K (some (.int r)) (ix_w z d1)) args s 0 0 (ix_A K)) K 3 0 0 10 [(0, .ref (K.2.2.1 + a0))] [] (ix_w z d) := by
  unfold f_X11_begin_10 at h
  refine ix_aload_n (i := 0) (j := 0) X (ix_tb_at tb_X11_begin 5 rfl) rfl rfl (pc1 := 11) rfl ?_
  refine ix_sipush (v := (-1001)) X (ix_tb_at tb_X11_begin 6 rfl) (by decide) (pc1 := 14) rfl ?_
  obtain ⟨k_4, h⟩ := ix_ck_some h
  obtain ⟨r_5, d_2, h_3, h⟩ := ix_bd2_ex h
  refine ix_callV (As := [.int ((-1001))]) (rest := []) (ci := 10) (T := TX11) (nf := 18) X mf_X11_refuse mi_X11_refuse ms_X11_refuse rfl (Nat.le_of_ble_eq_true rfl) ml_RX11_73 ⟨Nat.le_of_ble_eq_true rfl, Nat.le_of_ble_eq_true rfl⟩ ⟨Nat.le_of_ble_eq_true rfl, Nat.le_of_ble_eq_true rfl⟩ rfl (Nat.le_of_ble_eq_true rfl) (ix_tb_at tb_X11_begin 7 rfl) ⟨k_4.1, List.mem_singleton.mp k_4.2⟩ (c_X11_refuse hKp h_3) rfl (pc1 := 17) rfl ?_
  exact ix_iret X hr hlk (ix_r2 (f := fun r => some (.int r)) (g := ix_w z) h) (ix_tb_at tb_X11_begin 8 rfl)
set_option maxRecDepth 20000 in
theorem c_X11_begin {l : Launch} {K : ix_Cx} (hKp : ix_Kp K) {n : Nat} {z : ix_Z} {a0 : Nat} {x1 : Int32} {d : ix_D2} {r : Int32} {d1 : ix_D2} (h : f_X11_begin n z a0 x1 d = some (r, d1)) : ix_M l K yX11_begin cX11_begin 3 (some .int) 1 21 0 0 [.ref (K.2.2.1 + a0), .int x1] (ix_w z d) (some (.int r)) (ix_w z d1) := by
  refine ix_met mf_X11_begin hKp (Nat.le_of_ble_eq_true rfl) ?_
  intro p e s m args below meth c hr hlk hnm X
  have X : ix_X p s m args c K cX11_begin RX11 3 := X
  show ix_G p l e (ix_rm 1 21 0 0) s m args below meth c (MQ below (ix_Post K (some (.int r)) (ix_w z d1)) args s 0 0 (ix_A K)) K 3 0 0 0 [(0, .ref (K.2.2.1 + a0)), (1, .int x1)] [] (ix_w z d)
  unfold f_X11_begin at h
  refine ix_iload_n (i := 1) (j := 1) X (ix_tb_at tb_X11_begin 0 rfl) rfl rfl (pc1 := 1) rfl ?_
  refine ix_if_lt (tgt := 10) X (ix_tb_at tb_X11_begin 1 rfl) (by decide) (pc1 := 4) rfl (fun q_1 => ?_) (fun q_1 => ?_)
  · have h := ix_ift q_1 h
    refine ix_sub (L1 := [(0, .ref (K.2.2.1 + a0))]) [0] rfl ?_
    exact t_X11_begin_10 hKp X hr hlk  h
  · have h := ix_iff q_1 h
    refine ix_iload_n (i := 1) (j := 1) X (ix_tb_at tb_X11_begin 2 rfl) rfl rfl (pc1 := 5) rfl ?_
    refine ix_bipush (v := 100) X (ix_tb_at tb_X11_begin 3 rfl) (by decide) (pc1 := 7) rfl ?_
    refine ix_icmp_le (tgt := 18) X (ix_tb_at tb_X11_begin 4 rfl) (by decide) (pc1 := 10) rfl (fun q_6 => ?_) (fun q_6 => ?_)
    · have h := ix_ift q_6 h
      refine ix_aload_n (i := 0) (j := 0) X (ix_tb_at tb_X11_begin 9 rfl) rfl rfl (pc1 := 19) rfl ?_
      obtain ⟨k_7, h⟩ := ix_ck_some h
      obtain ⟨b_8, q_9, h⟩ := ix_bd1_ex h
      refine iz_getR X fl_RX11_28 k_7 q_9 (ix_tb_at tb_X11_begin 10 rfl) (pc1 := 22) rfl ?_
      obtain ⟨k_10, h⟩ := ix_ck_some h
      refine iz_getI X fl_RX11_257 k_10 (ix_tb_at tb_X11_begin 11 rfl) (pc1 := 25) rfl ?_
      obtain ⟨x2_11, e_12, h⟩ := ix_lt_ex h
      refine ix_nmi e_12 ?_
      refine ix_istore_n (i := 2) (L1 := [(2, .int x2_11), (0, .ref (K.2.2.1 + a0)), (1, .int x1)]) X (ix_tb_at tb_X11_begin 12 rfl) rfl (Nat.le_of_ble_eq_true rfl) rfl (pc1 := 26) rfl ?_
      refine ix_aload_n (i := 0) (j := 1) X (ix_tb_at tb_X11_begin 13 rfl) rfl rfl (pc1 := 27) rfl ?_
      refine iz_getR X fl_RX11_28 k_7 q_9 (ix_tb_at tb_X11_begin 14 rfl) (pc1 := 30) rfl ?_
      refine ix_iload_n (i := 1) (j := 2) X (ix_tb_at tb_X11_begin 15 rfl) rfl rfl (pc1 := 31) rfl ?_
      obtain ⟨d_13, e_14, h⟩ := ix_lt_ex h
      refine iz_putI X fp_RX11_257 k_10 (ix_tb_at tb_X11_begin 16 rfl) e_14 (pc1 := 34) rfl ?_
      refine ix_aload_n (i := 0) (j := 1) X (ix_tb_at tb_X11_begin 17 rfl) rfl rfl (pc1 := 35) rfl ?_
      refine ix_iconst (v := 0) X (ix_tb_at tb_X11_begin 18 rfl) (by decide) (pc1 := 36) rfl ?_
      obtain ⟨d_15, e_16, h⟩ := ix_lt_ex h
      refine iz_putZ X fp_RX11_80 k_7 (ix_tb_at tb_X11_begin 19 rfl) (by decide) e_16 (pc1 := 39) rfl ?_
      refine ix_iload_n (i := 2) (j := 0) X (ix_tb_at tb_X11_begin 20 rfl) rfl rfl (pc1 := 40) rfl ?_
      exact ix_iret X hr hlk (ix_r2 (f := fun r => some (.int r)) (g := ix_w z) h) (ix_tb_at tb_X11_begin 21 rfl)
    · have h := ix_iff q_6 h
      refine ix_sub (L1 := [(0, .ref (K.2.2.1 + a0))]) [0] rfl ?_
      exact t_X11_begin_10 hKp X hr hlk  h
def tab_X11_forget : List (Nat × Instr × Nat) := [(0, .iload_n 1, 1), (1, .ifCond .lt 10, 3), (4, .iload_n 1, 1), (5, .sipush 800, 3), (8, .if_icmp .le 11, 3), (11, .aload_n 0, 1), (12, .sipush (-1001), 3), (15, .invokevirtual 73, 3), (18, .ireturn, 1), (19, .aload_n 0, 1), (20, .getfield 28, 3), (23, .getfield 260, 3), (26, .istore_n 2, 1), (27, .aload_n 0, 1), (28, .getfield 28, 3), (31, .iload_n 1, 1), (32, .putfield 260, 3), (35, .aload_n 0, 1), (36, .iconst 0, 1), (37, .putfield 80, 3), (40, .iload_n 2, 1), (41, .ireturn, 1)]
theorem tb_X11_forget : ix_tab cX11_forget tab_X11_forget := by
  unfold ix_tab
  decide +kernel
noncomputable def f_X11_forget_11 (n : Nat) (z : ix_Z)  (a0 : Nat) (d : ix_D2) : Option (Int32 × ix_D2) :=
  ix_ck (ix_ok z [10] a0) (ix_bd2 (f_X11_refuse n z a0 ((-1001)) d) (fun r_5 d_2 => some (r_5, d_2)))
noncomputable def f_X11_forget (n : Nat) (z : ix_Z) (a0 : Nat) (x1 : Int32) (d : ix_D2) : Option (Int32 × ix_D2) :=
  ix_if (x1 < 0) (f_X11_forget_11 n z  a0 d) (ix_if (x1 ≤ 800) (ix_ck (ix_ok z [10] a0) (ix_bd1 (z.1 a0 3) (fun b_8 => ix_ck (ix_ok z [2] b_8) (ix_lt (d.1 b_8 9) (fun x2_11 => ix_lt (ix_di d b_8 9 x1) (fun d_13 => ix_lt (ix_di d_13 a0 14 0) (fun d_15 => some (x2_11, d_15)))))))) (f_X11_forget_11 n z  a0 d))
set_option maxRecDepth 20000 in
theorem t_X11_forget_11 {l : Launch} {p : Program} {e : Env} {s : State} {m : MethodId} {args : Array Value} {below : List Frame} {meth : Method} {c : Code} {K : ix_Cx} (hKp : ix_Kp K) {n : Nat} {z : ix_Z} (X : ix_X p s m args c K cX11_forget RX11 3) (hr : meth.sig.returnType = (some .int)) (hlk : meth.locks = false)  {a0 : Nat} {r : Int32} {d1 : ix_D2}  {d : ix_D2} (h : f_X11_forget_11 n z  a0 d = some (r, d1)) : ix_G p l e (ix_rm 1 21 0 0) s m args below meth c (MQ below (ix_Post K (some (.int r)) (ix_w z d1)) args s 0 0 (ix_A K)) K 3 0 0 11 [(0, .ref (K.2.2.1 + a0))] [] (ix_w z d) := by
  unfold f_X11_forget_11 at h
  refine ix_aload_n (i := 0) (j := 0) X (ix_tb_at tb_X11_forget 5 rfl) rfl rfl (pc1 := 12) rfl ?_
  refine ix_sipush (v := (-1001)) X (ix_tb_at tb_X11_forget 6 rfl) (by decide) (pc1 := 15) rfl ?_
  obtain ⟨k_4, h⟩ := ix_ck_some h
  obtain ⟨r_5, d_2, h_3, h⟩ := ix_bd2_ex h
  refine ix_callV (As := [.int ((-1001))]) (rest := []) (ci := 10) (T := TX11) (nf := 18) X mf_X11_refuse mi_X11_refuse ms_X11_refuse rfl (Nat.le_of_ble_eq_true rfl) ml_RX11_73 ⟨Nat.le_of_ble_eq_true rfl, Nat.le_of_ble_eq_true rfl⟩ ⟨Nat.le_of_ble_eq_true rfl, Nat.le_of_ble_eq_true rfl⟩ rfl (Nat.le_of_ble_eq_true rfl) (ix_tb_at tb_X11_forget 7 rfl) ⟨k_4.1, List.mem_singleton.mp k_4.2⟩ (c_X11_refuse hKp h_3) rfl (pc1 := 18) rfl ?_
  exact ix_iret X hr hlk (ix_r2 (f := fun r => some (.int r)) (g := ix_w z) h) (ix_tb_at tb_X11_forget 8 rfl)
set_option maxRecDepth 20000 in
theorem c_X11_forget {l : Launch} {K : ix_Cx} (hKp : ix_Kp K) {n : Nat} {z : ix_Z} {a0 : Nat} {x1 : Int32} {d : ix_D2} {r : Int32} {d1 : ix_D2} (h : f_X11_forget n z a0 x1 d = some (r, d1)) : ix_M l K yX11_forget cX11_forget 3 (some .int) 1 21 0 0 [.ref (K.2.2.1 + a0), .int x1] (ix_w z d) (some (.int r)) (ix_w z d1) := by
  refine ix_met mf_X11_forget hKp (Nat.le_of_ble_eq_true rfl) ?_
  intro p e s m args below meth c hr hlk hnm X
  have X : ix_X p s m args c K cX11_forget RX11 3 := X
  show ix_G p l e (ix_rm 1 21 0 0) s m args below meth c (MQ below (ix_Post K (some (.int r)) (ix_w z d1)) args s 0 0 (ix_A K)) K 3 0 0 0 [(0, .ref (K.2.2.1 + a0)), (1, .int x1)] [] (ix_w z d)
  unfold f_X11_forget at h
  refine ix_iload_n (i := 1) (j := 1) X (ix_tb_at tb_X11_forget 0 rfl) rfl rfl (pc1 := 1) rfl ?_
  refine ix_if_lt (tgt := 11) X (ix_tb_at tb_X11_forget 1 rfl) (by decide) (pc1 := 4) rfl (fun q_1 => ?_) (fun q_1 => ?_)
  · have h := ix_ift q_1 h
    refine ix_sub (L1 := [(0, .ref (K.2.2.1 + a0))]) [0] rfl ?_
    exact t_X11_forget_11 hKp X hr hlk  h
  · have h := ix_iff q_1 h
    refine ix_iload_n (i := 1) (j := 1) X (ix_tb_at tb_X11_forget 2 rfl) rfl rfl (pc1 := 5) rfl ?_
    refine ix_sipush (v := 800) X (ix_tb_at tb_X11_forget 3 rfl) (by decide) (pc1 := 8) rfl ?_
    refine ix_icmp_le (tgt := 19) X (ix_tb_at tb_X11_forget 4 rfl) (by decide) (pc1 := 11) rfl (fun q_6 => ?_) (fun q_6 => ?_)
    · have h := ix_ift q_6 h
      refine ix_aload_n (i := 0) (j := 0) X (ix_tb_at tb_X11_forget 9 rfl) rfl rfl (pc1 := 20) rfl ?_
      obtain ⟨k_7, h⟩ := ix_ck_some h
      obtain ⟨b_8, q_9, h⟩ := ix_bd1_ex h
      refine iz_getR X fl_RX11_28 k_7 q_9 (ix_tb_at tb_X11_forget 10 rfl) (pc1 := 23) rfl ?_
      obtain ⟨k_10, h⟩ := ix_ck_some h
      refine iz_getI X fl_RX11_260 k_10 (ix_tb_at tb_X11_forget 11 rfl) (pc1 := 26) rfl ?_
      obtain ⟨x2_11, e_12, h⟩ := ix_lt_ex h
      refine ix_nmi e_12 ?_
      refine ix_istore_n (i := 2) (L1 := [(2, .int x2_11), (0, .ref (K.2.2.1 + a0)), (1, .int x1)]) X (ix_tb_at tb_X11_forget 12 rfl) rfl (Nat.le_of_ble_eq_true rfl) rfl (pc1 := 27) rfl ?_
      refine ix_aload_n (i := 0) (j := 1) X (ix_tb_at tb_X11_forget 13 rfl) rfl rfl (pc1 := 28) rfl ?_
      refine iz_getR X fl_RX11_28 k_7 q_9 (ix_tb_at tb_X11_forget 14 rfl) (pc1 := 31) rfl ?_
      refine ix_iload_n (i := 1) (j := 2) X (ix_tb_at tb_X11_forget 15 rfl) rfl rfl (pc1 := 32) rfl ?_
      obtain ⟨d_13, e_14, h⟩ := ix_lt_ex h
      refine iz_putI X fp_RX11_260 k_10 (ix_tb_at tb_X11_forget 16 rfl) e_14 (pc1 := 35) rfl ?_
      refine ix_aload_n (i := 0) (j := 1) X (ix_tb_at tb_X11_forget 17 rfl) rfl rfl (pc1 := 36) rfl ?_
      refine ix_iconst (v := 0) X (ix_tb_at tb_X11_forget 18 rfl) (by decide) (pc1 := 37) rfl ?_
      obtain ⟨d_15, e_16, h⟩ := ix_lt_ex h
      refine iz_putZ X fp_RX11_80 k_7 (ix_tb_at tb_X11_forget 19 rfl) (by decide) e_16 (pc1 := 40) rfl ?_
      refine ix_iload_n (i := 2) (j := 0) X (ix_tb_at tb_X11_forget 20 rfl) rfl rfl (pc1 := 41) rfl ?_
      exact ix_iret X hr hlk (ix_r2 (f := fun r => some (.int r)) (g := ix_w z) h) (ix_tb_at tb_X11_forget 21 rfl)
    · have h := ix_iff q_6 h
      refine ix_sub (L1 := [(0, .ref (K.2.2.1 + a0))]) [0] rfl ?_
      exact t_X11_forget_11 hKp X hr hlk  h
def tab_X11_areSteps : List (Nat × Instr × Nat) := [(0, .iload_n 0, 1), (1, .iconst 1, 1), (2, .if_icmp .lt 14, 3), (5, .iload_n 0, 1), (6, .sipush 5000, 3), (9, .if_icmp .gt 7, 3), (12, .iconst 1, 1), (13, .goto 4, 3), (16, .iconst 0, 1), (17, .ireturn, 1)]
theorem tb_X11_areSteps : ix_tab cX11_areSteps tab_X11_areSteps := by
  unfold ix_tab
  decide +kernel
noncomputable def f_X11_areSteps (n : Nat) (z : ix_Z) (x0 : Int32) (d : ix_D2) : Option (Int32 × ix_D2) :=
  ix_if (x0 < 1) (some (0, d)) (ix_if (5000 < x0) (some (0, d)) (some (1, d)))
set_option maxRecDepth 20000 in
theorem c_X11_areSteps {l : Launch} {K : ix_Cx} (hKp : ix_Kp K) {n : Nat} {z : ix_Z} {x0 : Int32} {d : ix_D2} {r : Int32} {d1 : ix_D2} (h : f_X11_areSteps n z x0 d = some (r, d1)) : ix_M l K yX11_areSteps cX11_areSteps 1 (some .boolean) 0 0 0 0 [.int x0] (ix_w z d) (some (.int r)) (ix_w z d1) := by
  refine ix_met mf_X11_areSteps hKp (Nat.le_of_ble_eq_true rfl) ?_
  intro p e s m args below meth c hr hlk hnm X
  have X : ix_X p s m args c K cX11_areSteps RX11 1 := X
  show ix_G p l e (ix_rm 0 0 0 0) s m args below meth c (MQ below (ix_Post K (some (.int r)) (ix_w z d1)) args s 0 0 (ix_A K)) K 1 0 0 0 [(0, .int x0)] [] (ix_w z d)
  unfold f_X11_areSteps at h
  refine ix_iload_n (i := 0) (j := 0) X (ix_tb_at tb_X11_areSteps 0 rfl) rfl rfl (pc1 := 1) rfl ?_
  refine ix_iconst (v := 1) X (ix_tb_at tb_X11_areSteps 1 rfl) (by decide) (pc1 := 2) rfl ?_
  refine ix_icmp_lt (tgt := 16) X (ix_tb_at tb_X11_areSteps 2 rfl) (by decide) (pc1 := 5) rfl (fun q_1 => ?_) (fun q_1 => ?_)
  · have h := ix_ift q_1 h
    refine ix_iconst (v := 0) X (ix_tb_at tb_X11_areSteps 8 rfl) (by decide) (pc1 := 17) rfl ?_
    exact ix_zret X hr hlk (by decide) (ix_r2 (f := fun r => some (.int r)) (g := ix_w z) h) (ix_tb_at tb_X11_areSteps 9 rfl)
  · have h := ix_iff q_1 h
    refine ix_iload_n (i := 0) (j := 0) X (ix_tb_at tb_X11_areSteps 3 rfl) rfl rfl (pc1 := 6) rfl ?_
    refine ix_sipush (v := 5000) X (ix_tb_at tb_X11_areSteps 4 rfl) (by decide) (pc1 := 9) rfl ?_
    refine ix_icmp_gt (tgt := 16) X (ix_tb_at tb_X11_areSteps 5 rfl) (by decide) (pc1 := 12) rfl (fun q_2 => ?_) (fun q_2 => ?_)
    · have h := ix_ift q_2 h
      refine ix_iconst (v := 0) X (ix_tb_at tb_X11_areSteps 8 rfl) (by decide) (pc1 := 17) rfl ?_
      exact ix_zret X hr hlk (by decide) (ix_r2 (f := fun r => some (.int r)) (g := ix_w z) h) (ix_tb_at tb_X11_areSteps 9 rfl)
    · have h := ix_iff q_2 h
      refine ix_iconst (v := 1) X (ix_tb_at tb_X11_areSteps 6 rfl) (by decide) (pc1 := 13) rfl ?_
      refine ix_goto (tgt := 17) X (ix_tb_at tb_X11_areSteps 7 rfl) (by decide) ?_
      exact ix_zret X hr hlk (by decide) (ix_r2 (f := fun r => some (.int r)) (g := ix_w z) h) (ix_tb_at tb_X11_areSteps 9 rfl)
def tab_X11_keepCore : List (Nat × Instr × Nat) := [(0, .aload_n 0, 1), (1, .iconst 0, 1), (2, .putfield 302, 3), (5, .aload_n 0, 1), (6, .getfield 41, 3), (9, .getfield 174, 3), (12, .bipush 8, 2), (14, .iaload, 1), (15, .iconst 1, 1), (16, .isub, 1), (17, .istore_n 1, 1), (18, .iconst 0, 1), (19, .istore_n 2, 1), (20, .iload_n 2, 1), (21, .aload_n 0, 1), (22, .getfield 28, 3), (25, .getfield 195, 3), (28, .getfield 224, 3), (31, .if_icmp .ge 41, 3), (34, .aload_n 0, 1), (35, .getfield 41, 3), (38, .iload_n 1, 1), (39, .iload_n 2, 1), (40, .invokevirtual 424, 3), (43, .ifCond .eq 23, 3), (46, .aload_n 0, 1), (47, .getfield 57, 3), (50, .aload_n 0, 1), (51, .getfield 302, 3), (54, .iload_n 2, 1), (55, .iastore, 1), (56, .aload_n 0, 1), (57, .dup, 1), (58, .getfield 302, 3), (61, .iconst 1, 1), (62, .iadd, 1), (63, .putfield 302, 3), (66, .iinc 2 1, 3), (69, .goto (-49), 3), (72, .aload_n 0, 1), (73, .getfield 41, 3), (76, .getfield 177, 3), (79, .getfield 181, 3), (82, .astore_n 2, 1), (83, .aload_n 2, 1), (84, .getfield 224, 3), (87, .iconst 1, 1), (88, .isub, 1), (89, .istore_n 3, 1), (90, .aload_n 0, 1), (91, .aload_n 2, 1), (92, .iload_n 3, 1), (93, .invokevirtual 335, 3), (96, .bipush 20, 2), (98, .invokestatic 428, 3), (101, .putfield 305, 3), (104, .iconst 0, 1), (105, .istore 4, 2), (107, .iload 4, 2), (109, .aload_n 0, 1), (110, .getfield 305, 3), (113, .if_icmp .ge 24, 3), (116, .aload_n 0, 1), (117, .getfield 60, 3), (120, .iload 4, 2), (122, .aload_n 2, 1), (123, .iload_n 3, 1), (124, .iload 4, 2), (126, .invokevirtual 189, 3), (129, .ineg, 1), (130, .iastore, 1), (131, .iinc 4 1, 3), (134, .goto (-27), 3), (137, .return_, 1)]
theorem tb_X11_keepCore : ix_tab cX11_keepCore tab_X11_keepCore := by
  unfold ix_tab
  decide +kernel
noncomputable def b_X11_keepCore_107 (n : Nat) (z : ix_Z)  (a0 : Nat) (a2 : Nat) (x3 : Int32) (rec107 : Int32 → ix_D2 → Option (ix_D2)) (x4 : Int32) (d : ix_D2) : Option (ix_D2) :=
  ix_ck (ix_ok z [10] a0) (ix_if (d.1 a0 12 ≤ x4) (some d) (ix_bd1 (z.1 a0 11) (fun b_38 => ix_ck (ix_ok z [7] a2) (ix_bd2 (f_X7_tell n z a2 x3 x4 d) (fun r_43 d_40 => ix_ck (ix_ix z 20 b_38 x4) (ix_lt (ix_di d_40 b_38 (ix_n x4) (-r_43)) (fun d_45 => ix_lt (x4 + 1) (fun x4_47 => rec107 x4_47 d_45))))))))
noncomputable def f_X11_keepCore_107 (n : Nat) (z : ix_Z)  (a0 : Nat) (a2 : Nat) (x3 : Int32) (x4 : Int32) (d : ix_D2) : Option (ix_D2) := ix_fix (b_X11_keepCore_107 n z  a0 a2 x3) (fun _ _ => none) n x4 d
noncomputable def f_X11_keepCore_66 (n : Nat) (z : ix_Z) (rec20 : Int32 → ix_D2 → Option (ix_D2)) (a0 : Nat) (x1 : Int32) (x2 : Int32) (d : ix_D2) : Option (ix_D2) :=
  ix_lt (x2 + 1) (fun x2_56 => rec20 x2_56 d)
noncomputable def b_X11_keepCore_20 (n : Nat) (z : ix_Z)  (a0 : Nat) (x1 : Int32) (rec20 : Int32 → ix_D2 → Option (ix_D2)) (x2 : Int32) (d : ix_D2) : Option (ix_D2) :=
  ix_ck (ix_ok z [10] a0) (ix_bd1 (z.1 a0 3) (fun b_13 => ix_ck (ix_ok z [2] b_13) (ix_bd1 (z.1 b_13 0) (fun b_16 => ix_ck (ix_ok z [7] b_16) (ix_if (d.1 b_16 2 ≤ x2) (ix_bd1 (z.1 a0 6) (fun b_20 => ix_ck (ix_ok z [8] b_20) (ix_bd1 (z.1 b_20 0) (fun b_23 => ix_ck (ix_ok z [1] b_23) (ix_bd1 (z.1 b_23 0) (fun b_26 => ix_ck (ix_ok z [7] b_26) (ix_lt ((d.1 b_26 2) - 1) (fun x3_29 => ix_bd2 (f_X7_size n z b_26 x3_29 d) (fun r_33 d_31 => ix_lt (ix_di d_31 a0 12 (ix_min r_33 20)) (fun d_34 => f_X11_keepCore_107 n z  a0 b_26 x3_29 0 d_34)))))))))) (ix_bd1 (z.1 a0 6) (fun b_49 => ix_ck (ix_ok z [8] b_49) (ix_bd2 (f_X9_hasSource n z b_49 x1 x2 d) (fun r_54 d_51 => ix_if (r_54 = 0) (f_X11_keepCore_66 n z rec20 a0 x1 x2 d_51) (ix_bd1 (z.1 a0 9) (fun b_58 => ix_ck (ix_ix z 20 b_58 (d_51.1 a0 10)) (ix_lt (ix_di d_51 b_58 (ix_n (d_51.1 a0 10)) x2) (fun d_61 => ix_lt (ix_di d_61 a0 10 ((d_61.1 a0 10) + 1)) (fun d_63 => f_X11_keepCore_66 n z rec20 a0 x1 x2 d_63))))))))))))))
noncomputable def f_X11_keepCore_20 (n : Nat) (z : ix_Z)  (a0 : Nat) (x1 : Int32) (x2 : Int32) (d : ix_D2) : Option (ix_D2) := ix_fix (b_X11_keepCore_20 n z  a0 x1) (fun _ _ => none) n x2 d
noncomputable def f_X11_keepCore (n : Nat) (z : ix_Z) (a0 : Nat) (d : ix_D2) : Option (ix_D2) :=
  ix_ck (ix_ok z [10] a0) (ix_lt (ix_di d a0 10 0) (fun d_2 => ix_bd1 (z.1 a0 6) (fun b_4 => ix_ck (ix_ok z [8] b_4) (ix_bd1 (z.1 b_4 10) (fun b_7 => ix_ck (ix_ix z 20 b_7 8) (ix_lt ((d_2.1 b_7 (ix_n 8)) - 1) (fun x1_10 => f_X11_keepCore_20 n z  a0 x1_10 0 d_2)))))))
set_option maxRecDepth 20000 in
theorem tb_X11_keepCore_107 {l : Launch} {p : Program} {e : Env} {s : State} {m : MethodId} {args : Array Value} {below : List Frame} {meth : Method} {c : Code} {K : ix_Cx} (hKp : ix_Kp K) {n : Nat} {z : ix_Z} (X : ix_X p s m args c K cX11_keepCore RX11 5) (hr : meth.sig.returnType = (none : Option Jvm.ClassFile.FieldType)) (hlk : meth.locks = false)  {a0 : Nat} {a2 : Nat} {x3 : Int32} {rec107 : Int32 → ix_D2 → Option (ix_D2)} {d1 : ix_D2} (hrec107 : ∀ (x4 : Int32) (d : ix_D2), rec107 x4 d = some d1 → ix_G p l e (ix_rm 3 64 0 0) s m args below meth c (MQ below (ix_Post K none (ix_w z d1)) args s 0 0 (ix_A K)) K 5 0 0 107 [(0, .ref (K.2.2.1 + a0)), (2, .ref (K.2.2.1 + a2)), (3, .int x3), (4, .int x4)] [] (ix_w z d)) {x4 : Int32} {d : ix_D2} (h : b_X11_keepCore_107 n z  a0 a2 x3 rec107 x4 d = some d1) : ix_G p l e (ix_rm 3 64 0 0) s m args below meth c (MQ below (ix_Post K none (ix_w z d1)) args s 0 0 (ix_A K)) K 5 0 0 107 [(0, .ref (K.2.2.1 + a0)), (2, .ref (K.2.2.1 + a2)), (3, .int x3), (4, .int x4)] [] (ix_w z d) := by
  unfold b_X11_keepCore_107 at h
  refine ix_iload (i := 4) (j := 3) X (ix_tb_at tb_X11_keepCore 58 rfl) rfl (pc1 := 109) rfl ?_
  refine ix_aload_n (i := 0) (j := 0) X (ix_tb_at tb_X11_keepCore 59 rfl) rfl rfl (pc1 := 110) rfl ?_
  obtain ⟨k_36, h⟩ := ix_ck_some h
  refine iz_getI X fl_RX11_305 k_36 (ix_tb_at tb_X11_keepCore 60 rfl) (pc1 := 113) rfl ?_
  refine ix_icmp_ge (tgt := 137) X (ix_tb_at tb_X11_keepCore 61 rfl) (by decide) (pc1 := 116) rfl (fun q_37 => ?_) (fun q_37 => ?_)
  · have h := ix_ift q_37 h
    exact ix_vret X hr hlk (ix_r1 (g := ix_w z) h) (ix_tb_at tb_X11_keepCore 73 rfl)
  · have h := ix_iff q_37 h
    refine ix_aload_n (i := 0) (j := 0) X (ix_tb_at tb_X11_keepCore 62 rfl) rfl rfl (pc1 := 117) rfl ?_
    obtain ⟨b_38, q_39, h⟩ := ix_bd1_ex h
    refine iz_getR X fl_RX11_60 k_36 q_39 (ix_tb_at tb_X11_keepCore 63 rfl) (pc1 := 120) rfl ?_
    refine ix_iload (i := 4) (j := 3) X (ix_tb_at tb_X11_keepCore 64 rfl) rfl (pc1 := 122) rfl ?_
    refine ix_aload_n (i := 2) (j := 1) X (ix_tb_at tb_X11_keepCore 65 rfl) rfl rfl (pc1 := 123) rfl ?_
    refine ix_iload_n (i := 3) (j := 2) X (ix_tb_at tb_X11_keepCore 66 rfl) rfl rfl (pc1 := 124) rfl ?_
    refine ix_iload (i := 4) (j := 3) X (ix_tb_at tb_X11_keepCore 67 rfl) rfl (pc1 := 126) rfl ?_
    obtain ⟨k_42, h⟩ := ix_ck_some h
    obtain ⟨r_43, d_40, h_41, h⟩ := ix_bd2_ex h
    refine ix_callV (As := [.int x3, .int x4]) (rest := [.int x4, .ref (K.2.2.1 + b_38)]) (ci := 7) (T := TX7) (nf := 3) X mf_X7_tell mi_X7_tell ms_X7_tell rfl (Nat.le_of_ble_eq_true rfl) ml_RX11_189 ⟨Nat.le_of_ble_eq_true rfl, Nat.le_of_ble_eq_true rfl⟩ ⟨Nat.le_of_ble_eq_true rfl, Nat.le_of_ble_eq_true rfl⟩ rfl (Nat.le_of_ble_eq_true rfl) (ix_tb_at tb_X11_keepCore 68 rfl) ⟨k_42.1, List.mem_singleton.mp k_42.2⟩ (c_X7_tell hKp h_41) rfl (pc1 := 129) rfl ?_
    refine ix_ineg X (ix_tb_at tb_X11_keepCore 69 rfl) (pc1 := 130) rfl ?_
    obtain ⟨k_44, h⟩ := ix_ck_some h
    obtain ⟨d_45, e_46, h⟩ := ix_lt_ex h
    refine iz_iast X k_44 (ix_tb_at tb_X11_keepCore 70 rfl) e_46 (pc1 := 131) rfl ?_
    obtain ⟨x4_47, e_48, h⟩ := ix_lt_ex h
    refine ix_iinc (i := 4) (j := 3) (v := x4_47) (L1 := [(4, .int x4_47), (0, .ref (K.2.2.1 + a0)), (2, .ref (K.2.2.1 + a2)), (3, .int x3)]) X (ix_tb_at tb_X11_keepCore 71 rfl) rfl (by rw [oi_1]; exact e_48.symm) (Nat.le_of_ble_eq_true rfl) rfl (pc1 := 134) rfl ?_
    refine ix_goto (tgt := 107) X (ix_tb_at tb_X11_keepCore 72 rfl) (by decide) ?_
    refine ix_sub (L1 := [(0, .ref (K.2.2.1 + a0)), (2, .ref (K.2.2.1 + a2)), (3, .int x3), (4, .int x4_47)]) [1, 2, 3, 0] rfl ?_
    exact hrec107 x4_47 d_45 h
theorem t_X11_keepCore_107 {l : Launch} {p : Program} {e : Env} {s : State} {m : MethodId} {args : Array Value} {below : List Frame} {meth : Method} {c : Code} {K : ix_Cx} (hKp : ix_Kp K) {n : Nat} {z : ix_Z} (X : ix_X p s m args c K cX11_keepCore RX11 5) (hr : meth.sig.returnType = (none : Option Jvm.ClassFile.FieldType)) (hlk : meth.locks = false)  {a0 : Nat} {a2 : Nat} {x3 : Int32} {d1 : ix_D2}  {x4 : Int32} {d : ix_D2} (h : f_X11_keepCore_107 n z  a0 a2 x3 x4 d = some d1) : ix_G p l e (ix_rm 3 64 0 0) s m args below meth c (MQ below (ix_Post K none (ix_w z d1)) args s 0 0 (ix_A K)) K 5 0 0 107 [(0, .ref (K.2.2.1 + a0)), (2, .ref (K.2.2.1 + a2)), (3, .int x3), (4, .int x4)] [] (ix_w z d) := by
  have key : ∀ (f : Nat) (x4 : Int32) (d : ix_D2), ix_fix (b_X11_keepCore_107 n z  a0 a2 x3) (fun _ _ => none) f x4 d = some d1 → ix_G p l e (ix_rm 3 64 0 0) s m args below meth c (MQ below (ix_Post K none (ix_w z d1)) args s 0 0 (ix_A K)) K 5 0 0 107 [(0, .ref (K.2.2.1 + a0)), (2, .ref (K.2.2.1 + a2)), (3, .int x3), (4, .int x4)] [] (ix_w z d) := by
    intro f
    induction f with
    | zero =>
      intro x4 d h
      have h : (none : Option (ix_D2)) = some d1 := h
      cases h
    | succ f ih =>
      intro x4 d h
      exact tb_X11_keepCore_107 hKp X hr hlk (rec107 := ix_fix (b_X11_keepCore_107 n z  a0 a2 x3) (fun _ _ => none) f)  ih h
  exact key n x4 d h
set_option maxRecDepth 20000 in
theorem t_X11_keepCore_66 {l : Launch} {p : Program} {e : Env} {s : State} {m : MethodId} {args : Array Value} {below : List Frame} {meth : Method} {c : Code} {K : ix_Cx} (hKp : ix_Kp K) {n : Nat} {z : ix_Z} (X : ix_X p s m args c K cX11_keepCore RX11 5) (hr : meth.sig.returnType = (none : Option Jvm.ClassFile.FieldType)) (hlk : meth.locks = false) {rec20 : Int32 → ix_D2 → Option (ix_D2)} {a0 : Nat} {x1 : Int32} {x2 : Int32} {d1 : ix_D2} (hrec20 : ∀ (x2 : Int32) (d : ix_D2), rec20 x2 d = some d1 → ix_G p l e (ix_rm 3 64 0 0) s m args below meth c (MQ below (ix_Post K none (ix_w z d1)) args s 0 0 (ix_A K)) K 5 0 0 20 [(0, .ref (K.2.2.1 + a0)), (1, .int x1), (2, .int x2)] [] (ix_w z d)) {d : ix_D2} (h : f_X11_keepCore_66 n z rec20 a0 x1 x2 d = some d1) : ix_G p l e (ix_rm 3 64 0 0) s m args below meth c (MQ below (ix_Post K none (ix_w z d1)) args s 0 0 (ix_A K)) K 5 0 0 66 [(0, .ref (K.2.2.1 + a0)), (1, .int x1), (2, .int x2)] [] (ix_w z d) := by
  unfold f_X11_keepCore_66 at h
  obtain ⟨x2_56, e_57, h⟩ := ix_lt_ex h
  refine ix_iinc (i := 2) (j := 2) (v := x2_56) (L1 := [(2, .int x2_56), (0, .ref (K.2.2.1 + a0)), (1, .int x1)]) X (ix_tb_at tb_X11_keepCore 37 rfl) rfl (by rw [oi_1]; exact e_57.symm) (Nat.le_of_ble_eq_true rfl) rfl (pc1 := 69) rfl ?_
  refine ix_goto (tgt := 20) X (ix_tb_at tb_X11_keepCore 38 rfl) (by decide) ?_
  refine ix_sub (L1 := [(0, .ref (K.2.2.1 + a0)), (1, .int x1), (2, .int x2_56)]) [1, 2, 0] rfl ?_
  exact hrec20 x2_56 d h
set_option maxRecDepth 20000 in
theorem tb_X11_keepCore_20 {l : Launch} {p : Program} {e : Env} {s : State} {m : MethodId} {args : Array Value} {below : List Frame} {meth : Method} {c : Code} {K : ix_Cx} (hKp : ix_Kp K) {n : Nat} {z : ix_Z} (X : ix_X p s m args c K cX11_keepCore RX11 5) (hr : meth.sig.returnType = (none : Option Jvm.ClassFile.FieldType)) (hlk : meth.locks = false)  {a0 : Nat} {x1 : Int32} {rec20 : Int32 → ix_D2 → Option (ix_D2)} {d1 : ix_D2} (hrec20 : ∀ (x2 : Int32) (d : ix_D2), rec20 x2 d = some d1 → ix_G p l e (ix_rm 3 64 0 0) s m args below meth c (MQ below (ix_Post K none (ix_w z d1)) args s 0 0 (ix_A K)) K 5 0 0 20 [(0, .ref (K.2.2.1 + a0)), (1, .int x1), (2, .int x2)] [] (ix_w z d)) {x2 : Int32} {d : ix_D2} (h : b_X11_keepCore_20 n z  a0 x1 rec20 x2 d = some d1) : ix_G p l e (ix_rm 3 64 0 0) s m args below meth c (MQ below (ix_Post K none (ix_w z d1)) args s 0 0 (ix_A K)) K 5 0 0 20 [(0, .ref (K.2.2.1 + a0)), (1, .int x1), (2, .int x2)] [] (ix_w z d) := by
  unfold b_X11_keepCore_20 at h
  refine ix_iload_n (i := 2) (j := 2) X (ix_tb_at tb_X11_keepCore 13 rfl) rfl rfl (pc1 := 21) rfl ?_
  refine ix_aload_n (i := 0) (j := 0) X (ix_tb_at tb_X11_keepCore 14 rfl) rfl rfl (pc1 := 22) rfl ?_
  obtain ⟨k_12, h⟩ := ix_ck_some h
  obtain ⟨b_13, q_14, h⟩ := ix_bd1_ex h
  refine iz_getR X fl_RX11_28 k_12 q_14 (ix_tb_at tb_X11_keepCore 15 rfl) (pc1 := 25) rfl ?_
  obtain ⟨k_15, h⟩ := ix_ck_some h
  obtain ⟨b_16, q_17, h⟩ := ix_bd1_ex h
  refine iz_getR X fl_RX11_195 k_15 q_17 (ix_tb_at tb_X11_keepCore 16 rfl) (pc1 := 28) rfl ?_
  obtain ⟨k_18, h⟩ := ix_ck_some h
  refine iz_getI X fl_RX11_224 k_18 (ix_tb_at tb_X11_keepCore 17 rfl) (pc1 := 31) rfl ?_
  refine ix_icmp_ge (tgt := 72) X (ix_tb_at tb_X11_keepCore 18 rfl) (by decide) (pc1 := 34) rfl (fun q_19 => ?_) (fun q_19 => ?_)
  · have h := ix_ift q_19 h
    refine ix_aload_n (i := 0) (j := 0) X (ix_tb_at tb_X11_keepCore 39 rfl) rfl rfl (pc1 := 73) rfl ?_
    obtain ⟨b_20, q_21, h⟩ := ix_bd1_ex h
    refine iz_getR X fl_RX11_41 k_12 q_21 (ix_tb_at tb_X11_keepCore 40 rfl) (pc1 := 76) rfl ?_
    obtain ⟨k_22, h⟩ := ix_ck_some h
    obtain ⟨b_23, q_24, h⟩ := ix_bd1_ex h
    refine iz_getR X fl_RX11_177 k_22 q_24 (ix_tb_at tb_X11_keepCore 41 rfl) (pc1 := 79) rfl ?_
    obtain ⟨k_25, h⟩ := ix_ck_some h
    obtain ⟨b_26, q_27, h⟩ := ix_bd1_ex h
    refine iz_getR X fl_RX11_181 k_25 q_27 (ix_tb_at tb_X11_keepCore 42 rfl) (pc1 := 82) rfl ?_
    refine ix_astore_n (i := 2) (L1 := [(2, .ref (K.2.2.1 + b_26)), (0, .ref (K.2.2.1 + a0)), (1, .int x1)]) X (ix_tb_at tb_X11_keepCore 43 rfl) rfl (Nat.le_of_ble_eq_true rfl) rfl (pc1 := 83) rfl ?_
    refine ix_aload_n (i := 2) (j := 0) X (ix_tb_at tb_X11_keepCore 44 rfl) rfl rfl (pc1 := 84) rfl ?_
    obtain ⟨k_28, h⟩ := ix_ck_some h
    refine iz_getI X fl_RX11_224 k_28 (ix_tb_at tb_X11_keepCore 45 rfl) (pc1 := 87) rfl ?_
    refine ix_iconst (v := 1) X (ix_tb_at tb_X11_keepCore 46 rfl) (by decide) (pc1 := 88) rfl ?_
    refine ix_isub X (ix_tb_at tb_X11_keepCore 47 rfl) (pc1 := 89) rfl ?_
    obtain ⟨x3_29, e_30, h⟩ := ix_lt_ex h
    refine ix_nmi e_30 ?_
    refine ix_istore_n (i := 3) (L1 := [(3, .int x3_29), (2, .ref (K.2.2.1 + b_26)), (0, .ref (K.2.2.1 + a0)), (1, .int x1)]) X (ix_tb_at tb_X11_keepCore 48 rfl) rfl (Nat.le_of_ble_eq_true rfl) rfl (pc1 := 90) rfl ?_
    refine ix_aload_n (i := 0) (j := 2) X (ix_tb_at tb_X11_keepCore 49 rfl) rfl rfl (pc1 := 91) rfl ?_
    refine ix_aload_n (i := 2) (j := 1) X (ix_tb_at tb_X11_keepCore 50 rfl) rfl rfl (pc1 := 92) rfl ?_
    refine ix_iload_n (i := 3) (j := 0) X (ix_tb_at tb_X11_keepCore 51 rfl) rfl rfl (pc1 := 93) rfl ?_
    obtain ⟨r_33, d_31, h_32, h⟩ := ix_bd2_ex h
    refine ix_callV (As := [.int x3_29]) (rest := [.ref (K.2.2.1 + a0)]) (ci := 7) (T := TX7) (nf := 3) X mf_X7_size mi_X7_size ms_X7_size rfl (Nat.le_of_ble_eq_true rfl) ml_RX11_335 ⟨Nat.le_of_ble_eq_true rfl, Nat.le_of_ble_eq_true rfl⟩ ⟨Nat.le_of_ble_eq_true rfl, Nat.le_of_ble_eq_true rfl⟩ rfl (Nat.le_of_ble_eq_true rfl) (ix_tb_at tb_X11_keepCore 52 rfl) ⟨k_28.1, List.mem_singleton.mp k_28.2⟩ (c_X7_size hKp h_32) rfl (pc1 := 96) rfl ?_
    refine ix_bipush (v := 20) X (ix_tb_at tb_X11_keepCore 53 rfl) (by decide) (pc1 := 98) rfl ?_
    refine ix_mmin X ml_RX11_428 (Nat.le_of_ble_eq_true rfl) (Nat.le_of_ble_eq_true rfl) ⟨Nat.le_of_ble_eq_true rfl, Nat.le_of_ble_eq_true rfl⟩ (ix_tb_at tb_X11_keepCore 54 rfl) (pc1 := 101) rfl ?_
    obtain ⟨d_34, e_35, h⟩ := ix_lt_ex h
    refine iz_putI X fp_RX11_305 k_12 (ix_tb_at tb_X11_keepCore 55 rfl) e_35 (pc1 := 104) rfl ?_
    refine ix_iconst (v := 0) X (ix_tb_at tb_X11_keepCore 56 rfl) (by decide) (pc1 := 105) rfl ?_
    refine ix_istore (i := 4) (L1 := [(4, .int 0), (3, .int x3_29), (2, .ref (K.2.2.1 + b_26)), (0, .ref (K.2.2.1 + a0)), (1, .int x1)]) X (ix_tb_at tb_X11_keepCore 57 rfl) (Nat.le_of_ble_eq_true rfl) rfl (pc1 := 107) rfl ?_
    refine ix_sub (L1 := [(0, .ref (K.2.2.1 + a0)), (2, .ref (K.2.2.1 + b_26)), (3, .int x3_29), (4, .int 0)]) [3, 2, 1, 0] rfl ?_
    exact t_X11_keepCore_107 hKp X hr hlk  h
  · have h := ix_iff q_19 h
    refine ix_aload_n (i := 0) (j := 0) X (ix_tb_at tb_X11_keepCore 19 rfl) rfl rfl (pc1 := 35) rfl ?_
    obtain ⟨b_49, q_50, h⟩ := ix_bd1_ex h
    refine iz_getR X fl_RX11_41 k_12 q_50 (ix_tb_at tb_X11_keepCore 20 rfl) (pc1 := 38) rfl ?_
    refine ix_iload_n (i := 1) (j := 1) X (ix_tb_at tb_X11_keepCore 21 rfl) rfl rfl (pc1 := 39) rfl ?_
    refine ix_iload_n (i := 2) (j := 2) X (ix_tb_at tb_X11_keepCore 22 rfl) rfl rfl (pc1 := 40) rfl ?_
    obtain ⟨k_53, h⟩ := ix_ck_some h
    obtain ⟨r_54, d_51, h_52, h⟩ := ix_bd2_ex h
    refine ix_callV (As := [.int x1, .int x2]) (rest := []) (ci := 8) (T := TX9) (nf := 20) X mf_X9_hasSource mi_X9_hasSource ms_X9_hasSource rfl (Nat.le_of_ble_eq_true rfl) ml_RX11_424 ⟨Nat.le_of_ble_eq_true rfl, Nat.le_of_ble_eq_true rfl⟩ ⟨Nat.le_of_ble_eq_true rfl, Nat.le_of_ble_eq_true rfl⟩ rfl (Nat.le_of_ble_eq_true rfl) (ix_tb_at tb_X11_keepCore 23 rfl) ⟨k_53.1, List.mem_singleton.mp k_53.2⟩ (c_X9_hasSource hKp h_52) rfl (pc1 := 43) rfl ?_
    refine ix_if_eq (tgt := 66) X (ix_tb_at tb_X11_keepCore 24 rfl) (by decide) (pc1 := 46) rfl (fun q_55 => ?_) (fun q_55 => ?_)
    · have h := ix_ift q_55 h
      refine ix_sub (L1 := [(0, .ref (K.2.2.1 + a0)), (1, .int x1), (2, .int x2)]) [0, 1, 2] rfl ?_
      exact t_X11_keepCore_66 hKp X hr hlk hrec20 h
    · have h := ix_iff q_55 h
      refine ix_aload_n (i := 0) (j := 0) X (ix_tb_at tb_X11_keepCore 25 rfl) rfl rfl (pc1 := 47) rfl ?_
      obtain ⟨b_58, q_59, h⟩ := ix_bd1_ex h
      refine iz_getR X fl_RX11_57 k_12 q_59 (ix_tb_at tb_X11_keepCore 26 rfl) (pc1 := 50) rfl ?_
      refine ix_aload_n (i := 0) (j := 0) X (ix_tb_at tb_X11_keepCore 27 rfl) rfl rfl (pc1 := 51) rfl ?_
      refine iz_getI X fl_RX11_302 k_12 (ix_tb_at tb_X11_keepCore 28 rfl) (pc1 := 54) rfl ?_
      refine ix_iload_n (i := 2) (j := 2) X (ix_tb_at tb_X11_keepCore 29 rfl) rfl rfl (pc1 := 55) rfl ?_
      obtain ⟨k_60, h⟩ := ix_ck_some h
      obtain ⟨d_61, e_62, h⟩ := ix_lt_ex h
      refine iz_iast X k_60 (ix_tb_at tb_X11_keepCore 30 rfl) e_62 (pc1 := 56) rfl ?_
      refine ix_aload_n (i := 0) (j := 0) X (ix_tb_at tb_X11_keepCore 31 rfl) rfl rfl (pc1 := 57) rfl ?_
      refine ix_dup X (ix_tb_at tb_X11_keepCore 32 rfl) rfl (pc1 := 58) rfl ?_
      refine iz_getI X fl_RX11_302 k_12 (ix_tb_at tb_X11_keepCore 33 rfl) (pc1 := 61) rfl ?_
      refine ix_iconst (v := 1) X (ix_tb_at tb_X11_keepCore 34 rfl) (by decide) (pc1 := 62) rfl ?_
      refine ix_iadd X (ix_tb_at tb_X11_keepCore 35 rfl) (pc1 := 63) rfl ?_
      obtain ⟨d_63, e_64, h⟩ := ix_lt_ex h
      refine iz_putI X fp_RX11_302 k_12 (ix_tb_at tb_X11_keepCore 36 rfl) e_64 (pc1 := 66) rfl ?_
      refine ix_sub (L1 := [(0, .ref (K.2.2.1 + a0)), (1, .int x1), (2, .int x2)]) [0, 1, 2] rfl ?_
      exact t_X11_keepCore_66 hKp X hr hlk hrec20 h
theorem t_X11_keepCore_20 {l : Launch} {p : Program} {e : Env} {s : State} {m : MethodId} {args : Array Value} {below : List Frame} {meth : Method} {c : Code} {K : ix_Cx} (hKp : ix_Kp K) {n : Nat} {z : ix_Z} (X : ix_X p s m args c K cX11_keepCore RX11 5) (hr : meth.sig.returnType = (none : Option Jvm.ClassFile.FieldType)) (hlk : meth.locks = false)  {a0 : Nat} {x1 : Int32} {d1 : ix_D2}  {x2 : Int32} {d : ix_D2} (h : f_X11_keepCore_20 n z  a0 x1 x2 d = some d1) : ix_G p l e (ix_rm 3 64 0 0) s m args below meth c (MQ below (ix_Post K none (ix_w z d1)) args s 0 0 (ix_A K)) K 5 0 0 20 [(0, .ref (K.2.2.1 + a0)), (1, .int x1), (2, .int x2)] [] (ix_w z d) := by
  have key : ∀ (f : Nat) (x2 : Int32) (d : ix_D2), ix_fix (b_X11_keepCore_20 n z  a0 x1) (fun _ _ => none) f x2 d = some d1 → ix_G p l e (ix_rm 3 64 0 0) s m args below meth c (MQ below (ix_Post K none (ix_w z d1)) args s 0 0 (ix_A K)) K 5 0 0 20 [(0, .ref (K.2.2.1 + a0)), (1, .int x1), (2, .int x2)] [] (ix_w z d) := by
    intro f
    induction f with
    | zero =>
      intro x2 d h
      have h : (none : Option (ix_D2)) = some d1 := h
      cases h
    | succ f ih =>
      intro x2 d h
      exact tb_X11_keepCore_20 hKp X hr hlk (rec20 := ix_fix (b_X11_keepCore_20 n z  a0 x1) (fun _ _ => none) f)  ih h
  exact key n x2 d h
set_option maxRecDepth 20000 in
theorem c_X11_keepCore {l : Launch} {K : ix_Cx} (hKp : ix_Kp K) {n : Nat} {z : ix_Z} {a0 : Nat} {d : ix_D2} {d1 : ix_D2} (h : f_X11_keepCore n z a0 d = some d1) : ix_M l K yX11_keepCore cX11_keepCore 5 (none : Option Jvm.ClassFile.FieldType) 3 64 0 0 [.ref (K.2.2.1 + a0)] (ix_w z d) none (ix_w z d1) := by
  refine ix_met mf_X11_keepCore hKp (Nat.le_of_ble_eq_true rfl) ?_
  intro p e s m args below meth c hr hlk hnm X
  have X : ix_X p s m args c K cX11_keepCore RX11 5 := X
  show ix_G p l e (ix_rm 3 64 0 0) s m args below meth c (MQ below (ix_Post K none (ix_w z d1)) args s 0 0 (ix_A K)) K 5 0 0 0 [(0, .ref (K.2.2.1 + a0))] [] (ix_w z d)
  unfold f_X11_keepCore at h
  refine ix_aload_n (i := 0) (j := 0) X (ix_tb_at tb_X11_keepCore 0 rfl) rfl rfl (pc1 := 1) rfl ?_
  refine ix_iconst (v := 0) X (ix_tb_at tb_X11_keepCore 1 rfl) (by decide) (pc1 := 2) rfl ?_
  obtain ⟨k_1, h⟩ := ix_ck_some h
  obtain ⟨d_2, e_3, h⟩ := ix_lt_ex h
  refine iz_putI X fp_RX11_302 k_1 (ix_tb_at tb_X11_keepCore 2 rfl) e_3 (pc1 := 5) rfl ?_
  refine ix_aload_n (i := 0) (j := 0) X (ix_tb_at tb_X11_keepCore 3 rfl) rfl rfl (pc1 := 6) rfl ?_
  obtain ⟨b_4, q_5, h⟩ := ix_bd1_ex h
  refine iz_getR X fl_RX11_41 k_1 q_5 (ix_tb_at tb_X11_keepCore 4 rfl) (pc1 := 9) rfl ?_
  obtain ⟨k_6, h⟩ := ix_ck_some h
  obtain ⟨b_7, q_8, h⟩ := ix_bd1_ex h
  refine iz_getR X fl_RX11_174 k_6 q_8 (ix_tb_at tb_X11_keepCore 5 rfl) (pc1 := 12) rfl ?_
  refine ix_bipush (v := 8) X (ix_tb_at tb_X11_keepCore 6 rfl) (by decide) (pc1 := 14) rfl ?_
  obtain ⟨k_9, h⟩ := ix_ck_some h
  refine iz_iald X k_9 (ix_tb_at tb_X11_keepCore 7 rfl) (pc1 := 15) rfl ?_
  refine ix_iconst (v := 1) X (ix_tb_at tb_X11_keepCore 8 rfl) (by decide) (pc1 := 16) rfl ?_
  refine ix_isub X (ix_tb_at tb_X11_keepCore 9 rfl) (pc1 := 17) rfl ?_
  obtain ⟨x1_10, e_11, h⟩ := ix_lt_ex h
  refine ix_nmi e_11 ?_
  refine ix_istore_n (i := 1) (L1 := [(1, .int x1_10), (0, .ref (K.2.2.1 + a0))]) X (ix_tb_at tb_X11_keepCore 10 rfl) rfl (Nat.le_of_ble_eq_true rfl) rfl (pc1 := 18) rfl ?_
  refine ix_iconst (v := 0) X (ix_tb_at tb_X11_keepCore 11 rfl) (by decide) (pc1 := 19) rfl ?_
  refine ix_istore_n (i := 2) (L1 := [(2, .int 0), (1, .int x1_10), (0, .ref (K.2.2.1 + a0))]) X (ix_tb_at tb_X11_keepCore 12 rfl) rfl (Nat.le_of_ble_eq_true rfl) rfl (pc1 := 20) rfl ?_
  refine ix_sub (L1 := [(0, .ref (K.2.2.1 + a0)), (1, .int x1_10), (2, .int 0)]) [2, 1, 0] rfl ?_
  exact t_X11_keepCore_20 hKp X hr hlk  h

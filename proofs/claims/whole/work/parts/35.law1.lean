noncomputable def f_law_268 (n Ls : Nat) (xs : Nat → Int32) (z : ix_Z) (a1 a2 : Nat) (x3 : Int32) (d : ix_D2) : Option (ix_Z × ix_D2) :=
  ix_ck (vp_in (x3 + 1) Ls) (ix_ck (ix_ok z [10] a1) (ix_bd2 (f_X11_names n z a1 (xs (ix_n (x3 + 1))) d) (fun r_7 d_4 => ix_ck (ix_ok z [11] a2) (ix_bd2 (f_X12_names n z a2 (xs (ix_n (x3 + 1))) d_4) (fun r_11 d_8 => ix_if (r_7 = r_11) (some (z, d_8)) (none))))))
noncomputable def f_law_291 (n Ls : Nat) (xs : Nat → Int32) (z : ix_Z) (a1 a2 : Nat) (x3 : Int32) (d : ix_D2) : Option (ix_Z × ix_D2) :=
  ix_ck (vp_in (x3 + 1) Ls) (ix_ck (vp_in (x3 + 2) Ls) (ix_ck (ix_ok z [10] a1) (ix_bd2 (f_X11_row n z a1 (xs (ix_n (x3 + 1))) (xs (ix_n (x3 + 2))) d) (fun r_19 d_16 => ix_ck (ix_ok z [11] a2) (ix_bd2 (f_X12_row n z a2 (xs (ix_n (x3 + 1))) (xs (ix_n (x3 + 2))) d_16) (fun r_23 d_20 => ix_if (r_19 = r_23) (some (z, d_20)) (none)))))))
noncomputable def f_law_324 (n Ls : Nat) (xs : Nat → Int32) (z : ix_Z) (a1 a2 : Nat) (x3 : Int32) (d : ix_D2) : Option (ix_Z × ix_D2) :=
  ix_ck (vp_in (x3 + 1) Ls) (ix_ck (ix_ok z [10] a1) (ix_bd2 (f_X11_drop n z a1 (xs (ix_n (x3 + 1))) d) (fun r_30 d_27 => ix_ck (ix_ok z [11] a2) (ix_bd2 (f_X12_drop n z a2 (xs (ix_n (x3 + 1))) d_27) (fun r_34 d_31 => ix_if (r_30 = r_34) (some (z, d_31)) (none))))))
noncomputable def f_law_347 (n Ls : Nat) (xs : Nat → Int32) (z : ix_Z) (a1 a2 : Nat) (x3 : Int32) (d : ix_D2) : Option (ix_Z × ix_D2) :=
  ix_ck (vp_in (x3 + 1) Ls) (ix_ck (vp_in (x3 + 2) Ls) (ix_ck (vp_in (x3 + 3) Ls) (ix_ck (ix_ok z [10] a1) (ix_bd2 (f_X11_put n z a1 (xs (ix_n (x3 + 1))) (xs (ix_n (x3 + 2))) (xs (ix_n (x3 + 3))) d) (fun r_43 d_40 => ix_ck (ix_ok z [11] a2) (ix_bd2 (f_X12_put n z a2 (xs (ix_n (x3 + 1))) (xs (ix_n (x3 + 2))) (xs (ix_n (x3 + 3))) d_40) (fun r_47 d_44 => ix_if (r_43 = r_47) (some (z, d_44)) (none))))))))
noncomputable def f_law_390 (n Ls : Nat) (xs : Nat → Int32) (z : ix_Z) (a1 a2 : Nat) (x3 : Int32) (d : ix_D2) : Option (ix_Z × ix_D2) :=
  ix_ck (vp_in (x3 + 1) Ls) (ix_ck (vp_in (x3 + 2) Ls) (ix_ck (ix_ok z [10] a1) (ix_bd2 (f_X11_get n z a1 (xs (ix_n (x3 + 1))) (xs (ix_n (x3 + 2))) d) (fun r_55 d_52 => ix_ck (ix_ok z [11] a2) (ix_bd2 (f_X12_get n z a2 (xs (ix_n (x3 + 1))) (xs (ix_n (x3 + 2))) d_52) (fun r_59 d_56 => ix_if (lg_cmp r_55 r_59 = 0) (some (z, d_56)) (none)))))))
noncomputable def f_law_424 (n Ls : Nat) (xs : Nat → Int32) (z : ix_Z) (a1 a2 : Nat) (x3 : Int32) (d : ix_D2) : Option (ix_Z × ix_D2) :=
  ix_ck (vp_in (x3 + 1) Ls) (ix_ck (vp_in (x3 + 2) Ls) (ix_ck (vp_in (x3 + 3) Ls) (ix_ck (vp_in (x3 + 4) Ls) (ix_ck (vp_in (x3 + 5) Ls) (ix_ck (ix_ok z [10] a1) (ix_bd2 (f_X11_copy n z a1 (xs (ix_n (x3 + 1))) (xs (ix_n (x3 + 2))) (xs (ix_n (x3 + 3))) (xs (ix_n (x3 + 4))) (xs (ix_n (x3 + 5))) d) (fun r_70 d_67 => ix_ck (ix_ok z [11] a2) (ix_bd2 (f_X12_copy n z a2 (xs (ix_n (x3 + 1))) (xs (ix_n (x3 + 2))) (xs (ix_n (x3 + 3))) (xs (ix_n (x3 + 4))) (xs (ix_n (x3 + 5))) d_67) (fun r_74 d_71 => ix_if (r_70 = r_74) (some (z, d_71)) (none))))))))))
noncomputable def f_law_487 (n Ls : Nat) (xs : Nat → Int32) (z : ix_Z) (a1 a2 : Nat) (x3 : Int32) (d : ix_D2) : Option (ix_Z × ix_D2) :=
  ix_ck (vp_in (x3 + 1) Ls) (ix_ck (vp_in (x3 + 2) Ls) (ix_ck (ix_ok z [10] a1) (ix_bd2 (f_X11_cut n z a1 (xs (ix_n (x3 + 1))) (xs (ix_n (x3 + 2))) d) (fun r_82 d_79 => ix_ck (ix_ok z [11] a2) (ix_bd2 (f_X12_cut n z a2 (xs (ix_n (x3 + 1))) (xs (ix_n (x3 + 2))) d_79) (fun r_86 d_83 => ix_if (r_82 = r_86) (some (z, d_83)) (none)))))))
noncomputable def f_law_520 (n Ls : Nat) (xs : Nat → Int32) (z : ix_Z) (a1 a2 : Nat) (x3 : Int32) (d : ix_D2) : Option (ix_Z × ix_D2) :=
  ix_ck (vp_in (x3 + 1) Ls) (ix_ck (vp_in (x3 + 2) Ls) (ix_ck (vp_in (x3 + 3) Ls) (ix_ck (ix_ok z [10] a1) (ix_bd2 (f_X11_feed n z a1 ((((xs (ix_n (x3 + 1))).toInt64) <<< ((32 : Int32).toInt64 &&& 63)) ||| (((xs (ix_n (x3 + 2))).toInt64) &&& 4294967295)) (xs (ix_n (x3 + 3))) d) (fun r_95 d_92 => ix_ck (ix_ok z [11] a2) (ix_bd2 (f_X12_feed n z a2 ((((xs (ix_n (x3 + 1))).toInt64) <<< ((32 : Int32).toInt64 &&& 63)) ||| (((xs (ix_n (x3 + 2))).toInt64) &&& 4294967295)) (xs (ix_n (x3 + 3))) d_92) (fun r_99 d_96 => ix_if (r_95 = r_99) (some (z, d_96)) (none))))))))
noncomputable def f_law_583 (n Ls : Nat) (xs : Nat → Int32) (z : ix_Z) (a1 a2 : Nat) (x3 : Int32) (d : ix_D2) : Option (ix_Z × ix_D2) :=
  ix_ck (ix_ok z [10] a1) (ix_bd2 (f_X11_wipe n z a1 d) (fun r_105 d_102 => ix_ck (ix_ok z [11] a2) (ix_bd2 (f_X12_wipe n z a2 d_102) (fun r_109 d_106 => ix_if (r_105 = r_109) (some (z, d_106)) (none)))))
noncomputable def f_law_596 (n Ls : Nat) (xs : Nat → Int32) (z : ix_Z) (a1 a2 : Nat) (x3 : Int32) (d : ix_D2) : Option (ix_Z × ix_D2) :=
  ix_ck (vp_in (x3 + 1) Ls) (ix_ck (ix_ok z [10] a1) (ix_bd3 (f_X11_clause n z a1 (xs (ix_n (x3 + 1))) d) (fun r_117 z_116 d_113 => ix_ck (vp_in (x3 + 1) Ls) (ix_ck (ix_ok z_116 [11] a2) (ix_bd2 (f_X12_clause n z_116 a2 (xs (ix_n (x3 + 1))) d_113) (fun r_122 d_119 => ix_if (r_117 = r_122) (some (z_116, d_119)) (none)))))))
noncomputable def f_law_619 (n Ls : Nat) (xs : Nat → Int32) (z : ix_Z) (a1 a2 : Nat) (x3 : Int32) (d : ix_D2) : Option (ix_Z × ix_D2) :=
  ix_ck (vp_in (x3 + 1) Ls) (ix_ck (vp_in (x3 + 2) Ls) (ix_ck (ix_ok z [10] a1) (ix_bd3 (f_X11_atMost n z a1 (xs (ix_n (x3 + 1))) (xs (ix_n (x3 + 2))) d) (fun r_131 z_130 d_127 => ix_ck (vp_in (x3 + 1) Ls) (ix_ck (vp_in (x3 + 2) Ls) (ix_ck (ix_ok z_130 [11] a2) (ix_bd2 (f_X12_atMost n z_130 a2 (xs (ix_n (x3 + 1))) (xs (ix_n (x3 + 2))) d_127) (fun r_137 d_134 => ix_if (r_131 = r_137) (some (z_130, d_134)) (none)))))))))
noncomputable def f_law_652 (n Ls : Nat) (xs : Nat → Int32) (z : ix_Z) (a1 a2 : Nat) (x3 : Int32) (d : ix_D2) : Option (ix_Z × ix_D2) :=
  ix_ck (vp_in (x3 + 1) Ls) (ix_ck (vp_in (x3 + 2) Ls) (ix_ck (ix_ok z [10] a1) (ix_bd3 (f_X11_group n z a1 (xs (ix_n (x3 + 1))) (xs (ix_n (x3 + 2))) d) (fun r_146 z_145 d_142 => ix_ck (vp_in (x3 + 1) Ls) (ix_ck (vp_in (x3 + 2) Ls) (ix_ck (ix_ok z_145 [11] a2) (ix_bd2 (f_X12_group n z_145 a2 (xs (ix_n (x3 + 1))) (xs (ix_n (x3 + 2))) d_142) (fun r_152 d_149 => ix_if (r_146 = r_152) (some (z_145, d_149)) (none)))))))))
noncomputable def f_law_685 (n Ls : Nat) (xs : Nat → Int32) (z : ix_Z) (a1 a2 : Nat) (x3 : Int32) (d : ix_D2) : Option (ix_Z × ix_D2) :=
  ix_ck (vp_in (x3 + 1) Ls) (ix_ck (vp_in (x3 + 2) Ls) (ix_if (xs (ix_n (x3 + 2)) = 0) (ix_ck (ix_ok z [10] a1) (ix_bd3 (f_X11_parity n z a1 (xs (ix_n (x3 + 1))) 0 d) (fun r_162 z_161 d_158 => ix_ck (vp_in (x3 + 1) Ls) (ix_ck (vp_in (x3 + 2) Ls) (ix_if (xs (ix_n (x3 + 2)) = 0) (ix_ck (ix_ok z_161 [11] a2) (ix_bd2 (f_X12_parity n z_161 a2 (xs (ix_n (x3 + 1))) 0 d_158) (fun r_169 d_166 => ix_if (r_162 = r_169) (some (z_161, d_166)) (none)))) (ix_ck (ix_ok z_161 [11] a2) (ix_bd2 (f_X12_parity n z_161 a2 (xs (ix_n (x3 + 1))) 1 d_158) (fun r_174 d_171 => ix_if (r_162 = r_174) (some (z_161, d_171)) (none))))))))) (ix_ck (ix_ok z [10] a1) (ix_bd3 (f_X11_parity n z a1 (xs (ix_n (x3 + 1))) 1 d) (fun r_180 z_179 d_176 => ix_ck (vp_in (x3 + 1) Ls) (ix_ck (vp_in (x3 + 2) Ls) (ix_if (xs (ix_n (x3 + 2)) = 0) (ix_ck (ix_ok z_179 [11] a2) (ix_bd2 (f_X12_parity n z_179 a2 (xs (ix_n (x3 + 1))) 0 d_176) (fun r_187 d_184 => ix_if (r_180 = r_187) (some (z_179, d_184)) (none)))) (ix_ck (ix_ok z_179 [11] a2) (ix_bd2 (f_X12_parity n z_179 a2 (xs (ix_n (x3 + 1))) 1 d_176) (fun r_192 d_189 => ix_if (r_180 = r_192) (some (z_179, d_189)) (none)))))))))))
noncomputable def f_law_734 (n Ls : Nat) (xs : Nat → Int32) (z : ix_Z) (a1 a2 : Nat) (x3 : Int32) (d : ix_D2) : Option (ix_Z × ix_D2) :=
  ix_ck (ix_ok z [10] a1) (ix_bd3 (f_X11_told n z a1 d) (fun r_199 z_198 d_195 => ix_ck (ix_ok z_198 [11] a2) (ix_bd2 (f_X12_told n z_198 a2 d_195) (fun r_203 d_200 => ix_if (r_199 = r_203) (some (z_198, d_200)) (none)))))
noncomputable def f_law_747 (n Ls : Nat) (xs : Nat → Int32) (z : ix_Z) (a1 a2 : Nat) (x3 : Int32) (d : ix_D2) : Option (ix_Z × ix_D2) :=
  ix_ck (vp_in (x3 + 1) Ls) (ix_ck (ix_ok z [10] a1) (ix_bd2 (f_X11_kind n z a1 (xs (ix_n (x3 + 1))) d) (fun r_210 d_207 => ix_ck (ix_ok z [11] a2) (ix_bd2 (f_X12_kind n z a2 (xs (ix_n (x3 + 1))) d_207) (fun r_214 d_211 => ix_if (r_210 = r_214) (some (z, d_211)) (none))))))
noncomputable def f_law_770 (n Ls : Nat) (xs : Nat → Int32) (z : ix_Z) (a1 a2 : Nat) (x3 : Int32) (d : ix_D2) : Option (ix_Z × ix_D2) :=
  ix_ck (vp_in (x3 + 1) Ls) (ix_ck (vp_in (x3 + 2) Ls) (ix_ck (ix_ok z [10] a1) (ix_bd2 (f_X11_as n z a1 (xs (ix_n (x3 + 1))) (xs (ix_n (x3 + 2))) d) (fun r_222 d_219 => ix_ck (ix_ok z [11] a2) (ix_bd2 (f_X12_as n z a2 (xs (ix_n (x3 + 1))) (xs (ix_n (x3 + 2))) d_219) (fun r_226 d_223 => ix_if (r_222 = r_226) (some (z, d_223)) (none)))))))
noncomputable def f_law_803 (n Ls : Nat) (xs : Nat → Int32) (z : ix_Z) (a1 a2 : Nat) (x3 : Int32) (d : ix_D2) : Option (ix_Z × ix_D2) :=
  ix_ck (vp_in (x3 + 1) Ls) (ix_ck (vp_in (x3 + 2) Ls) (ix_ck (ix_ok z [10] a1) (ix_bd2 (f_X11_item n z a1 (xs (ix_n (x3 + 1))) (xs (ix_n (x3 + 2))) d) (fun r_234 d_231 => ix_ck (ix_ok z [11] a2) (ix_bd2 (f_X12_item n z a2 (xs (ix_n (x3 + 1))) (xs (ix_n (x3 + 2))) d_231) (fun r_238 d_235 => ix_if (r_234 = r_238) (some (z, d_235)) (none)))))))
noncomputable def f_law_836 (n Ls : Nat) (xs : Nat → Int32) (z : ix_Z) (a1 a2 : Nat) (x3 : Int32) (d : ix_D2) : Option (ix_Z × ix_D2) :=
  ix_ck (vp_in (x3 + 1) Ls) (ix_ck (vp_in (x3 + 2) Ls) (ix_ck (ix_ok z [10] a1) (ix_bd2 (f_X11_rows n z a1 (xs (ix_n (x3 + 1))) (xs (ix_n (x3 + 2))) d) (fun r_246 d_243 => ix_ck (ix_ok z [11] a2) (ix_bd2 (f_X12_rows n z a2 (xs (ix_n (x3 + 1))) (xs (ix_n (x3 + 2))) d_243) (fun r_250 d_247 => ix_if (r_246 = r_250) (some (z, d_247)) (none)))))))
noncomputable def f_law_869 (n Ls : Nat) (xs : Nat → Int32) (z : ix_Z) (a1 a2 : Nat) (x3 : Int32) (d : ix_D2) : Option (ix_Z × ix_D2) :=
  ix_ck (vp_in (x3 + 1) Ls) (ix_ck (vp_in (x3 + 2) Ls) (ix_ck (ix_ok z [10] a1) (ix_bd2 (f_X11_line n z a1 (xs (ix_n (x3 + 1))) (xs (ix_n (x3 + 2))) d) (fun r_258 d_255 => ix_ck (ix_ok z [11] a2) (ix_bd2 (f_X12_line n z a2 (xs (ix_n (x3 + 1))) (xs (ix_n (x3 + 2))) d_255) (fun r_262 d_259 => ix_if (r_258 = r_262) (some (z, d_259)) (none)))))))
noncomputable def f_law_902 (n Ls : Nat) (xs : Nat → Int32) (z : ix_Z) (a1 a2 : Nat) (x3 : Int32) (d : ix_D2) : Option (ix_Z × ix_D2) :=
  ix_ck (vp_in (x3 + 1) Ls) (ix_ck (vp_in (x3 + 2) Ls) (ix_ck (ix_ok z [10] a1) (ix_bd2 (f_X11_ask n z a1 (xs (ix_n (x3 + 1))) (xs (ix_n (x3 + 2))) d) (fun r_270 d_267 => ix_ck (ix_ok z [11] a2) (ix_bd2 (f_X12_ask n z a2 (xs (ix_n (x3 + 1))) (xs (ix_n (x3 + 2))) d_267) (fun r_274 d_271 => ix_if (r_270 = r_274) (some (z, d_271)) (none)))))))
noncomputable def f_law_935 (n Ls : Nat) (xs : Nat → Int32) (z : ix_Z) (a1 a2 : Nat) (x3 : Int32) (d : ix_D2) : Option (ix_Z × ix_D2) :=
  ix_ck (vp_in (x3 + 1) Ls) (ix_ck (ix_ok z [10] a1) (ix_bd2 (f_X11_print n z a1 (xs (ix_n (x3 + 1))) d) (fun r_281 d_278 => ix_ck (ix_ok z [11] a2) (ix_bd2 (f_X12_print n z a2 (xs (ix_n (x3 + 1))) d_278) (fun r_285 d_282 => ix_if (r_281 = r_285) (some (z, d_282)) (none))))))
noncomputable def f_law_958 (n Ls : Nat) (xs : Nat → Int32) (z : ix_Z) (a1 a2 : Nat) (x3 : Int32) (d : ix_D2) : Option (ix_Z × ix_D2) :=
  ix_ck (ix_ok z [10] a1) (ix_bd2 (f_X11_export n z a1 d) (fun r_291 d_288 => ix_ck (ix_ok z [11] a2) (ix_bd2 (f_X12_export n z a2 d_288) (fun r_295 d_292 => ix_if (r_291 = r_295) (some (z, d_292)) (none)))))
noncomputable def f_law_971 (n Ls : Nat) (xs : Nat → Int32) (z : ix_Z) (a1 a2 : Nat) (x3 : Int32) (d : ix_D2) : Option (ix_Z × ix_D2) :=
  ix_ck (vp_in (x3 + 1) Ls) (ix_ck (ix_ok z [10] a1) (ix_bd2 (f_X11_out n z a1 (xs (ix_n (x3 + 1))) d) (fun r_302 d_299 => ix_ck (ix_ok z [11] a2) (ix_bd2 (f_X12_out n z a2 (xs (ix_n (x3 + 1))) d_299) (fun r_306 d_303 => ix_if (r_302 = r_306) (some (z, d_303)) (none))))))
noncomputable def f_law_994 (n Ls : Nat) (xs : Nat → Int32) (z : ix_Z) (a1 a2 : Nat) (x3 : Int32) (d : ix_D2) : Option (ix_Z × ix_D2) :=
  ix_ck (vp_in (x3 + 1) Ls) (ix_ck (ix_ok z [10] a1) (ix_bd2 (f_X11_assume n z a1 (xs (ix_n (x3 + 1))) d) (fun r_313 d_310 => ix_ck (ix_ok z [11] a2) (ix_bd2 (f_X12_assume n z a2 (xs (ix_n (x3 + 1))) d_310) (fun r_317 d_314 => ix_if (r_313 = r_317) (some (z, d_314)) (none))))))
noncomputable def f_law_1017 (n Ls : Nat) (xs : Nat → Int32) (z : ix_Z) (a1 a2 : Nat) (x3 : Int32) (d : ix_D2) : Option (ix_Z × ix_D2) :=
  ix_ck (ix_ok z [10] a1) (ix_bd2 (f_X11_free n z a1 d) (fun r_323 d_320 => ix_ck (ix_ok z [11] a2) (ix_bd2 (f_X12_free n z a2 d_320) (fun r_327 d_324 => ix_if (r_323 = r_327) (some (z, d_324)) (none)))))
noncomputable def f_law_1030 (n Ls : Nat) (xs : Nat → Int32) (z : ix_Z) (a1 a2 : Nat) (x3 : Int32) (d : ix_D2) : Option (ix_Z × ix_D2) :=
  ix_ck (vp_in (x3 + 1) Ls) (ix_ck (vp_in (x3 + 2) Ls) (ix_ck (ix_ok z [10] a1) (ix_bd2 (f_X11_weight n z a1 (xs (ix_n (x3 + 1))) (xs (ix_n (x3 + 2))) d) (fun r_335 d_332 => ix_ck (ix_ok z [11] a2) (ix_bd2 (f_X12_weight n z a2 (xs (ix_n (x3 + 1))) (xs (ix_n (x3 + 2))) d_332) (fun r_339 d_336 => ix_if (r_335 = r_339) (some (z, d_336)) (none)))))))
noncomputable def f_law_1063 (n Ls : Nat) (xs : Nat → Int32) (z : ix_Z) (a1 a2 : Nat) (x3 : Int32) (d : ix_D2) : Option (ix_Z × ix_D2) :=
  ix_ck (vp_in (x3 + 1) Ls) (ix_ck (ix_ok z [10] a1) (ix_bd2 (f_X11_weighs n z a1 (xs (ix_n (x3 + 1))) d) (fun r_346 d_343 => ix_ck (ix_ok z [11] a2) (ix_bd2 (f_X12_weighs n z a2 (xs (ix_n (x3 + 1))) d_343) (fun r_350 d_347 => ix_if (lg_cmp r_346 r_350 = 0) (some (z, d_347)) (none))))))
noncomputable def f_law_1087 (n Ls : Nat) (xs : Nat → Int32) (z : ix_Z) (a1 a2 : Nat) (x3 : Int32) (d : ix_D2) : Option (ix_Z × ix_D2) :=
  ix_ck (vp_in (x3 + 1) Ls) (ix_ck (ix_ok z [10] a1) (ix_bd2 (f_X11_begin n z a1 (xs (ix_n (x3 + 1))) d) (fun r_357 d_354 => ix_ck (ix_ok z [11] a2) (ix_bd2 (f_X12_begin n z a2 (xs (ix_n (x3 + 1))) d_354) (fun r_361 d_358 => ix_if (r_357 = r_361) (some (z, d_358)) (none))))))
noncomputable def f_law_1110 (n Ls : Nat) (xs : Nat → Int32) (z : ix_Z) (a1 a2 : Nat) (x3 : Int32) (d : ix_D2) : Option (ix_Z × ix_D2) :=
  ix_ck (vp_in (x3 + 1) Ls) (ix_ck (ix_ok z [10] a1) (ix_bd2 (f_X11_forget n z a1 (xs (ix_n (x3 + 1))) d) (fun r_368 d_365 => ix_ck (ix_ok z [11] a2) (ix_bd2 (f_X12_forget n z a2 (xs (ix_n (x3 + 1))) d_365) (fun r_372 d_369 => ix_if (r_368 = r_372) (some (z, d_369)) (none))))))
noncomputable def f_law_1133 (n Ls : Nat) (xs : Nat → Int32) (z : ix_Z) (a1 a2 : Nat) (x3 : Int32) (d : ix_D2) : Option (ix_Z × ix_D2) :=
  ix_ck (vp_in (x3 + 1) Ls) (ix_ck (ix_ok z [10] a1) (ix_bd2 (f_X11_solve n z a1 (xs (ix_n (x3 + 1))) d) (fun r_379 d_376 => ix_ck (ix_ok z [11] a2) (ix_bd2 (f_X12_solve n z a2 (xs (ix_n (x3 + 1))) d_376) (fun r_383 d_380 => ix_if (r_379 = r_383) (some (z, d_380)) (none))))))
noncomputable def f_law_1156 (n Ls : Nat) (xs : Nat → Int32) (z : ix_Z) (a1 a2 : Nat) (x3 : Int32) (d : ix_D2) : Option (ix_Z × ix_D2) :=
  ix_ck (vp_in (x3 + 1) Ls) (ix_ck (ix_ok z [10] a1) (ix_bd2 (f_X11_goOn n z a1 (xs (ix_n (x3 + 1))) d) (fun r_390 d_387 => ix_ck (ix_ok z [11] a2) (ix_bd2 (f_X12_goOn n z a2 (xs (ix_n (x3 + 1))) d_387) (fun r_394 d_391 => ix_if (r_390 = r_394) (some (z, d_391)) (none))))))
noncomputable def f_law_1179 (n Ls : Nat) (xs : Nat → Int32) (z : ix_Z) (a1 a2 : Nat) (x3 : Int32) (d : ix_D2) : Option (ix_Z × ix_D2) :=
  ix_ck (vp_in (x3 + 1) Ls) (ix_ck (ix_ok z [10] a1) (ix_bd2 (f_X11_truth n z a1 (xs (ix_n (x3 + 1))) d) (fun r_401 d_398 => ix_ck (ix_ok z [11] a2) (ix_bd2 (f_X12_truth n z a2 (xs (ix_n (x3 + 1))) d_398) (fun r_405 d_402 => ix_if (r_401 = r_405) (some (z, d_402)) (none))))))
noncomputable def f_law_1202 (n Ls : Nat) (xs : Nat → Int32) (z : ix_Z) (a1 a2 : Nat) (x3 : Int32) (d : ix_D2) : Option (ix_Z × ix_D2) :=
  ix_ck (vp_in (x3 + 1) Ls) (ix_ck (ix_ok z [10] a1) (ix_bd2 (f_X11_solved n z a1 (xs (ix_n (x3 + 1))) d) (fun r_412 d_409 => ix_ck (ix_ok z [11] a2) (ix_bd2 (f_X12_solved n z a2 (xs (ix_n (x3 + 1))) d_409) (fun r_416 d_413 => ix_if (r_412 = r_416) (some (z, d_413)) (none))))))
noncomputable def f_law_1225 (n Ls : Nat) (xs : Nat → Int32) (z : ix_Z) (a1 a2 : Nat) (x3 : Int32) (d : ix_D2) : Option (ix_Z × ix_D2) :=
  ix_ck (vp_in (x3 + 1) Ls) (ix_ck (ix_ok z [10] a1) (ix_bd2 (f_X11_quarrel n z a1 (xs (ix_n (x3 + 1))) d) (fun r_423 d_420 => ix_ck (ix_ok z [11] a2) (ix_bd2 (f_X12_quarrel n z a2 (xs (ix_n (x3 + 1))) d_420) (fun r_427 d_424 => ix_if (r_423 = r_427) (some (z, d_424)) (none))))))
noncomputable def f_law_1248 (n Ls : Nat) (xs : Nat → Int32) (z : ix_Z) (a1 a2 : Nat) (x3 : Int32) (d : ix_D2) : Option (ix_Z × ix_D2) :=
  ix_ck (vp_in (x3 + 1) Ls) (ix_ck (ix_ok z [10] a1) (ix_bd2 (f_X11_core n z a1 (xs (ix_n (x3 + 1))) d) (fun r_434 d_431 => ix_ck (ix_ok z [11] a2) (ix_bd2 (f_X12_core n z a2 (xs (ix_n (x3 + 1))) d_431) (fun r_438 d_435 => ix_if (r_434 = r_438) (some (z, d_435)) (none))))))
noncomputable def f_law_1271 (n Ls : Nat) (xs : Nat → Int32) (z : ix_Z) (a1 a2 : Nat) (x3 : Int32) (d : ix_D2) : Option (ix_Z × ix_D2) :=
  ix_ck (vp_in (x3 + 1) Ls) (ix_ck (vp_in (x3 + 2) Ls) (ix_ck (ix_ok z [10] a1) (ix_bd2 (f_X11_coreAt n z a1 (xs (ix_n (x3 + 1))) (xs (ix_n (x3 + 2))) d) (fun r_446 d_443 => ix_ck (ix_ok z [11] a2) (ix_bd2 (f_X12_coreAt n z a2 (xs (ix_n (x3 + 1))) (xs (ix_n (x3 + 2))) d_443) (fun r_450 d_447 => ix_if (r_446 = r_450) (some (z, d_447)) (none)))))))
noncomputable def f_law_1304 (n Ls : Nat) (xs : Nat → Int32) (z : ix_Z) (a1 a2 : Nat) (x3 : Int32) (d : ix_D2) : Option (ix_Z × ix_D2) :=
  ix_ck (vp_in (x3 + 1) Ls) (ix_ck (ix_ok z [10] a1) (ix_bd2 (f_X11_shrink n z a1 (xs (ix_n (x3 + 1))) d) (fun r_457 d_454 => ix_ck (ix_ok z [11] a2) (ix_bd2 (f_X12_shrink n z a2 (xs (ix_n (x3 + 1))) d_454) (fun r_461 d_458 => ix_if (r_457 = r_461) (some (z, d_458)) (none))))))
noncomputable def f_law_1327 (n Ls : Nat) (xs : Nat → Int32) (z : ix_Z) (a1 a2 : Nat) (x3 : Int32) (d : ix_D2) : Option (ix_Z × ix_D2) :=
  ix_ck (vp_in (x3 + 1) Ls) (ix_ck (ix_ok z [10] a1) (ix_bd2 (f_X11_least n z a1 (xs (ix_n (x3 + 1))) d) (fun r_468 d_465 => ix_ck (ix_ok z [11] a2) (ix_bd2 (f_X12_least n z a2 (xs (ix_n (x3 + 1))) d_465) (fun r_472 d_469 => ix_if (r_468 = r_472) (some (z, d_469)) (none))))))
noncomputable def f_law_1350 (n Ls : Nat) (xs : Nat → Int32) (z : ix_Z) (a1 a2 : Nat) (x3 : Int32) (d : ix_D2) : Option (ix_Z × ix_D2) :=
  ix_ck (ix_ok z [10] a1) (ix_bd2 (f_X11_take n z a1 d) (fun r_478 d_475 => ix_ck (ix_ok z [11] a2) (ix_bd2 (f_X12_take n z a2 d_475) (fun r_482 d_479 => ix_if (r_478 = r_482) (some (z, d_479)) (none)))))
noncomputable def f_law_1363 (n Ls : Nat) (xs : Nat → Int32) (z : ix_Z) (a1 a2 : Nat) (x3 : Int32) (d : ix_D2) : Option (ix_Z × ix_D2) :=
  ix_ck (vp_in (x3 + 1) Ls) (ix_ck (ix_ok z [10] a1) (ix_bd2 (f_X11_claim n z a1 (xs (ix_n (x3 + 1))) d) (fun r_489 d_486 => ix_ck (ix_ok z [11] a2) (ix_bd2 (f_X12_claim n z a2 (xs (ix_n (x3 + 1))) d_486) (fun r_493 d_490 => ix_if (r_489 = r_493) (some (z, d_490)) (none))))))
noncomputable def f_law_1386 (n Ls : Nat) (xs : Nat → Int32) (z : ix_Z) (a1 a2 : Nat) (x3 : Int32) (d : ix_D2) : Option (ix_Z × ix_D2) :=
  ix_ck (vp_in (x3 + 1) Ls) (ix_ck (ix_ok z [10] a1) (ix_bd2 (f_X11_strike n z a1 (xs (ix_n (x3 + 1))) d) (fun r_500 d_497 => ix_ck (ix_ok z [11] a2) (ix_bd2 (f_X12_strike n z a2 (xs (ix_n (x3 + 1))) d_497) (fun r_504 d_501 => ix_if (r_500 = r_504) (some (z, d_501)) (none))))))
noncomputable def f_law_1409 (n Ls : Nat) (xs : Nat → Int32) (z : ix_Z) (a1 a2 : Nat) (x3 : Int32) (d : ix_D2) : Option (ix_Z × ix_D2) :=
  ix_ck (vp_in (x3 + 1) Ls) (ix_ck (vp_in (x3 + 2) Ls) (ix_ck (ix_ok z [10] a1) (ix_bd2 (f_X11_proof n z a1 (xs (ix_n (x3 + 1))) (xs (ix_n (x3 + 2))) d) (fun r_512 d_509 => ix_ck (ix_ok z [11] a2) (ix_bd2 (f_X12_proof n z a2 (xs (ix_n (x3 + 1))) (xs (ix_n (x3 + 2))) d_509) (fun r_516 d_513 => ix_if (r_512 = r_516) (some (z, d_513)) (none)))))))
noncomputable def f_law_1442 (n Ls : Nat) (xs : Nat → Int32) (z : ix_Z) (a1 a2 : Nat) (x3 : Int32) (d : ix_D2) : Option (ix_Z × ix_D2) :=
  ix_ck (ix_ok z [10] a1) (ix_bd2 (f_X11_check n z a1 d) (fun r_522 d_519 => ix_ck (ix_ok z [11] a2) (ix_bd2 (f_X12_check n z a2 d_519) (fun r_526 d_523 => ix_if (r_522 = r_526) (some (z, d_523)) (none)))))
noncomputable def f_law_1455 (n Ls : Nat) (xs : Nat → Int32) (z : ix_Z) (a1 a2 : Nat) (x3 : Int32) (d : ix_D2) : Option (ix_Z × ix_D2) :=
  ix_ck (ix_ok z [10] a1) (ix_bd2 (f_X11_refusedAt n z a1 d) (fun r_532 d_529 => ix_ck (ix_ok z [11] a2) (ix_bd2 (f_X12_refusedAt n z a2 d_529) (fun r_536 d_533 => ix_if (r_532 = r_536) (some (z, d_533)) (none)))))
noncomputable def f_law_1468 (n Ls : Nat) (xs : Nat → Int32) (z : ix_Z) (a1 a2 : Nat) (x3 : Int32) (d : ix_D2) : Option (ix_Z × ix_D2) :=
  ix_ck (vp_in (x3 + 1) Ls) (ix_ck (vp_in (x3 + 2) Ls) (ix_if (xs (ix_n (x3 + 2)) = 0) (ix_ck (ix_ok z [10] a1) (ix_bd2 (f_X11_counted n z a1 (xs (ix_n (x3 + 1))) 0 d) (fun r_545 d_542 => ix_if (xs (ix_n (x3 + 2)) = 0) (ix_ck (ix_ok z [11] a2) (ix_bd2 (f_X12_counted n z a2 (xs (ix_n (x3 + 1))) 0 d_542) (fun r_550 d_547 => ix_if (r_545 = r_550) (some (z, d_547)) (none)))) (ix_ck (ix_ok z [11] a2) (ix_bd2 (f_X12_counted n z a2 (xs (ix_n (x3 + 1))) 1 d_542) (fun r_555 d_552 => ix_if (r_545 = r_555) (some (z, d_552)) (none))))))) (ix_ck (ix_ok z [10] a1) (ix_bd2 (f_X11_counted n z a1 (xs (ix_n (x3 + 1))) 1 d) (fun r_560 d_557 => ix_if (xs (ix_n (x3 + 2)) = 0) (ix_ck (ix_ok z [11] a2) (ix_bd2 (f_X12_counted n z a2 (xs (ix_n (x3 + 1))) 0 d_557) (fun r_565 d_562 => ix_if (r_560 = r_565) (some (z, d_562)) (none)))) (ix_ck (ix_ok z [11] a2) (ix_bd2 (f_X12_counted n z a2 (xs (ix_n (x3 + 1))) 1 d_557) (fun r_570 d_567 => ix_if (r_560 = r_570) (some (z, d_567)) (none)))))))))
noncomputable def f_law_1517 (n Ls : Nat) (xs : Nat → Int32) (z : ix_Z) (a1 a2 : Nat) (x3 : Int32) (d : ix_D2) : Option (ix_Z × ix_D2) :=
  ix_ck (vp_in (x3 + 1) Ls) (ix_ck (ix_ok z [10] a1) (ix_bd2 (f_X11_next n z a1 (xs (ix_n (x3 + 1))) d) (fun r_577 d_574 => ix_ck (ix_ok z [11] a2) (ix_bd2 (f_X12_next n z a2 (xs (ix_n (x3 + 1))) d_574) (fun r_581 d_578 => ix_if (r_577 = r_581) (some (z, d_578)) (none))))))
noncomputable def f_law_1540 (n Ls : Nat) (xs : Nat → Int32) (z : ix_Z) (a1 a2 : Nat) (x3 : Int32) (d : ix_D2) : Option (ix_Z × ix_D2) :=
  ix_ck (ix_ok z [10] a1) (ix_bd2 (f_X11_unbar n z a1 d) (fun r_587 d_584 => ix_ck (ix_ok z [11] a2) (ix_bd2 (f_X12_unbar n z a2 d_584) (fun r_591 d_588 => ix_if (r_587 = r_591) (some (z, d_588)) (none)))))
noncomputable def f_law_1553 (n Ls : Nat) (xs : Nat → Int32) (z : ix_Z) (a1 a2 : Nat) (x3 : Int32) (d : ix_D2) : Option (ix_Z × ix_D2) :=
  ix_ck (vp_in (x3 + 1) Ls) (ix_ck (vp_in (x3 + 2) Ls) (ix_ck (ix_ok z [10] a1) (ix_bd2 (f_X11_count n z a1 (xs (ix_n (x3 + 1))) (xs (ix_n (x3 + 2))) d) (fun r_599 d_596 => ix_ck (ix_ok z [11] a2) (ix_bd2 (f_X12_count n z a2 (xs (ix_n (x3 + 1))) (xs (ix_n (x3 + 2))) d_596) (fun r_603 d_600 => ix_if (r_599 = r_603) (some (z, d_600)) (none)))))))
noncomputable def f_law_1586 (n Ls : Nat) (xs : Nat → Int32) (z : ix_Z) (a1 a2 : Nat) (x3 : Int32) (d : ix_D2) : Option (ix_Z × ix_D2) :=
  ix_ck (ix_ok z [10] a1) (ix_bd2 (f_X11_forced n z a1 d) (fun r_609 d_606 => ix_ck (ix_ok z [11] a2) (ix_bd2 (f_X12_forced n z a2 d_606) (fun r_613 d_610 => ix_if (r_609 = r_613) (some (z, d_610)) (none)))))
noncomputable def f_law_1599 (n Ls : Nat) (xs : Nat → Int32) (z : ix_Z) (a1 a2 : Nat) (x3 : Int32) (d : ix_D2) : Option (ix_Z × ix_D2) :=
  ix_ck (vp_in (x3 + 1) Ls) (ix_ck (ix_ok z [10] a1) (ix_bd2 (f_X11_forcedAt n z a1 (xs (ix_n (x3 + 1))) d) (fun r_620 d_617 => ix_ck (ix_ok z [11] a2) (ix_bd2 (f_X12_forcedAt n z a2 (xs (ix_n (x3 + 1))) d_617) (fun r_624 d_621 => ix_if (r_620 = r_624) (some (z, d_621)) (none))))))
noncomputable def f_law_1622 (n Ls : Nat) (xs : Nat → Int32) (z : ix_Z) (a1 a2 : Nat) (x3 : Int32) (d : ix_D2) : Option (ix_Z × ix_D2) :=
  ix_ck (vp_in (x3 + 1) Ls) (ix_ck (ix_ok z [10] a1) (ix_bd2 (f_X11_why n z a1 (xs (ix_n (x3 + 1))) d) (fun r_631 d_628 => ix_ck (ix_ok z [11] a2) (ix_bd2 (f_X12_why n z a2 (xs (ix_n (x3 + 1))) d_628) (fun r_635 d_632 => ix_if (r_631 = r_635) (some (z, d_632)) (none))))))
noncomputable def f_law_1645 (n Ls : Nat) (xs : Nat → Int32) (z : ix_Z) (a1 a2 : Nat) (x3 : Int32) (d : ix_D2) : Option (ix_Z × ix_D2) :=
  ix_ck (vp_in (x3 + 1) Ls) (ix_ck (ix_ok z [10] a1) (ix_bd2 (f_X11_trace n z a1 (xs (ix_n (x3 + 1))) d) (fun r_642 d_639 => ix_ck (ix_ok z [11] a2) (ix_bd2 (f_X12_trace n z a2 (xs (ix_n (x3 + 1))) d_639) (fun r_646 d_643 => ix_if (r_642 = r_646) (some (z, d_643)) (none))))))
noncomputable def f_law_1668 (n Ls : Nat) (xs : Nat → Int32) (z : ix_Z) (a1 a2 : Nat) (x3 : Int32) (d : ix_D2) : Option (ix_Z × ix_D2) :=
  ix_ck (ix_ok z [10] a1) (ix_bd2 (f_X11_digest n z a1 d) (fun r_652 d_649 => ix_ck (ix_ok z [11] a2) (ix_bd2 (f_X12_digest n z a2 d_649) (fun r_656 d_653 => ix_if (lg_cmp r_652 r_656 = 0) (some (z, d_653)) (none)))))
noncomputable def f_law_1682 (n Ls : Nat) (xs : Nat → Int32) (z : ix_Z) (a1 a2 : Nat) (x3 : Int32) (d : ix_D2) : Option (ix_Z × ix_D2) :=
  ix_ck (ix_ok z [10] a1) (ix_bd2 (f_X11_status n z a1 d) (fun r_662 d_659 => ix_ck (ix_ok z [11] a2) (ix_bd2 (f_X12_status n z a2 d_659) (fun r_666 d_663 => ix_if (r_662 = r_666) (some (z, d_663)) (none)))))
noncomputable def f_law_1695 (n Ls : Nat) (xs : Nat → Int32) (z : ix_Z) (a1 a2 : Nat) (x3 : Int32) (d : ix_D2) : Option (ix_Z × ix_D2) :=
  ix_ck (vp_in (x3 + 1) Ls) (ix_ck (ix_ok z [10] a1) (ix_bd2 (f_X11_about n z a1 (xs (ix_n (x3 + 1))) d) (fun r_673 d_670 => ix_ck (ix_ok z [11] a2) (ix_bd2 (f_X12_about n z a2 (xs (ix_n (x3 + 1))) d_670) (fun r_677 d_674 => ix_if (r_673 = r_677) (some (z, d_674)) (none))))))
noncomputable def f_law_body (n Ls : Nat) (xs : Nat → Int32) (z : ix_Z) (a1 a2 : Nat) (x3 : Int32) (d : ix_D2) : Option (ix_Z × ix_D2) :=
  ix_ck (vp_in x3 Ls) (ix_if ((xs (ix_n x3)) &&& 63 = 0) (f_law_268 n Ls xs z a1 a2 x3 d) (ix_if ((xs (ix_n x3)) &&& 63 = 1) (f_law_291 n Ls xs z a1 a2 x3 d) (ix_if ((xs (ix_n x3)) &&& 63 = 2) (f_law_324 n Ls xs z a1 a2 x3 d) (ix_if ((xs (ix_n x3)) &&& 63 = 3) (f_law_347 n Ls xs z a1 a2 x3 d) (ix_if ((xs (ix_n x3)) &&& 63 = 4) (f_law_390 n Ls xs z a1 a2 x3 d) (ix_if ((xs (ix_n x3)) &&& 63 = 5) (f_law_424 n Ls xs z a1 a2 x3 d) (ix_if ((xs (ix_n x3)) &&& 63 = 6) (f_law_487 n Ls xs z a1 a2 x3 d) (ix_if ((xs (ix_n x3)) &&& 63 = 7) (f_law_520 n Ls xs z a1 a2 x3 d) (ix_if ((xs (ix_n x3)) &&& 63 = 8) (f_law_583 n Ls xs z a1 a2 x3 d) (ix_if ((xs (ix_n x3)) &&& 63 = 9) (f_law_596 n Ls xs z a1 a2 x3 d) (ix_if ((xs (ix_n x3)) &&& 63 = 10) (f_law_619 n Ls xs z a1 a2 x3 d) (ix_if ((xs (ix_n x3)) &&& 63 = 11) (f_law_652 n Ls xs z a1 a2 x3 d) (ix_if ((xs (ix_n x3)) &&& 63 = 12) (f_law_685 n Ls xs z a1 a2 x3 d) (ix_if ((xs (ix_n x3)) &&& 63 = 13) (f_law_734 n Ls xs z a1 a2 x3 d) (ix_if ((xs (ix_n x3)) &&& 63 = 14) (f_law_747 n Ls xs z a1 a2 x3 d) (ix_if ((xs (ix_n x3)) &&& 63 = 15) (f_law_770 n Ls xs z a1 a2 x3 d) (ix_if ((xs (ix_n x3)) &&& 63 = 16) (f_law_803 n Ls xs z a1 a2 x3 d) (ix_if ((xs (ix_n x3)) &&& 63 = 17) (f_law_836 n Ls xs z a1 a2 x3 d) (ix_if ((xs (ix_n x3)) &&& 63 = 18) (f_law_869 n Ls xs z a1 a2 x3 d) (ix_if ((xs (ix_n x3)) &&& 63 = 19) (f_law_902 n Ls xs z a1 a2 x3 d) (ix_if ((xs (ix_n x3)) &&& 63 = 20) (f_law_935 n Ls xs z a1 a2 x3 d) (ix_if ((xs (ix_n x3)) &&& 63 = 21) (f_law_958 n Ls xs z a1 a2 x3 d) (ix_if ((xs (ix_n x3)) &&& 63 = 22) (f_law_971 n Ls xs z a1 a2 x3 d) (ix_if ((xs (ix_n x3)) &&& 63 = 23) (f_law_994 n Ls xs z a1 a2 x3 d) (ix_if ((xs (ix_n x3)) &&& 63 = 24) (f_law_1017 n Ls xs z a1 a2 x3 d) (ix_if ((xs (ix_n x3)) &&& 63 = 25) (f_law_1030 n Ls xs z a1 a2 x3 d) (ix_if ((xs (ix_n x3)) &&& 63 = 26) (f_law_1063 n Ls xs z a1 a2 x3 d) (ix_if ((xs (ix_n x3)) &&& 63 = 27) (f_law_1087 n Ls xs z a1 a2 x3 d) (ix_if ((xs (ix_n x3)) &&& 63 = 28) (f_law_1110 n Ls xs z a1 a2 x3 d) (ix_if ((xs (ix_n x3)) &&& 63 = 29) (f_law_1133 n Ls xs z a1 a2 x3 d) (ix_if ((xs (ix_n x3)) &&& 63 = 30) (f_law_1156 n Ls xs z a1 a2 x3 d) (ix_if ((xs (ix_n x3)) &&& 63 = 31) (f_law_1179 n Ls xs z a1 a2 x3 d) (ix_if ((xs (ix_n x3)) &&& 63 = 32) (f_law_1202 n Ls xs z a1 a2 x3 d) (ix_if ((xs (ix_n x3)) &&& 63 = 33) (f_law_1225 n Ls xs z a1 a2 x3 d) (ix_if ((xs (ix_n x3)) &&& 63 = 34) (f_law_1248 n Ls xs z a1 a2 x3 d) (ix_if ((xs (ix_n x3)) &&& 63 = 35) (f_law_1271 n Ls xs z a1 a2 x3 d) (ix_if ((xs (ix_n x3)) &&& 63 = 36) (f_law_1304 n Ls xs z a1 a2 x3 d) (ix_if ((xs (ix_n x3)) &&& 63 = 37) (f_law_1327 n Ls xs z a1 a2 x3 d) (ix_if ((xs (ix_n x3)) &&& 63 = 38) (f_law_1350 n Ls xs z a1 a2 x3 d) (ix_if ((xs (ix_n x3)) &&& 63 = 39) (f_law_1363 n Ls xs z a1 a2 x3 d) (ix_if ((xs (ix_n x3)) &&& 63 = 40) (f_law_1386 n Ls xs z a1 a2 x3 d) (ix_if ((xs (ix_n x3)) &&& 63 = 41) (f_law_1409 n Ls xs z a1 a2 x3 d) (ix_if ((xs (ix_n x3)) &&& 63 = 42) (f_law_1442 n Ls xs z a1 a2 x3 d) (ix_if ((xs (ix_n x3)) &&& 63 = 43) (f_law_1455 n Ls xs z a1 a2 x3 d) (ix_if ((xs (ix_n x3)) &&& 63 = 44) (f_law_1468 n Ls xs z a1 a2 x3 d) (ix_if ((xs (ix_n x3)) &&& 63 = 45) (f_law_1517 n Ls xs z a1 a2 x3 d) (ix_if ((xs (ix_n x3)) &&& 63 = 46) (f_law_1540 n Ls xs z a1 a2 x3 d) (ix_if ((xs (ix_n x3)) &&& 63 = 47) (f_law_1553 n Ls xs z a1 a2 x3 d) (ix_if ((xs (ix_n x3)) &&& 63 = 48) (f_law_1586 n Ls xs z a1 a2 x3 d) (ix_if ((xs (ix_n x3)) &&& 63 = 49) (f_law_1599 n Ls xs z a1 a2 x3 d) (ix_if ((xs (ix_n x3)) &&& 63 = 50) (f_law_1622 n Ls xs z a1 a2 x3 d) (ix_if ((xs (ix_n x3)) &&& 63 = 51) (f_law_1645 n Ls xs z a1 a2 x3 d) (ix_if ((xs (ix_n x3)) &&& 63 = 52) (f_law_1668 n Ls xs z a1 a2 x3 d) (ix_if ((xs (ix_n x3)) &&& 63 = 53) (f_law_1682 n Ls xs z a1 a2 x3 d) (ix_if ((xs (ix_n x3)) &&& 63 = 54) (f_law_1695 n Ls xs z a1 a2 x3 d) (some (z, d)))))))))))))))))))))))))))))))))))))))))))))))))))))))))
set_option maxRecDepth 20000 in
theorem t_law_268 {l : Launch} {p : Program} {e : Env} {s : State} {m : MethodId} {below : List Frame} {meth : Method} {c : Code} {K : ix_Cx} {b Ls kc ns : Nat} {xs : Nat → Int32} (hKp : ix_Kp K) (hF : ix_Fc K) (hT : ix_Tc K) (X : ix_X p s m #[Value.ref b] c K code R_law 4) (hX : va_X b Ls xs s s.heap) (hbl : b < s.heap.size) (hbN : ¬ ix_A K b) (hkc : kc + 8 ≤ 600000) (hns : ns + 400 ≤ 7302250) {n : Nat} {z z1 : ix_Z} {a1 a2 : Nat} {x3 : Int32} {d d1 : ix_D2} (h : f_law_268 n Ls xs z a1 a2 x3 d = some (z1, d1)) (kk : ix_G p l e room_1 s m #[Value.ref b] below meth c (lw_Z below #[Value.ref b] s) K 4 (kc + 8) (ns + 400) 1718 [(0, .ref b), (1, .ref (K.2.2.1 + a1)), (2, .ref (K.2.2.1 + a2)), (3, .int x3)] [] (ix_w z1 d1)) : ix_G p l e room_1 s m #[Value.ref b] below meth c (lw_Z below #[Value.ref b] s) K 4 kc ns 268 [(0, .ref b), (1, .ref (K.2.2.1 + a1)), (2, .ref (K.2.2.1 + a2)), (3, .int x3)] [] (ix_w z d) := by
  unfold f_law_268 at h
  refine ix_aload_n (i := 1) (j := 1) X (ix_tb_at tb_law 22 rfl) rfl rfl (pc1 := 269) rfl ?_
  refine ix_aload_n (i := 0) (j := 0) X (ix_tb_at tb_law 23 rfl) rfl rfl (pc1 := 270) rfl ?_
  refine ix_iload_n (i := 3) (j := 3) X (ix_tb_at tb_law 24 rfl) rfl rfl (pc1 := 271) rfl ?_
  refine ix_iconst (v := 1) X (ix_tb_at tb_law 25 rfl) (by decide) (pc1 := 272) rfl ?_
  refine ix_iadd X (ix_tb_at tb_law 26 rfl) (pc1 := 273) rfl ?_
  obtain ⟨k_3, h⟩ := ix_ck_some h
  refine ix_sld X hX hbl hbN k_3 (ix_tb_at tb_law 27 rfl) (pc1 := 274) rfl ?_
  obtain ⟨k_6, h⟩ := ix_ck_some h
  obtain ⟨r_7, d_4, h_5, h⟩ := ix_bd2_ex h
  refine ix_callV (As := [.int (xs (ix_n (x3 + 1)))]) (rest := []) (ci := 10) (T := TX11) (nf := 18) X mf_X11_names mi_X11_names ms_X11_names rfl (Nat.le_of_ble_eq_true rfl) ml_R_law_13 ⟨Nat.le_of_ble_eq_true rfl, Nat.le_of_ble_eq_true rfl⟩ ⟨Nat.le_trans (by omega) hkc, Nat.le_trans (by omega) hns⟩ rfl (Nat.le_of_ble_eq_true rfl) (ix_tb_at tb_law 28 rfl) ⟨k_6.1, List.mem_singleton.mp k_6.2⟩ (c_X11_names hKp h_5) rfl (pc1 := 277) rfl ?_
  refine ix_aload_n (i := 2) (j := 2) X (ix_tb_at tb_law 29 rfl) rfl rfl (pc1 := 278) rfl ?_
  refine ix_aload_n (i := 0) (j := 0) X (ix_tb_at tb_law 30 rfl) rfl rfl (pc1 := 279) rfl ?_
  refine ix_iload_n (i := 3) (j := 3) X (ix_tb_at tb_law 31 rfl) rfl rfl (pc1 := 280) rfl ?_
  refine ix_iconst (v := 1) X (ix_tb_at tb_law 32 rfl) (by decide) (pc1 := 281) rfl ?_
  refine ix_iadd X (ix_tb_at tb_law 33 rfl) (pc1 := 282) rfl ?_
  refine ix_sld X hX hbl hbN k_3 (ix_tb_at tb_law 34 rfl) (pc1 := 283) rfl ?_
  obtain ⟨k_10, h⟩ := ix_ck_some h
  obtain ⟨r_11, d_8, h_9, h⟩ := ix_bd2_ex h
  refine ix_callV (As := [.int (xs (ix_n (x3 + 1)))]) (rest := [.int r_7]) (ci := 11) (T := TX12) (nf := 116) X mf_X12_names mi_X12_names ms_X12_names rfl (Nat.le_of_ble_eq_true rfl) ml_R_law_17 ⟨Nat.le_of_ble_eq_true rfl, Nat.le_of_ble_eq_true rfl⟩ ⟨Nat.le_trans (by omega) hkc, Nat.le_trans (by omega) hns⟩ rfl (Nat.le_of_ble_eq_true rfl) (ix_tb_at tb_law 35 rfl) ⟨k_10.1, List.mem_singleton.mp k_10.2⟩ (c_X12_names hKp h_9) rfl (pc1 := 286) rfl ?_
  refine ix_icmp_eq (tgt := 1718) X (ix_tb_at tb_law 36 rfl) (by decide) (pc1 := 289) rfl (fun q_12 => ?_) (fun q_12 => ?_)
  · have h := ix_ift q_12 h
    obtain ⟨rfl, rfl⟩ := ix_sm h
    exact ix_widen (by omega) (by omega) kk
  · have h := ix_iff q_12 h
    refine ix_iconst (v := 0) X (ix_tb_at tb_law 37 rfl) (by decide) (pc1 := 290) rfl ?_
    cases h
set_option maxRecDepth 20000 in
theorem t_law_291 {l : Launch} {p : Program} {e : Env} {s : State} {m : MethodId} {below : List Frame} {meth : Method} {c : Code} {K : ix_Cx} {b Ls kc ns : Nat} {xs : Nat → Int32} (hKp : ix_Kp K) (hF : ix_Fc K) (hT : ix_Tc K) (X : ix_X p s m #[Value.ref b] c K code R_law 4) (hX : va_X b Ls xs s s.heap) (hbl : b < s.heap.size) (hbN : ¬ ix_A K b) (hkc : kc + 8 ≤ 600000) (hns : ns + 400 ≤ 7302250) {n : Nat} {z z1 : ix_Z} {a1 a2 : Nat} {x3 : Int32} {d d1 : ix_D2} (h : f_law_291 n Ls xs z a1 a2 x3 d = some (z1, d1)) (kk : ix_G p l e room_1 s m #[Value.ref b] below meth c (lw_Z below #[Value.ref b] s) K 4 (kc + 8) (ns + 400) 1718 [(0, .ref b), (1, .ref (K.2.2.1 + a1)), (2, .ref (K.2.2.1 + a2)), (3, .int x3)] [] (ix_w z1 d1)) : ix_G p l e room_1 s m #[Value.ref b] below meth c (lw_Z below #[Value.ref b] s) K 4 kc ns 291 [(0, .ref b), (1, .ref (K.2.2.1 + a1)), (2, .ref (K.2.2.1 + a2)), (3, .int x3)] [] (ix_w z d) := by
  unfold f_law_291 at h
  refine ix_aload_n (i := 1) (j := 1) X (ix_tb_at tb_law 39 rfl) rfl rfl (pc1 := 292) rfl ?_
  refine ix_aload_n (i := 0) (j := 0) X (ix_tb_at tb_law 40 rfl) rfl rfl (pc1 := 293) rfl ?_
  refine ix_iload_n (i := 3) (j := 3) X (ix_tb_at tb_law 41 rfl) rfl rfl (pc1 := 294) rfl ?_
  refine ix_iconst (v := 1) X (ix_tb_at tb_law 42 rfl) (by decide) (pc1 := 295) rfl ?_
  refine ix_iadd X (ix_tb_at tb_law 43 rfl) (pc1 := 296) rfl ?_
  obtain ⟨k_14, h⟩ := ix_ck_some h
  refine ix_sld X hX hbl hbN k_14 (ix_tb_at tb_law 44 rfl) (pc1 := 297) rfl ?_
  refine ix_aload_n (i := 0) (j := 0) X (ix_tb_at tb_law 45 rfl) rfl rfl (pc1 := 298) rfl ?_
  refine ix_iload_n (i := 3) (j := 3) X (ix_tb_at tb_law 46 rfl) rfl rfl (pc1 := 299) rfl ?_
  refine ix_iconst (v := 2) X (ix_tb_at tb_law 47 rfl) (by decide) (pc1 := 300) rfl ?_
  refine ix_iadd X (ix_tb_at tb_law 48 rfl) (pc1 := 301) rfl ?_
  obtain ⟨k_15, h⟩ := ix_ck_some h
  refine ix_sld X hX hbl hbN k_15 (ix_tb_at tb_law 49 rfl) (pc1 := 302) rfl ?_
  obtain ⟨k_18, h⟩ := ix_ck_some h
  obtain ⟨r_19, d_16, h_17, h⟩ := ix_bd2_ex h
  refine ix_callV (As := [.int (xs (ix_n (x3 + 1))), .int (xs (ix_n (x3 + 2)))]) (rest := []) (ci := 10) (T := TX11) (nf := 18) X mf_X11_row mi_X11_row ms_X11_row rfl (Nat.le_of_ble_eq_true rfl) ml_R_law_18 ⟨Nat.le_of_ble_eq_true rfl, Nat.le_of_ble_eq_true rfl⟩ ⟨Nat.le_trans (by omega) hkc, Nat.le_trans (by omega) hns⟩ rfl (Nat.le_of_ble_eq_true rfl) (ix_tb_at tb_law 50 rfl) ⟨k_18.1, List.mem_singleton.mp k_18.2⟩ (c_X11_row hKp h_17) rfl (pc1 := 305) rfl ?_
  refine ix_aload_n (i := 2) (j := 2) X (ix_tb_at tb_law 51 rfl) rfl rfl (pc1 := 306) rfl ?_
  refine ix_aload_n (i := 0) (j := 0) X (ix_tb_at tb_law 52 rfl) rfl rfl (pc1 := 307) rfl ?_
  refine ix_iload_n (i := 3) (j := 3) X (ix_tb_at tb_law 53 rfl) rfl rfl (pc1 := 308) rfl ?_
  refine ix_iconst (v := 1) X (ix_tb_at tb_law 54 rfl) (by decide) (pc1 := 309) rfl ?_
  refine ix_iadd X (ix_tb_at tb_law 55 rfl) (pc1 := 310) rfl ?_
  refine ix_sld X hX hbl hbN k_14 (ix_tb_at tb_law 56 rfl) (pc1 := 311) rfl ?_
  refine ix_aload_n (i := 0) (j := 0) X (ix_tb_at tb_law 57 rfl) rfl rfl (pc1 := 312) rfl ?_
  refine ix_iload_n (i := 3) (j := 3) X (ix_tb_at tb_law 58 rfl) rfl rfl (pc1 := 313) rfl ?_
  refine ix_iconst (v := 2) X (ix_tb_at tb_law 59 rfl) (by decide) (pc1 := 314) rfl ?_
  refine ix_iadd X (ix_tb_at tb_law 60 rfl) (pc1 := 315) rfl ?_
  refine ix_sld X hX hbl hbN k_15 (ix_tb_at tb_law 61 rfl) (pc1 := 316) rfl ?_
  obtain ⟨k_22, h⟩ := ix_ck_some h
  obtain ⟨r_23, d_20, h_21, h⟩ := ix_bd2_ex h
  refine ix_callV (As := [.int (xs (ix_n (x3 + 1))), .int (xs (ix_n (x3 + 2)))]) (rest := [.int r_19]) (ci := 11) (T := TX12) (nf := 116) X mf_X12_row mi_X12_row ms_X12_row rfl (Nat.le_of_ble_eq_true rfl) ml_R_law_22 ⟨Nat.le_of_ble_eq_true rfl, Nat.le_of_ble_eq_true rfl⟩ ⟨Nat.le_trans (by omega) hkc, Nat.le_trans (by omega) hns⟩ rfl (Nat.le_of_ble_eq_true rfl) (ix_tb_at tb_law 62 rfl) ⟨k_22.1, List.mem_singleton.mp k_22.2⟩ (c_X12_row hKp h_21) rfl (pc1 := 319) rfl ?_
  refine ix_icmp_eq (tgt := 1718) X (ix_tb_at tb_law 63 rfl) (by decide) (pc1 := 322) rfl (fun q_24 => ?_) (fun q_24 => ?_)
  · have h := ix_ift q_24 h
    obtain ⟨rfl, rfl⟩ := ix_sm h
    exact ix_widen (by omega) (by omega) kk
  · have h := ix_iff q_24 h
    refine ix_iconst (v := 0) X (ix_tb_at tb_law 64 rfl) (by decide) (pc1 := 323) rfl ?_
    cases h
set_option maxRecDepth 20000 in
theorem t_law_324 {l : Launch} {p : Program} {e : Env} {s : State} {m : MethodId} {below : List Frame} {meth : Method} {c : Code} {K : ix_Cx} {b Ls kc ns : Nat} {xs : Nat → Int32} (hKp : ix_Kp K) (hF : ix_Fc K) (hT : ix_Tc K) (X : ix_X p s m #[Value.ref b] c K code R_law 4) (hX : va_X b Ls xs s s.heap) (hbl : b < s.heap.size) (hbN : ¬ ix_A K b) (hkc : kc + 8 ≤ 600000) (hns : ns + 400 ≤ 7302250) {n : Nat} {z z1 : ix_Z} {a1 a2 : Nat} {x3 : Int32} {d d1 : ix_D2} (h : f_law_324 n Ls xs z a1 a2 x3 d = some (z1, d1)) (kk : ix_G p l e room_1 s m #[Value.ref b] below meth c (lw_Z below #[Value.ref b] s) K 4 (kc + 8) (ns + 400) 1718 [(0, .ref b), (1, .ref (K.2.2.1 + a1)), (2, .ref (K.2.2.1 + a2)), (3, .int x3)] [] (ix_w z1 d1)) : ix_G p l e room_1 s m #[Value.ref b] below meth c (lw_Z below #[Value.ref b] s) K 4 kc ns 324 [(0, .ref b), (1, .ref (K.2.2.1 + a1)), (2, .ref (K.2.2.1 + a2)), (3, .int x3)] [] (ix_w z d) := by
  unfold f_law_324 at h
  refine ix_aload_n (i := 1) (j := 1) X (ix_tb_at tb_law 66 rfl) rfl rfl (pc1 := 325) rfl ?_
  refine ix_aload_n (i := 0) (j := 0) X (ix_tb_at tb_law 67 rfl) rfl rfl (pc1 := 326) rfl ?_
  refine ix_iload_n (i := 3) (j := 3) X (ix_tb_at tb_law 68 rfl) rfl rfl (pc1 := 327) rfl ?_
  refine ix_iconst (v := 1) X (ix_tb_at tb_law 69 rfl) (by decide) (pc1 := 328) rfl ?_
  refine ix_iadd X (ix_tb_at tb_law 70 rfl) (pc1 := 329) rfl ?_
  obtain ⟨k_26, h⟩ := ix_ck_some h
  refine ix_sld X hX hbl hbN k_26 (ix_tb_at tb_law 71 rfl) (pc1 := 330) rfl ?_
  obtain ⟨k_29, h⟩ := ix_ck_some h
  obtain ⟨r_30, d_27, h_28, h⟩ := ix_bd2_ex h
  refine ix_callV (As := [.int (xs (ix_n (x3 + 1)))]) (rest := []) (ci := 10) (T := TX11) (nf := 18) X mf_X11_drop mi_X11_drop ms_X11_drop rfl (Nat.le_of_ble_eq_true rfl) ml_R_law_23 ⟨Nat.le_of_ble_eq_true rfl, Nat.le_of_ble_eq_true rfl⟩ ⟨Nat.le_trans (by omega) hkc, Nat.le_trans (by omega) hns⟩ rfl (Nat.le_of_ble_eq_true rfl) (ix_tb_at tb_law 72 rfl) ⟨k_29.1, List.mem_singleton.mp k_29.2⟩ (c_X11_drop hKp h_28) rfl (pc1 := 333) rfl ?_
  refine ix_aload_n (i := 2) (j := 2) X (ix_tb_at tb_law 73 rfl) rfl rfl (pc1 := 334) rfl ?_
  refine ix_aload_n (i := 0) (j := 0) X (ix_tb_at tb_law 74 rfl) rfl rfl (pc1 := 335) rfl ?_
  refine ix_iload_n (i := 3) (j := 3) X (ix_tb_at tb_law 75 rfl) rfl rfl (pc1 := 336) rfl ?_
  refine ix_iconst (v := 1) X (ix_tb_at tb_law 76 rfl) (by decide) (pc1 := 337) rfl ?_
  refine ix_iadd X (ix_tb_at tb_law 77 rfl) (pc1 := 338) rfl ?_
  refine ix_sld X hX hbl hbN k_26 (ix_tb_at tb_law 78 rfl) (pc1 := 339) rfl ?_
  obtain ⟨k_33, h⟩ := ix_ck_some h
  obtain ⟨r_34, d_31, h_32, h⟩ := ix_bd2_ex h
  refine ix_callV (As := [.int (xs (ix_n (x3 + 1)))]) (rest := [.int r_30]) (ci := 11) (T := TX12) (nf := 116) X mf_X12_drop mi_X12_drop ms_X12_drop rfl (Nat.le_of_ble_eq_true rfl) ml_R_law_26 ⟨Nat.le_of_ble_eq_true rfl, Nat.le_of_ble_eq_true rfl⟩ ⟨Nat.le_trans (by omega) hkc, Nat.le_trans (by omega) hns⟩ rfl (Nat.le_of_ble_eq_true rfl) (ix_tb_at tb_law 79 rfl) ⟨k_33.1, List.mem_singleton.mp k_33.2⟩ (c_X12_drop hKp h_32) rfl (pc1 := 342) rfl ?_
  refine ix_icmp_eq (tgt := 1718) X (ix_tb_at tb_law 80 rfl) (by decide) (pc1 := 345) rfl (fun q_35 => ?_) (fun q_35 => ?_)
  · have h := ix_ift q_35 h
    obtain ⟨rfl, rfl⟩ := ix_sm h
    exact ix_widen (by omega) (by omega) kk
  · have h := ix_iff q_35 h
    refine ix_iconst (v := 0) X (ix_tb_at tb_law 81 rfl) (by decide) (pc1 := 346) rfl ?_
    cases h
set_option maxRecDepth 20000 in
theorem t_law_347 {l : Launch} {p : Program} {e : Env} {s : State} {m : MethodId} {below : List Frame} {meth : Method} {c : Code} {K : ix_Cx} {b Ls kc ns : Nat} {xs : Nat → Int32} (hKp : ix_Kp K) (hF : ix_Fc K) (hT : ix_Tc K) (X : ix_X p s m #[Value.ref b] c K code R_law 4) (hX : va_X b Ls xs s s.heap) (hbl : b < s.heap.size) (hbN : ¬ ix_A K b) (hkc : kc + 8 ≤ 600000) (hns : ns + 400 ≤ 7302250) {n : Nat} {z z1 : ix_Z} {a1 a2 : Nat} {x3 : Int32} {d d1 : ix_D2} (h : f_law_347 n Ls xs z a1 a2 x3 d = some (z1, d1)) (kk : ix_G p l e room_1 s m #[Value.ref b] below meth c (lw_Z below #[Value.ref b] s) K 4 (kc + 8) (ns + 400) 1718 [(0, .ref b), (1, .ref (K.2.2.1 + a1)), (2, .ref (K.2.2.1 + a2)), (3, .int x3)] [] (ix_w z1 d1)) : ix_G p l e room_1 s m #[Value.ref b] below meth c (lw_Z below #[Value.ref b] s) K 4 kc ns 347 [(0, .ref b), (1, .ref (K.2.2.1 + a1)), (2, .ref (K.2.2.1 + a2)), (3, .int x3)] [] (ix_w z d) := by
  unfold f_law_347 at h
  refine ix_aload_n (i := 1) (j := 1) X (ix_tb_at tb_law 83 rfl) rfl rfl (pc1 := 348) rfl ?_
  refine ix_aload_n (i := 0) (j := 0) X (ix_tb_at tb_law 84 rfl) rfl rfl (pc1 := 349) rfl ?_
  refine ix_iload_n (i := 3) (j := 3) X (ix_tb_at tb_law 85 rfl) rfl rfl (pc1 := 350) rfl ?_
  refine ix_iconst (v := 1) X (ix_tb_at tb_law 86 rfl) (by decide) (pc1 := 351) rfl ?_
  refine ix_iadd X (ix_tb_at tb_law 87 rfl) (pc1 := 352) rfl ?_
  obtain ⟨k_37, h⟩ := ix_ck_some h
  refine ix_sld X hX hbl hbN k_37 (ix_tb_at tb_law 88 rfl) (pc1 := 353) rfl ?_
  refine ix_aload_n (i := 0) (j := 0) X (ix_tb_at tb_law 89 rfl) rfl rfl (pc1 := 354) rfl ?_
  refine ix_iload_n (i := 3) (j := 3) X (ix_tb_at tb_law 90 rfl) rfl rfl (pc1 := 355) rfl ?_
  refine ix_iconst (v := 2) X (ix_tb_at tb_law 91 rfl) (by decide) (pc1 := 356) rfl ?_
  refine ix_iadd X (ix_tb_at tb_law 92 rfl) (pc1 := 357) rfl ?_
  obtain ⟨k_38, h⟩ := ix_ck_some h
  refine ix_sld X hX hbl hbN k_38 (ix_tb_at tb_law 93 rfl) (pc1 := 358) rfl ?_
  refine ix_aload_n (i := 0) (j := 0) X (ix_tb_at tb_law 94 rfl) rfl rfl (pc1 := 359) rfl ?_
  refine ix_iload_n (i := 3) (j := 3) X (ix_tb_at tb_law 95 rfl) rfl rfl (pc1 := 360) rfl ?_
  refine ix_iconst (v := 3) X (ix_tb_at tb_law 96 rfl) (by decide) (pc1 := 361) rfl ?_
  refine ix_iadd X (ix_tb_at tb_law 97 rfl) (pc1 := 362) rfl ?_
  obtain ⟨k_39, h⟩ := ix_ck_some h
  refine ix_sld X hX hbl hbN k_39 (ix_tb_at tb_law 98 rfl) (pc1 := 363) rfl ?_
  obtain ⟨k_42, h⟩ := ix_ck_some h
  obtain ⟨r_43, d_40, h_41, h⟩ := ix_bd2_ex h
  refine ix_callV (As := [.int (xs (ix_n (x3 + 1))), .int (xs (ix_n (x3 + 2))), .int (xs (ix_n (x3 + 3)))]) (rest := []) (ci := 10) (T := TX11) (nf := 18) X mf_X11_put mi_X11_put ms_X11_put rfl (Nat.le_of_ble_eq_true rfl) ml_R_law_27 ⟨Nat.le_of_ble_eq_true rfl, Nat.le_of_ble_eq_true rfl⟩ ⟨Nat.le_trans (by omega) hkc, Nat.le_trans (by omega) hns⟩ rfl (Nat.le_of_ble_eq_true rfl) (ix_tb_at tb_law 99 rfl) ⟨k_42.1, List.mem_singleton.mp k_42.2⟩ (c_X11_put hKp h_41) rfl (pc1 := 366) rfl ?_
  refine ix_aload_n (i := 2) (j := 2) X (ix_tb_at tb_law 100 rfl) rfl rfl (pc1 := 367) rfl ?_
  refine ix_aload_n (i := 0) (j := 0) X (ix_tb_at tb_law 101 rfl) rfl rfl (pc1 := 368) rfl ?_
  refine ix_iload_n (i := 3) (j := 3) X (ix_tb_at tb_law 102 rfl) rfl rfl (pc1 := 369) rfl ?_
  refine ix_iconst (v := 1) X (ix_tb_at tb_law 103 rfl) (by decide) (pc1 := 370) rfl ?_
  refine ix_iadd X (ix_tb_at tb_law 104 rfl) (pc1 := 371) rfl ?_
  refine ix_sld X hX hbl hbN k_37 (ix_tb_at tb_law 105 rfl) (pc1 := 372) rfl ?_
  refine ix_aload_n (i := 0) (j := 0) X (ix_tb_at tb_law 106 rfl) rfl rfl (pc1 := 373) rfl ?_
  refine ix_iload_n (i := 3) (j := 3) X (ix_tb_at tb_law 107 rfl) rfl rfl (pc1 := 374) rfl ?_
  refine ix_iconst (v := 2) X (ix_tb_at tb_law 108 rfl) (by decide) (pc1 := 375) rfl ?_
  refine ix_iadd X (ix_tb_at tb_law 109 rfl) (pc1 := 376) rfl ?_
  refine ix_sld X hX hbl hbN k_38 (ix_tb_at tb_law 110 rfl) (pc1 := 377) rfl ?_
  refine ix_aload_n (i := 0) (j := 0) X (ix_tb_at tb_law 111 rfl) rfl rfl (pc1 := 378) rfl ?_
  refine ix_iload_n (i := 3) (j := 3) X (ix_tb_at tb_law 112 rfl) rfl rfl (pc1 := 379) rfl ?_
  refine ix_iconst (v := 3) X (ix_tb_at tb_law 113 rfl) (by decide) (pc1 := 380) rfl ?_
  refine ix_iadd X (ix_tb_at tb_law 114 rfl) (pc1 := 381) rfl ?_
  refine ix_sld X hX hbl hbN k_39 (ix_tb_at tb_law 115 rfl) (pc1 := 382) rfl ?_
  obtain ⟨k_46, h⟩ := ix_ck_some h
  obtain ⟨r_47, d_44, h_45, h⟩ := ix_bd2_ex h
  refine ix_callV (As := [.int (xs (ix_n (x3 + 1))), .int (xs (ix_n (x3 + 2))), .int (xs (ix_n (x3 + 3)))]) (rest := [.int r_43]) (ci := 11) (T := TX12) (nf := 116) X mf_X12_put mi_X12_put ms_X12_put rfl (Nat.le_of_ble_eq_true rfl) ml_R_law_31 ⟨Nat.le_of_ble_eq_true rfl, Nat.le_of_ble_eq_true rfl⟩ ⟨Nat.le_trans (by omega) hkc, Nat.le_trans (by omega) hns⟩ rfl (Nat.le_of_ble_eq_true rfl) (ix_tb_at tb_law 116 rfl) ⟨k_46.1, List.mem_singleton.mp k_46.2⟩ (c_X12_put hKp h_45) rfl (pc1 := 385) rfl ?_
  refine ix_icmp_eq (tgt := 1718) X (ix_tb_at tb_law 117 rfl) (by decide) (pc1 := 388) rfl (fun q_48 => ?_) (fun q_48 => ?_)
  · have h := ix_ift q_48 h
    obtain ⟨rfl, rfl⟩ := ix_sm h
    exact ix_widen (by omega) (by omega) kk
  · have h := ix_iff q_48 h
    refine ix_iconst (v := 0) X (ix_tb_at tb_law 118 rfl) (by decide) (pc1 := 389) rfl ?_
    cases h
set_option maxRecDepth 20000 in
theorem t_law_390 {l : Launch} {p : Program} {e : Env} {s : State} {m : MethodId} {below : List Frame} {meth : Method} {c : Code} {K : ix_Cx} {b Ls kc ns : Nat} {xs : Nat → Int32} (hKp : ix_Kp K) (hF : ix_Fc K) (hT : ix_Tc K) (X : ix_X p s m #[Value.ref b] c K code R_law 4) (hX : va_X b Ls xs s s.heap) (hbl : b < s.heap.size) (hbN : ¬ ix_A K b) (hkc : kc + 8 ≤ 600000) (hns : ns + 400 ≤ 7302250) {n : Nat} {z z1 : ix_Z} {a1 a2 : Nat} {x3 : Int32} {d d1 : ix_D2} (h : f_law_390 n Ls xs z a1 a2 x3 d = some (z1, d1)) (kk : ix_G p l e room_1 s m #[Value.ref b] below meth c (lw_Z below #[Value.ref b] s) K 4 (kc + 8) (ns + 400) 1718 [(0, .ref b), (1, .ref (K.2.2.1 + a1)), (2, .ref (K.2.2.1 + a2)), (3, .int x3)] [] (ix_w z1 d1)) : ix_G p l e room_1 s m #[Value.ref b] below meth c (lw_Z below #[Value.ref b] s) K 4 kc ns 390 [(0, .ref b), (1, .ref (K.2.2.1 + a1)), (2, .ref (K.2.2.1 + a2)), (3, .int x3)] [] (ix_w z d) := by
  unfold f_law_390 at h
  refine ix_aload_n (i := 1) (j := 1) X (ix_tb_at tb_law 120 rfl) rfl rfl (pc1 := 391) rfl ?_
  refine ix_aload_n (i := 0) (j := 0) X (ix_tb_at tb_law 121 rfl) rfl rfl (pc1 := 392) rfl ?_
  refine ix_iload_n (i := 3) (j := 3) X (ix_tb_at tb_law 122 rfl) rfl rfl (pc1 := 393) rfl ?_
  refine ix_iconst (v := 1) X (ix_tb_at tb_law 123 rfl) (by decide) (pc1 := 394) rfl ?_
  refine ix_iadd X (ix_tb_at tb_law 124 rfl) (pc1 := 395) rfl ?_
  obtain ⟨k_50, h⟩ := ix_ck_some h
  refine ix_sld X hX hbl hbN k_50 (ix_tb_at tb_law 125 rfl) (pc1 := 396) rfl ?_
  refine ix_aload_n (i := 0) (j := 0) X (ix_tb_at tb_law 126 rfl) rfl rfl (pc1 := 397) rfl ?_
  refine ix_iload_n (i := 3) (j := 3) X (ix_tb_at tb_law 127 rfl) rfl rfl (pc1 := 398) rfl ?_
  refine ix_iconst (v := 2) X (ix_tb_at tb_law 128 rfl) (by decide) (pc1 := 399) rfl ?_
  refine ix_iadd X (ix_tb_at tb_law 129 rfl) (pc1 := 400) rfl ?_
  obtain ⟨k_51, h⟩ := ix_ck_some h
  refine ix_sld X hX hbl hbN k_51 (ix_tb_at tb_law 130 rfl) (pc1 := 401) rfl ?_
  obtain ⟨k_54, h⟩ := ix_ck_some h
  obtain ⟨r_55, d_52, h_53, h⟩ := ix_bd2_ex h
  refine ix_callV (As := [.int (xs (ix_n (x3 + 1))), .int (xs (ix_n (x3 + 2)))]) (rest := []) (ci := 10) (T := TX11) (nf := 18) X mf_X11_get mi_X11_get ms_X11_get rfl (Nat.le_of_ble_eq_true rfl) ml_R_law_32 ⟨Nat.le_of_ble_eq_true rfl, Nat.le_of_ble_eq_true rfl⟩ ⟨Nat.le_trans (by omega) hkc, Nat.le_trans (by omega) hns⟩ rfl (Nat.le_of_ble_eq_true rfl) (ix_tb_at tb_law 131 rfl) ⟨k_54.1, List.mem_singleton.mp k_54.2⟩ (c_X11_get hKp h_53) rfl (pc1 := 404) rfl ?_
  refine ix_aload_n (i := 2) (j := 2) X (ix_tb_at tb_law 132 rfl) rfl rfl (pc1 := 405) rfl ?_
  refine ix_aload_n (i := 0) (j := 0) X (ix_tb_at tb_law 133 rfl) rfl rfl (pc1 := 406) rfl ?_
  refine ix_iload_n (i := 3) (j := 3) X (ix_tb_at tb_law 134 rfl) rfl rfl (pc1 := 407) rfl ?_
  refine ix_iconst (v := 1) X (ix_tb_at tb_law 135 rfl) (by decide) (pc1 := 408) rfl ?_
  refine ix_iadd X (ix_tb_at tb_law 136 rfl) (pc1 := 409) rfl ?_
  refine ix_sld X hX hbl hbN k_50 (ix_tb_at tb_law 137 rfl) (pc1 := 410) rfl ?_
  refine ix_aload_n (i := 0) (j := 0) X (ix_tb_at tb_law 138 rfl) rfl rfl (pc1 := 411) rfl ?_
  refine ix_iload_n (i := 3) (j := 3) X (ix_tb_at tb_law 139 rfl) rfl rfl (pc1 := 412) rfl ?_
  refine ix_iconst (v := 2) X (ix_tb_at tb_law 140 rfl) (by decide) (pc1 := 413) rfl ?_
  refine ix_iadd X (ix_tb_at tb_law 141 rfl) (pc1 := 414) rfl ?_
  refine ix_sld X hX hbl hbN k_51 (ix_tb_at tb_law 142 rfl) (pc1 := 415) rfl ?_
  obtain ⟨k_58, h⟩ := ix_ck_some h
  obtain ⟨r_59, d_56, h_57, h⟩ := ix_bd2_ex h
  refine ix_callV (As := [.int (xs (ix_n (x3 + 1))), .int (xs (ix_n (x3 + 2)))]) (rest := [.long r_55]) (ci := 11) (T := TX12) (nf := 116) X mf_X12_get mi_X12_get ms_X12_get rfl (Nat.le_of_ble_eq_true rfl) ml_R_law_36 ⟨Nat.le_of_ble_eq_true rfl, Nat.le_of_ble_eq_true rfl⟩ ⟨Nat.le_trans (by omega) hkc, Nat.le_trans (by omega) hns⟩ rfl (Nat.le_of_ble_eq_true rfl) (ix_tb_at tb_law 143 rfl) ⟨k_58.1, List.mem_singleton.mp k_58.2⟩ (c_X12_get hKp h_57) rfl (pc1 := 418) rfl ?_
  refine ix_lcmp X (ix_tb_at tb_law 144 rfl) (pc1 := 419) rfl ?_
  refine ix_if_eq (tgt := 1718) X (ix_tb_at tb_law 145 rfl) (by decide) (pc1 := 422) rfl (fun q_60 => ?_) (fun q_60 => ?_)
  · have h := ix_ift q_60 h
    obtain ⟨rfl, rfl⟩ := ix_sm h
    exact ix_widen (by omega) (by omega) kk
  · have h := ix_iff q_60 h
    refine ix_iconst (v := 0) X (ix_tb_at tb_law 146 rfl) (by decide) (pc1 := 423) rfl ?_
    cases h
set_option maxRecDepth 20000 in
theorem t_law_424 {l : Launch} {p : Program} {e : Env} {s : State} {m : MethodId} {below : List Frame} {meth : Method} {c : Code} {K : ix_Cx} {b Ls kc ns : Nat} {xs : Nat → Int32} (hKp : ix_Kp K) (hF : ix_Fc K) (hT : ix_Tc K) (X : ix_X p s m #[Value.ref b] c K code R_law 4) (hX : va_X b Ls xs s s.heap) (hbl : b < s.heap.size) (hbN : ¬ ix_A K b) (hkc : kc + 8 ≤ 600000) (hns : ns + 400 ≤ 7302250) {n : Nat} {z z1 : ix_Z} {a1 a2 : Nat} {x3 : Int32} {d d1 : ix_D2} (h : f_law_424 n Ls xs z a1 a2 x3 d = some (z1, d1)) (kk : ix_G p l e room_1 s m #[Value.ref b] below meth c (lw_Z below #[Value.ref b] s) K 4 (kc + 8) (ns + 400) 1718 [(0, .ref b), (1, .ref (K.2.2.1 + a1)), (2, .ref (K.2.2.1 + a2)), (3, .int x3)] [] (ix_w z1 d1)) : ix_G p l e room_1 s m #[Value.ref b] below meth c (lw_Z below #[Value.ref b] s) K 4 kc ns 424 [(0, .ref b), (1, .ref (K.2.2.1 + a1)), (2, .ref (K.2.2.1 + a2)), (3, .int x3)] [] (ix_w z d) := by
  unfold f_law_424 at h
  refine ix_aload_n (i := 1) (j := 1) X (ix_tb_at tb_law 148 rfl) rfl rfl (pc1 := 425) rfl ?_
  refine ix_aload_n (i := 0) (j := 0) X (ix_tb_at tb_law 149 rfl) rfl rfl (pc1 := 426) rfl ?_
  refine ix_iload_n (i := 3) (j := 3) X (ix_tb_at tb_law 150 rfl) rfl rfl (pc1 := 427) rfl ?_
  refine ix_iconst (v := 1) X (ix_tb_at tb_law 151 rfl) (by decide) (pc1 := 428) rfl ?_
  refine ix_iadd X (ix_tb_at tb_law 152 rfl) (pc1 := 429) rfl ?_
  obtain ⟨k_62, h⟩ := ix_ck_some h
  refine ix_sld X hX hbl hbN k_62 (ix_tb_at tb_law 153 rfl) (pc1 := 430) rfl ?_
  refine ix_aload_n (i := 0) (j := 0) X (ix_tb_at tb_law 154 rfl) rfl rfl (pc1 := 431) rfl ?_
  refine ix_iload_n (i := 3) (j := 3) X (ix_tb_at tb_law 155 rfl) rfl rfl (pc1 := 432) rfl ?_
  refine ix_iconst (v := 2) X (ix_tb_at tb_law 156 rfl) (by decide) (pc1 := 433) rfl ?_
  refine ix_iadd X (ix_tb_at tb_law 157 rfl) (pc1 := 434) rfl ?_
  obtain ⟨k_63, h⟩ := ix_ck_some h
  refine ix_sld X hX hbl hbN k_63 (ix_tb_at tb_law 158 rfl) (pc1 := 435) rfl ?_
  refine ix_aload_n (i := 0) (j := 0) X (ix_tb_at tb_law 159 rfl) rfl rfl (pc1 := 436) rfl ?_
  refine ix_iload_n (i := 3) (j := 3) X (ix_tb_at tb_law 160 rfl) rfl rfl (pc1 := 437) rfl ?_
  refine ix_iconst (v := 3) X (ix_tb_at tb_law 161 rfl) (by decide) (pc1 := 438) rfl ?_
  refine ix_iadd X (ix_tb_at tb_law 162 rfl) (pc1 := 439) rfl ?_
  obtain ⟨k_64, h⟩ := ix_ck_some h
  refine ix_sld X hX hbl hbN k_64 (ix_tb_at tb_law 163 rfl) (pc1 := 440) rfl ?_
  refine ix_aload_n (i := 0) (j := 0) X (ix_tb_at tb_law 164 rfl) rfl rfl (pc1 := 441) rfl ?_
  refine ix_iload_n (i := 3) (j := 3) X (ix_tb_at tb_law 165 rfl) rfl rfl (pc1 := 442) rfl ?_
  refine ix_iconst (v := 4) X (ix_tb_at tb_law 166 rfl) (by decide) (pc1 := 443) rfl ?_
  refine ix_iadd X (ix_tb_at tb_law 167 rfl) (pc1 := 444) rfl ?_
  obtain ⟨k_65, h⟩ := ix_ck_some h
  refine ix_sld X hX hbl hbN k_65 (ix_tb_at tb_law 168 rfl) (pc1 := 445) rfl ?_
  refine ix_aload_n (i := 0) (j := 0) X (ix_tb_at tb_law 169 rfl) rfl rfl (pc1 := 446) rfl ?_
  refine ix_iload_n (i := 3) (j := 3) X (ix_tb_at tb_law 170 rfl) rfl rfl (pc1 := 447) rfl ?_
  refine ix_iconst (v := 5) X (ix_tb_at tb_law 171 rfl) (by decide) (pc1 := 448) rfl ?_
  refine ix_iadd X (ix_tb_at tb_law 172 rfl) (pc1 := 449) rfl ?_
  obtain ⟨k_66, h⟩ := ix_ck_some h
  refine ix_sld X hX hbl hbN k_66 (ix_tb_at tb_law 173 rfl) (pc1 := 450) rfl ?_
  obtain ⟨k_69, h⟩ := ix_ck_some h
  obtain ⟨r_70, d_67, h_68, h⟩ := ix_bd2_ex h
  refine ix_callV (As := [.int (xs (ix_n (x3 + 1))), .int (xs (ix_n (x3 + 2))), .int (xs (ix_n (x3 + 3))), .int (xs (ix_n (x3 + 4))), .int (xs (ix_n (x3 + 5)))]) (rest := []) (ci := 10) (T := TX11) (nf := 18) X mf_X11_copy mi_X11_copy ms_X11_copy rfl (Nat.le_of_ble_eq_true rfl) ml_R_law_37 ⟨Nat.le_of_ble_eq_true rfl, Nat.le_of_ble_eq_true rfl⟩ ⟨Nat.le_trans (by omega) hkc, Nat.le_trans (by omega) hns⟩ rfl (Nat.le_of_ble_eq_true rfl) (ix_tb_at tb_law 174 rfl) ⟨k_69.1, List.mem_singleton.mp k_69.2⟩ (c_X11_copy hKp h_68) rfl (pc1 := 453) rfl ?_
  refine ix_aload_n (i := 2) (j := 2) X (ix_tb_at tb_law 175 rfl) rfl rfl (pc1 := 454) rfl ?_
  refine ix_aload_n (i := 0) (j := 0) X (ix_tb_at tb_law 176 rfl) rfl rfl (pc1 := 455) rfl ?_
  refine ix_iload_n (i := 3) (j := 3) X (ix_tb_at tb_law 177 rfl) rfl rfl (pc1 := 456) rfl ?_
  refine ix_iconst (v := 1) X (ix_tb_at tb_law 178 rfl) (by decide) (pc1 := 457) rfl ?_
  refine ix_iadd X (ix_tb_at tb_law 179 rfl) (pc1 := 458) rfl ?_
  refine ix_sld X hX hbl hbN k_62 (ix_tb_at tb_law 180 rfl) (pc1 := 459) rfl ?_
  refine ix_aload_n (i := 0) (j := 0) X (ix_tb_at tb_law 181 rfl) rfl rfl (pc1 := 460) rfl ?_
  refine ix_iload_n (i := 3) (j := 3) X (ix_tb_at tb_law 182 rfl) rfl rfl (pc1 := 461) rfl ?_
  refine ix_iconst (v := 2) X (ix_tb_at tb_law 183 rfl) (by decide) (pc1 := 462) rfl ?_
  refine ix_iadd X (ix_tb_at tb_law 184 rfl) (pc1 := 463) rfl ?_
  refine ix_sld X hX hbl hbN k_63 (ix_tb_at tb_law 185 rfl) (pc1 := 464) rfl ?_
  refine ix_aload_n (i := 0) (j := 0) X (ix_tb_at tb_law 186 rfl) rfl rfl (pc1 := 465) rfl ?_
  refine ix_iload_n (i := 3) (j := 3) X (ix_tb_at tb_law 187 rfl) rfl rfl (pc1 := 466) rfl ?_
  refine ix_iconst (v := 3) X (ix_tb_at tb_law 188 rfl) (by decide) (pc1 := 467) rfl ?_
  refine ix_iadd X (ix_tb_at tb_law 189 rfl) (pc1 := 468) rfl ?_
  refine ix_sld X hX hbl hbN k_64 (ix_tb_at tb_law 190 rfl) (pc1 := 469) rfl ?_
  refine ix_aload_n (i := 0) (j := 0) X (ix_tb_at tb_law 191 rfl) rfl rfl (pc1 := 470) rfl ?_
  refine ix_iload_n (i := 3) (j := 3) X (ix_tb_at tb_law 192 rfl) rfl rfl (pc1 := 471) rfl ?_
  refine ix_iconst (v := 4) X (ix_tb_at tb_law 193 rfl) (by decide) (pc1 := 472) rfl ?_
  refine ix_iadd X (ix_tb_at tb_law 194 rfl) (pc1 := 473) rfl ?_
  refine ix_sld X hX hbl hbN k_65 (ix_tb_at tb_law 195 rfl) (pc1 := 474) rfl ?_
  refine ix_aload_n (i := 0) (j := 0) X (ix_tb_at tb_law 196 rfl) rfl rfl (pc1 := 475) rfl ?_
  refine ix_iload_n (i := 3) (j := 3) X (ix_tb_at tb_law 197 rfl) rfl rfl (pc1 := 476) rfl ?_
  refine ix_iconst (v := 5) X (ix_tb_at tb_law 198 rfl) (by decide) (pc1 := 477) rfl ?_
  refine ix_iadd X (ix_tb_at tb_law 199 rfl) (pc1 := 478) rfl ?_
  refine ix_sld X hX hbl hbN k_66 (ix_tb_at tb_law 200 rfl) (pc1 := 479) rfl ?_
  obtain ⟨k_73, h⟩ := ix_ck_some h
  obtain ⟨r_74, d_71, h_72, h⟩ := ix_bd2_ex h
  refine ix_callV (As := [.int (xs (ix_n (x3 + 1))), .int (xs (ix_n (x3 + 2))), .int (xs (ix_n (x3 + 3))), .int (xs (ix_n (x3 + 4))), .int (xs (ix_n (x3 + 5)))]) (rest := [.int r_70]) (ci := 11) (T := TX12) (nf := 116) X mf_X12_copy mi_X12_copy ms_X12_copy rfl (Nat.le_of_ble_eq_true rfl) ml_R_law_41 ⟨Nat.le_of_ble_eq_true rfl, Nat.le_of_ble_eq_true rfl⟩ ⟨Nat.le_trans (by omega) hkc, Nat.le_trans (by omega) hns⟩ rfl (Nat.le_of_ble_eq_true rfl) (ix_tb_at tb_law 201 rfl) ⟨k_73.1, List.mem_singleton.mp k_73.2⟩ (c_X12_copy hKp h_72) rfl (pc1 := 482) rfl ?_
  refine ix_icmp_eq (tgt := 1718) X (ix_tb_at tb_law 202 rfl) (by decide) (pc1 := 485) rfl (fun q_75 => ?_) (fun q_75 => ?_)
  · have h := ix_ift q_75 h
    obtain ⟨rfl, rfl⟩ := ix_sm h
    exact ix_widen (by omega) (by omega) kk
  · have h := ix_iff q_75 h
    refine ix_iconst (v := 0) X (ix_tb_at tb_law 203 rfl) (by decide) (pc1 := 486) rfl ?_
    cases h
set_option maxRecDepth 20000 in
theorem t_law_487 {l : Launch} {p : Program} {e : Env} {s : State} {m : MethodId} {below : List Frame} {meth : Method} {c : Code} {K : ix_Cx} {b Ls kc ns : Nat} {xs : Nat → Int32} (hKp : ix_Kp K) (hF : ix_Fc K) (hT : ix_Tc K) (X : ix_X p s m #[Value.ref b] c K code R_law 4) (hX : va_X b Ls xs s s.heap) (hbl : b < s.heap.size) (hbN : ¬ ix_A K b) (hkc : kc + 8 ≤ 600000) (hns : ns + 400 ≤ 7302250) {n : Nat} {z z1 : ix_Z} {a1 a2 : Nat} {x3 : Int32} {d d1 : ix_D2} (h : f_law_487 n Ls xs z a1 a2 x3 d = some (z1, d1)) (kk : ix_G p l e room_1 s m #[Value.ref b] below meth c (lw_Z below #[Value.ref b] s) K 4 (kc + 8) (ns + 400) 1718 [(0, .ref b), (1, .ref (K.2.2.1 + a1)), (2, .ref (K.2.2.1 + a2)), (3, .int x3)] [] (ix_w z1 d1)) : ix_G p l e room_1 s m #[Value.ref b] below meth c (lw_Z below #[Value.ref b] s) K 4 kc ns 487 [(0, .ref b), (1, .ref (K.2.2.1 + a1)), (2, .ref (K.2.2.1 + a2)), (3, .int x3)] [] (ix_w z d) := by
  unfold f_law_487 at h
  refine ix_aload_n (i := 1) (j := 1) X (ix_tb_at tb_law 205 rfl) rfl rfl (pc1 := 488) rfl ?_
  refine ix_aload_n (i := 0) (j := 0) X (ix_tb_at tb_law 206 rfl) rfl rfl (pc1 := 489) rfl ?_
  refine ix_iload_n (i := 3) (j := 3) X (ix_tb_at tb_law 207 rfl) rfl rfl (pc1 := 490) rfl ?_
  refine ix_iconst (v := 1) X (ix_tb_at tb_law 208 rfl) (by decide) (pc1 := 491) rfl ?_
  refine ix_iadd X (ix_tb_at tb_law 209 rfl) (pc1 := 492) rfl ?_
  obtain ⟨k_77, h⟩ := ix_ck_some h
  refine ix_sld X hX hbl hbN k_77 (ix_tb_at tb_law 210 rfl) (pc1 := 493) rfl ?_
  refine ix_aload_n (i := 0) (j := 0) X (ix_tb_at tb_law 211 rfl) rfl rfl (pc1 := 494) rfl ?_
  refine ix_iload_n (i := 3) (j := 3) X (ix_tb_at tb_law 212 rfl) rfl rfl (pc1 := 495) rfl ?_
  refine ix_iconst (v := 2) X (ix_tb_at tb_law 213 rfl) (by decide) (pc1 := 496) rfl ?_
  refine ix_iadd X (ix_tb_at tb_law 214 rfl) (pc1 := 497) rfl ?_
  obtain ⟨k_78, h⟩ := ix_ck_some h
  refine ix_sld X hX hbl hbN k_78 (ix_tb_at tb_law 215 rfl) (pc1 := 498) rfl ?_
  obtain ⟨k_81, h⟩ := ix_ck_some h
  obtain ⟨r_82, d_79, h_80, h⟩ := ix_bd2_ex h
  refine ix_callV (As := [.int (xs (ix_n (x3 + 1))), .int (xs (ix_n (x3 + 2)))]) (rest := []) (ci := 10) (T := TX11) (nf := 18) X mf_X11_cut mi_X11_cut ms_X11_cut rfl (Nat.le_of_ble_eq_true rfl) ml_R_law_42 ⟨Nat.le_of_ble_eq_true rfl, Nat.le_of_ble_eq_true rfl⟩ ⟨Nat.le_trans (by omega) hkc, Nat.le_trans (by omega) hns⟩ rfl (Nat.le_of_ble_eq_true rfl) (ix_tb_at tb_law 216 rfl) ⟨k_81.1, List.mem_singleton.mp k_81.2⟩ (c_X11_cut hKp h_80) rfl (pc1 := 501) rfl ?_
  refine ix_aload_n (i := 2) (j := 2) X (ix_tb_at tb_law 217 rfl) rfl rfl (pc1 := 502) rfl ?_
  refine ix_aload_n (i := 0) (j := 0) X (ix_tb_at tb_law 218 rfl) rfl rfl (pc1 := 503) rfl ?_
  refine ix_iload_n (i := 3) (j := 3) X (ix_tb_at tb_law 219 rfl) rfl rfl (pc1 := 504) rfl ?_
  refine ix_iconst (v := 1) X (ix_tb_at tb_law 220 rfl) (by decide) (pc1 := 505) rfl ?_
  refine ix_iadd X (ix_tb_at tb_law 221 rfl) (pc1 := 506) rfl ?_
  refine ix_sld X hX hbl hbN k_77 (ix_tb_at tb_law 222 rfl) (pc1 := 507) rfl ?_
  refine ix_aload_n (i := 0) (j := 0) X (ix_tb_at tb_law 223 rfl) rfl rfl (pc1 := 508) rfl ?_
  refine ix_iload_n (i := 3) (j := 3) X (ix_tb_at tb_law 224 rfl) rfl rfl (pc1 := 509) rfl ?_
  refine ix_iconst (v := 2) X (ix_tb_at tb_law 225 rfl) (by decide) (pc1 := 510) rfl ?_
  refine ix_iadd X (ix_tb_at tb_law 226 rfl) (pc1 := 511) rfl ?_
  refine ix_sld X hX hbl hbN k_78 (ix_tb_at tb_law 227 rfl) (pc1 := 512) rfl ?_
  obtain ⟨k_85, h⟩ := ix_ck_some h
  obtain ⟨r_86, d_83, h_84, h⟩ := ix_bd2_ex h
  refine ix_callV (As := [.int (xs (ix_n (x3 + 1))), .int (xs (ix_n (x3 + 2)))]) (rest := [.int r_82]) (ci := 11) (T := TX12) (nf := 116) X mf_X12_cut mi_X12_cut ms_X12_cut rfl (Nat.le_of_ble_eq_true rfl) ml_R_law_45 ⟨Nat.le_of_ble_eq_true rfl, Nat.le_of_ble_eq_true rfl⟩ ⟨Nat.le_trans (by omega) hkc, Nat.le_trans (by omega) hns⟩ rfl (Nat.le_of_ble_eq_true rfl) (ix_tb_at tb_law 228 rfl) ⟨k_85.1, List.mem_singleton.mp k_85.2⟩ (c_X12_cut hKp h_84) rfl (pc1 := 515) rfl ?_
  refine ix_icmp_eq (tgt := 1718) X (ix_tb_at tb_law 229 rfl) (by decide) (pc1 := 518) rfl (fun q_87 => ?_) (fun q_87 => ?_)
  · have h := ix_ift q_87 h
    obtain ⟨rfl, rfl⟩ := ix_sm h
    exact ix_widen (by omega) (by omega) kk
  · have h := ix_iff q_87 h
    refine ix_iconst (v := 0) X (ix_tb_at tb_law 230 rfl) (by decide) (pc1 := 519) rfl ?_
    cases h
set_option maxRecDepth 20000 in
theorem t_law_520 {l : Launch} {p : Program} {e : Env} {s : State} {m : MethodId} {below : List Frame} {meth : Method} {c : Code} {K : ix_Cx} {b Ls kc ns : Nat} {xs : Nat → Int32} (hKp : ix_Kp K) (hF : ix_Fc K) (hT : ix_Tc K) (X : ix_X p s m #[Value.ref b] c K code R_law 4) (hX : va_X b Ls xs s s.heap) (hbl : b < s.heap.size) (hbN : ¬ ix_A K b) (hkc : kc + 8 ≤ 600000) (hns : ns + 400 ≤ 7302250) {n : Nat} {z z1 : ix_Z} {a1 a2 : Nat} {x3 : Int32} {d d1 : ix_D2} (h : f_law_520 n Ls xs z a1 a2 x3 d = some (z1, d1)) (kk : ix_G p l e room_1 s m #[Value.ref b] below meth c (lw_Z below #[Value.ref b] s) K 4 (kc + 8) (ns + 400) 1718 [(0, .ref b), (1, .ref (K.2.2.1 + a1)), (2, .ref (K.2.2.1 + a2)), (3, .int x3)] [] (ix_w z1 d1)) : ix_G p l e room_1 s m #[Value.ref b] below meth c (lw_Z below #[Value.ref b] s) K 4 kc ns 520 [(0, .ref b), (1, .ref (K.2.2.1 + a1)), (2, .ref (K.2.2.1 + a2)), (3, .int x3)] [] (ix_w z d) := by
  unfold f_law_520 at h
  refine ix_aload_n (i := 1) (j := 1) X (ix_tb_at tb_law 232 rfl) rfl rfl (pc1 := 521) rfl ?_
  refine ix_aload_n (i := 0) (j := 0) X (ix_tb_at tb_law 233 rfl) rfl rfl (pc1 := 522) rfl ?_
  refine ix_iload_n (i := 3) (j := 3) X (ix_tb_at tb_law 234 rfl) rfl rfl (pc1 := 523) rfl ?_
  refine ix_iconst (v := 1) X (ix_tb_at tb_law 235 rfl) (by decide) (pc1 := 524) rfl ?_
  refine ix_iadd X (ix_tb_at tb_law 236 rfl) (pc1 := 525) rfl ?_
  obtain ⟨k_89, h⟩ := ix_ck_some h
  refine ix_sld X hX hbl hbN k_89 (ix_tb_at tb_law 237 rfl) (pc1 := 526) rfl ?_
  refine ix_i2l X (ix_tb_at tb_law 238 rfl) (pc1 := 527) rfl ?_
  refine ix_bipush (v := 32) X (ix_tb_at tb_law 239 rfl) (by decide) (pc1 := 529) rfl ?_
  refine ix_lshl X (ix_tb_at tb_law 240 rfl) (pc1 := 530) rfl ?_
  refine ix_aload_n (i := 0) (j := 0) X (ix_tb_at tb_law 241 rfl) rfl rfl (pc1 := 531) rfl ?_
  refine ix_iload_n (i := 3) (j := 3) X (ix_tb_at tb_law 242 rfl) rfl rfl (pc1 := 532) rfl ?_
  refine ix_iconst (v := 2) X (ix_tb_at tb_law 243 rfl) (by decide) (pc1 := 533) rfl ?_
  refine ix_iadd X (ix_tb_at tb_law 244 rfl) (pc1 := 534) rfl ?_
  obtain ⟨k_90, h⟩ := ix_ck_some h
  refine ix_sld X hX hbl hbN k_90 (ix_tb_at tb_law 245 rfl) (pc1 := 535) rfl ?_
  refine ix_i2l X (ix_tb_at tb_law 246 rfl) (pc1 := 536) rfl ?_
  refine ix_ldc2 (pl := 2471) (v := 4294967295) X (ix_tb_at tb_law 247 rfl) (by decide +kernel) (pc1 := 539) rfl ?_
  refine ix_land X (ix_tb_at tb_law 248 rfl) (pc1 := 540) rfl ?_
  refine ix_lor X (ix_tb_at tb_law 249 rfl) (pc1 := 541) rfl ?_
  refine ix_aload_n (i := 0) (j := 0) X (ix_tb_at tb_law 250 rfl) rfl rfl (pc1 := 542) rfl ?_
  refine ix_iload_n (i := 3) (j := 3) X (ix_tb_at tb_law 251 rfl) rfl rfl (pc1 := 543) rfl ?_
  refine ix_iconst (v := 3) X (ix_tb_at tb_law 252 rfl) (by decide) (pc1 := 544) rfl ?_
  refine ix_iadd X (ix_tb_at tb_law 253 rfl) (pc1 := 545) rfl ?_
  obtain ⟨k_91, h⟩ := ix_ck_some h
  refine ix_sld X hX hbl hbN k_91 (ix_tb_at tb_law 254 rfl) (pc1 := 546) rfl ?_
  obtain ⟨k_94, h⟩ := ix_ck_some h
  obtain ⟨r_95, d_92, h_93, h⟩ := ix_bd2_ex h
  refine ix_callV (As := [.long ((((xs (ix_n (x3 + 1))).toInt64) <<< ((32 : Int32).toInt64 &&& 63)) ||| (((xs (ix_n (x3 + 2))).toInt64) &&& 4294967295)), .int (xs (ix_n (x3 + 3)))]) (rest := []) (ci := 10) (T := TX11) (nf := 18) X mf_X11_feed mi_X11_feed ms_X11_feed rfl (Nat.le_of_ble_eq_true rfl) ml_R_law_48 ⟨Nat.le_of_ble_eq_true rfl, Nat.le_of_ble_eq_true rfl⟩ ⟨Nat.le_trans (by omega) hkc, Nat.le_trans (by omega) hns⟩ rfl (Nat.le_of_ble_eq_true rfl) (ix_tb_at tb_law 255 rfl) ⟨k_94.1, List.mem_singleton.mp k_94.2⟩ (c_X11_feed hKp h_93) rfl (pc1 := 549) rfl ?_
  refine ix_aload_n (i := 2) (j := 2) X (ix_tb_at tb_law 256 rfl) rfl rfl (pc1 := 550) rfl ?_
  refine ix_aload_n (i := 0) (j := 0) X (ix_tb_at tb_law 257 rfl) rfl rfl (pc1 := 551) rfl ?_
  refine ix_iload_n (i := 3) (j := 3) X (ix_tb_at tb_law 258 rfl) rfl rfl (pc1 := 552) rfl ?_
  refine ix_iconst (v := 1) X (ix_tb_at tb_law 259 rfl) (by decide) (pc1 := 553) rfl ?_
  refine ix_iadd X (ix_tb_at tb_law 260 rfl) (pc1 := 554) rfl ?_
  refine ix_sld X hX hbl hbN k_89 (ix_tb_at tb_law 261 rfl) (pc1 := 555) rfl ?_
  refine ix_i2l X (ix_tb_at tb_law 262 rfl) (pc1 := 556) rfl ?_
  refine ix_bipush (v := 32) X (ix_tb_at tb_law 263 rfl) (by decide) (pc1 := 558) rfl ?_
  refine ix_lshl X (ix_tb_at tb_law 264 rfl) (pc1 := 559) rfl ?_
  refine ix_aload_n (i := 0) (j := 0) X (ix_tb_at tb_law 265 rfl) rfl rfl (pc1 := 560) rfl ?_
  refine ix_iload_n (i := 3) (j := 3) X (ix_tb_at tb_law 266 rfl) rfl rfl (pc1 := 561) rfl ?_
  refine ix_iconst (v := 2) X (ix_tb_at tb_law 267 rfl) (by decide) (pc1 := 562) rfl ?_
  refine ix_iadd X (ix_tb_at tb_law 268 rfl) (pc1 := 563) rfl ?_
  refine ix_sld X hX hbl hbN k_90 (ix_tb_at tb_law 269 rfl) (pc1 := 564) rfl ?_
  refine ix_i2l X (ix_tb_at tb_law 270 rfl) (pc1 := 565) rfl ?_
  refine ix_ldc2 (pl := 2471) (v := 4294967295) X (ix_tb_at tb_law 271 rfl) (by decide +kernel) (pc1 := 568) rfl ?_
  refine ix_land X (ix_tb_at tb_law 272 rfl) (pc1 := 569) rfl ?_
  refine ix_lor X (ix_tb_at tb_law 273 rfl) (pc1 := 570) rfl ?_
  refine ix_aload_n (i := 0) (j := 0) X (ix_tb_at tb_law 274 rfl) rfl rfl (pc1 := 571) rfl ?_
  refine ix_iload_n (i := 3) (j := 3) X (ix_tb_at tb_law 275 rfl) rfl rfl (pc1 := 572) rfl ?_
  refine ix_iconst (v := 3) X (ix_tb_at tb_law 276 rfl) (by decide) (pc1 := 573) rfl ?_
  refine ix_iadd X (ix_tb_at tb_law 277 rfl) (pc1 := 574) rfl ?_
  refine ix_sld X hX hbl hbN k_91 (ix_tb_at tb_law 278 rfl) (pc1 := 575) rfl ?_
  obtain ⟨k_98, h⟩ := ix_ck_some h
  obtain ⟨r_99, d_96, h_97, h⟩ := ix_bd2_ex h
  refine ix_callV (As := [.long ((((xs (ix_n (x3 + 1))).toInt64) <<< ((32 : Int32).toInt64 &&& 63)) ||| (((xs (ix_n (x3 + 2))).toInt64) &&& 4294967295)), .int (xs (ix_n (x3 + 3)))]) (rest := [.int r_95]) (ci := 11) (T := TX12) (nf := 116) X mf_X12_feed mi_X12_feed ms_X12_feed rfl (Nat.le_of_ble_eq_true rfl) ml_R_law_52 ⟨Nat.le_of_ble_eq_true rfl, Nat.le_of_ble_eq_true rfl⟩ ⟨Nat.le_trans (by omega) hkc, Nat.le_trans (by omega) hns⟩ rfl (Nat.le_of_ble_eq_true rfl) (ix_tb_at tb_law 279 rfl) ⟨k_98.1, List.mem_singleton.mp k_98.2⟩ (c_X12_feed hKp h_97) rfl (pc1 := 578) rfl ?_
  refine ix_icmp_eq (tgt := 1718) X (ix_tb_at tb_law 280 rfl) (by decide) (pc1 := 581) rfl (fun q_100 => ?_) (fun q_100 => ?_)
  · have h := ix_ift q_100 h
    obtain ⟨rfl, rfl⟩ := ix_sm h
    exact ix_widen (by omega) (by omega) kk
  · have h := ix_iff q_100 h
    refine ix_iconst (v := 0) X (ix_tb_at tb_law 281 rfl) (by decide) (pc1 := 582) rfl ?_
    cases h
set_option maxRecDepth 20000 in
theorem t_law_583 {l : Launch} {p : Program} {e : Env} {s : State} {m : MethodId} {below : List Frame} {meth : Method} {c : Code} {K : ix_Cx} {b Ls kc ns : Nat} {xs : Nat → Int32} (hKp : ix_Kp K) (hF : ix_Fc K) (hT : ix_Tc K) (X : ix_X p s m #[Value.ref b] c K code R_law 4) (hX : va_X b Ls xs s s.heap) (hbl : b < s.heap.size) (hbN : ¬ ix_A K b) (hkc : kc + 8 ≤ 600000) (hns : ns + 400 ≤ 7302250) {n : Nat} {z z1 : ix_Z} {a1 a2 : Nat} {x3 : Int32} {d d1 : ix_D2} (h : f_law_583 n Ls xs z a1 a2 x3 d = some (z1, d1)) (kk : ix_G p l e room_1 s m #[Value.ref b] below meth c (lw_Z below #[Value.ref b] s) K 4 (kc + 8) (ns + 400) 1718 [(0, .ref b), (1, .ref (K.2.2.1 + a1)), (2, .ref (K.2.2.1 + a2)), (3, .int x3)] [] (ix_w z1 d1)) : ix_G p l e room_1 s m #[Value.ref b] below meth c (lw_Z below #[Value.ref b] s) K 4 kc ns 583 [(0, .ref b), (1, .ref (K.2.2.1 + a1)), (2, .ref (K.2.2.1 + a2)), (3, .int x3)] [] (ix_w z d) := by
  unfold f_law_583 at h
  refine ix_aload_n (i := 1) (j := 1) X (ix_tb_at tb_law 283 rfl) rfl rfl (pc1 := 584) rfl ?_
  obtain ⟨k_104, h⟩ := ix_ck_some h
  obtain ⟨r_105, d_102, h_103, h⟩ := ix_bd2_ex h
  refine ix_callV (As := []) (rest := []) (ci := 10) (T := TX11) (nf := 18) X mf_X11_wipe mi_X11_wipe ms_X11_wipe rfl (Nat.le_of_ble_eq_true rfl) ml_R_law_53 ⟨Nat.le_of_ble_eq_true rfl, Nat.le_of_ble_eq_true rfl⟩ ⟨Nat.le_trans (by omega) hkc, Nat.le_trans (by omega) hns⟩ rfl (Nat.le_of_ble_eq_true rfl) (ix_tb_at tb_law 284 rfl) ⟨k_104.1, List.mem_singleton.mp k_104.2⟩ (c_X11_wipe hKp h_103) rfl (pc1 := 587) rfl ?_
  refine ix_aload_n (i := 2) (j := 2) X (ix_tb_at tb_law 285 rfl) rfl rfl (pc1 := 588) rfl ?_
  obtain ⟨k_108, h⟩ := ix_ck_some h
  obtain ⟨r_109, d_106, h_107, h⟩ := ix_bd2_ex h
  refine ix_callV (As := []) (rest := [.int r_105]) (ci := 11) (T := TX12) (nf := 116) X mf_X12_wipe mi_X12_wipe ms_X12_wipe rfl (Nat.le_of_ble_eq_true rfl) ml_R_law_57 ⟨Nat.le_of_ble_eq_true rfl, Nat.le_of_ble_eq_true rfl⟩ ⟨Nat.le_trans (by omega) hkc, Nat.le_trans (by omega) hns⟩ rfl (Nat.le_of_ble_eq_true rfl) (ix_tb_at tb_law 286 rfl) ⟨k_108.1, List.mem_singleton.mp k_108.2⟩ (c_X12_wipe hKp h_107) rfl (pc1 := 591) rfl ?_
  refine ix_icmp_eq (tgt := 1718) X (ix_tb_at tb_law 287 rfl) (by decide) (pc1 := 594) rfl (fun q_110 => ?_) (fun q_110 => ?_)
  · have h := ix_ift q_110 h
    obtain ⟨rfl, rfl⟩ := ix_sm h
    exact ix_widen (by omega) (by omega) kk
  · have h := ix_iff q_110 h
    refine ix_iconst (v := 0) X (ix_tb_at tb_law 288 rfl) (by decide) (pc1 := 595) rfl ?_
    cases h
set_option maxRecDepth 20000 in
theorem t_law_596 {l : Launch} {p : Program} {e : Env} {s : State} {m : MethodId} {below : List Frame} {meth : Method} {c : Code} {K : ix_Cx} {b Ls kc ns : Nat} {xs : Nat → Int32} (hKp : ix_Kp K) (hF : ix_Fc K) (hT : ix_Tc K) (X : ix_X p s m #[Value.ref b] c K code R_law 4) (hX : va_X b Ls xs s s.heap) (hbl : b < s.heap.size) (hbN : ¬ ix_A K b) (hkc : kc + 8 ≤ 600000) (hns : ns + 400 ≤ 7302250) {n : Nat} {z z1 : ix_Z} {a1 a2 : Nat} {x3 : Int32} {d d1 : ix_D2} (h : f_law_596 n Ls xs z a1 a2 x3 d = some (z1, d1)) (kk : ix_G p l e room_1 s m #[Value.ref b] below meth c (lw_Z below #[Value.ref b] s) K 4 (kc + 8) (ns + 400) 1718 [(0, .ref b), (1, .ref (K.2.2.1 + a1)), (2, .ref (K.2.2.1 + a2)), (3, .int x3)] [] (ix_w z1 d1)) : ix_G p l e room_1 s m #[Value.ref b] below meth c (lw_Z below #[Value.ref b] s) K 4 kc ns 596 [(0, .ref b), (1, .ref (K.2.2.1 + a1)), (2, .ref (K.2.2.1 + a2)), (3, .int x3)] [] (ix_w z d) := by
  unfold f_law_596 at h
  refine ix_aload_n (i := 1) (j := 1) X (ix_tb_at tb_law 290 rfl) rfl rfl (pc1 := 597) rfl ?_
  refine ix_aload_n (i := 0) (j := 0) X (ix_tb_at tb_law 291 rfl) rfl rfl (pc1 := 598) rfl ?_
  refine ix_iload_n (i := 3) (j := 3) X (ix_tb_at tb_law 292 rfl) rfl rfl (pc1 := 599) rfl ?_
  refine ix_iconst (v := 1) X (ix_tb_at tb_law 293 rfl) (by decide) (pc1 := 600) rfl ?_
  refine ix_iadd X (ix_tb_at tb_law 294 rfl) (pc1 := 601) rfl ?_
  obtain ⟨k_112, h⟩ := ix_ck_some h
  refine ix_sld X hX hbl hbN k_112 (ix_tb_at tb_law 295 rfl) (pc1 := 602) rfl ?_
  obtain ⟨k_115, h⟩ := ix_ck_some h
  obtain ⟨r_117, z_116, d_113, h_114, h⟩ := ix_bd3_ex h
  refine ix_callV (As := [.int (xs (ix_n (x3 + 1)))]) (rest := []) (ci := 10) (T := TX11) (nf := 18) X mf_X11_clause mi_X11_clause ms_X11_clause rfl (Nat.le_of_ble_eq_true rfl) ml_R_law_58 ⟨Nat.le_of_ble_eq_true rfl, Nat.le_of_ble_eq_true rfl⟩ ⟨Nat.le_trans (by omega) hkc, Nat.le_trans (by omega) hns⟩ rfl (Nat.le_of_ble_eq_true rfl) (ix_tb_at tb_law 296 rfl) ⟨k_115.1, List.mem_singleton.mp k_115.2⟩ (c_X11_clause hKp h_114) rfl (pc1 := 605) rfl ?_
  refine ix_aload_n (i := 2) (j := 2) X (ix_tb_at tb_law 297 rfl) rfl rfl (pc1 := 606) rfl ?_
  refine ix_aload_n (i := 0) (j := 0) X (ix_tb_at tb_law 298 rfl) rfl rfl (pc1 := 607) rfl ?_
  refine ix_iload_n (i := 3) (j := 3) X (ix_tb_at tb_law 299 rfl) rfl rfl (pc1 := 608) rfl ?_
  refine ix_iconst (v := 1) X (ix_tb_at tb_law 300 rfl) (by decide) (pc1 := 609) rfl ?_
  refine ix_iadd X (ix_tb_at tb_law 301 rfl) (pc1 := 610) rfl ?_
  obtain ⟨k_118, h⟩ := ix_ck_some h
  refine ix_sld X hX hbl hbN k_118 (ix_tb_at tb_law 302 rfl) (pc1 := 611) rfl ?_
  obtain ⟨k_121, h⟩ := ix_ck_some h
  obtain ⟨r_122, d_119, h_120, h⟩ := ix_bd2_ex h
  refine ix_callV (As := [.int (xs (ix_n (x3 + 1)))]) (rest := [.int r_117]) (ci := 11) (T := TX12) (nf := 116) X mf_X12_clause mi_X12_clause ms_X12_clause rfl (Nat.le_of_ble_eq_true rfl) ml_R_law_61 ⟨Nat.le_of_ble_eq_true rfl, Nat.le_of_ble_eq_true rfl⟩ ⟨Nat.le_trans (by omega) hkc, Nat.le_trans (by omega) hns⟩ rfl (Nat.le_of_ble_eq_true rfl) (ix_tb_at tb_law 303 rfl) ⟨k_121.1, List.mem_singleton.mp k_121.2⟩ (c_X12_clause hKp h_120) rfl (pc1 := 614) rfl ?_
  refine ix_icmp_eq (tgt := 1718) X (ix_tb_at tb_law 304 rfl) (by decide) (pc1 := 617) rfl (fun q_123 => ?_) (fun q_123 => ?_)
  · have h := ix_ift q_123 h
    obtain ⟨rfl, rfl⟩ := ix_sm h
    exact ix_widen (by omega) (by omega) kk
  · have h := ix_iff q_123 h
    refine ix_iconst (v := 0) X (ix_tb_at tb_law 305 rfl) (by decide) (pc1 := 618) rfl ?_
    cases h
set_option maxRecDepth 20000 in
theorem t_law_619 {l : Launch} {p : Program} {e : Env} {s : State} {m : MethodId} {below : List Frame} {meth : Method} {c : Code} {K : ix_Cx} {b Ls kc ns : Nat} {xs : Nat → Int32} (hKp : ix_Kp K) (hF : ix_Fc K) (hT : ix_Tc K) (X : ix_X p s m #[Value.ref b] c K code R_law 4) (hX : va_X b Ls xs s s.heap) (hbl : b < s.heap.size) (hbN : ¬ ix_A K b) (hkc : kc + 8 ≤ 600000) (hns : ns + 400 ≤ 7302250) {n : Nat} {z z1 : ix_Z} {a1 a2 : Nat} {x3 : Int32} {d d1 : ix_D2} (h : f_law_619 n Ls xs z a1 a2 x3 d = some (z1, d1)) (kk : ix_G p l e room_1 s m #[Value.ref b] below meth c (lw_Z below #[Value.ref b] s) K 4 (kc + 8) (ns + 400) 1718 [(0, .ref b), (1, .ref (K.2.2.1 + a1)), (2, .ref (K.2.2.1 + a2)), (3, .int x3)] [] (ix_w z1 d1)) : ix_G p l e room_1 s m #[Value.ref b] below meth c (lw_Z below #[Value.ref b] s) K 4 kc ns 619 [(0, .ref b), (1, .ref (K.2.2.1 + a1)), (2, .ref (K.2.2.1 + a2)), (3, .int x3)] [] (ix_w z d) := by
  unfold f_law_619 at h
  refine ix_aload_n (i := 1) (j := 1) X (ix_tb_at tb_law 307 rfl) rfl rfl (pc1 := 620) rfl ?_
  refine ix_aload_n (i := 0) (j := 0) X (ix_tb_at tb_law 308 rfl) rfl rfl (pc1 := 621) rfl ?_
  refine ix_iload_n (i := 3) (j := 3) X (ix_tb_at tb_law 309 rfl) rfl rfl (pc1 := 622) rfl ?_
  refine ix_iconst (v := 1) X (ix_tb_at tb_law 310 rfl) (by decide) (pc1 := 623) rfl ?_
  refine ix_iadd X (ix_tb_at tb_law 311 rfl) (pc1 := 624) rfl ?_
  obtain ⟨k_125, h⟩ := ix_ck_some h
  refine ix_sld X hX hbl hbN k_125 (ix_tb_at tb_law 312 rfl) (pc1 := 625) rfl ?_
  refine ix_aload_n (i := 0) (j := 0) X (ix_tb_at tb_law 313 rfl) rfl rfl (pc1 := 626) rfl ?_
  refine ix_iload_n (i := 3) (j := 3) X (ix_tb_at tb_law 314 rfl) rfl rfl (pc1 := 627) rfl ?_
  refine ix_iconst (v := 2) X (ix_tb_at tb_law 315 rfl) (by decide) (pc1 := 628) rfl ?_
  refine ix_iadd X (ix_tb_at tb_law 316 rfl) (pc1 := 629) rfl ?_
  obtain ⟨k_126, h⟩ := ix_ck_some h
  refine ix_sld X hX hbl hbN k_126 (ix_tb_at tb_law 317 rfl) (pc1 := 630) rfl ?_
  obtain ⟨k_129, h⟩ := ix_ck_some h
  obtain ⟨r_131, z_130, d_127, h_128, h⟩ := ix_bd3_ex h
  refine ix_callV (As := [.int (xs (ix_n (x3 + 1))), .int (xs (ix_n (x3 + 2)))]) (rest := []) (ci := 10) (T := TX11) (nf := 18) X mf_X11_atMost mi_X11_atMost ms_X11_atMost rfl (Nat.le_of_ble_eq_true rfl) ml_R_law_62 ⟨Nat.le_of_ble_eq_true rfl, Nat.le_of_ble_eq_true rfl⟩ ⟨Nat.le_trans (by omega) hkc, Nat.le_trans (by omega) hns⟩ rfl (Nat.le_of_ble_eq_true rfl) (ix_tb_at tb_law 318 rfl) ⟨k_129.1, List.mem_singleton.mp k_129.2⟩ (c_X11_atMost hKp h_128) rfl (pc1 := 633) rfl ?_
  refine ix_aload_n (i := 2) (j := 2) X (ix_tb_at tb_law 319 rfl) rfl rfl (pc1 := 634) rfl ?_
  refine ix_aload_n (i := 0) (j := 0) X (ix_tb_at tb_law 320 rfl) rfl rfl (pc1 := 635) rfl ?_
  refine ix_iload_n (i := 3) (j := 3) X (ix_tb_at tb_law 321 rfl) rfl rfl (pc1 := 636) rfl ?_
  refine ix_iconst (v := 1) X (ix_tb_at tb_law 322 rfl) (by decide) (pc1 := 637) rfl ?_
  refine ix_iadd X (ix_tb_at tb_law 323 rfl) (pc1 := 638) rfl ?_
  obtain ⟨k_132, h⟩ := ix_ck_some h
  refine ix_sld X hX hbl hbN k_132 (ix_tb_at tb_law 324 rfl) (pc1 := 639) rfl ?_
  refine ix_aload_n (i := 0) (j := 0) X (ix_tb_at tb_law 325 rfl) rfl rfl (pc1 := 640) rfl ?_
  refine ix_iload_n (i := 3) (j := 3) X (ix_tb_at tb_law 326 rfl) rfl rfl (pc1 := 641) rfl ?_
  refine ix_iconst (v := 2) X (ix_tb_at tb_law 327 rfl) (by decide) (pc1 := 642) rfl ?_
  refine ix_iadd X (ix_tb_at tb_law 328 rfl) (pc1 := 643) rfl ?_
  obtain ⟨k_133, h⟩ := ix_ck_some h
  refine ix_sld X hX hbl hbN k_133 (ix_tb_at tb_law 329 rfl) (pc1 := 644) rfl ?_
  obtain ⟨k_136, h⟩ := ix_ck_some h
  obtain ⟨r_137, d_134, h_135, h⟩ := ix_bd2_ex h
  refine ix_callV (As := [.int (xs (ix_n (x3 + 1))), .int (xs (ix_n (x3 + 2)))]) (rest := [.int r_131]) (ci := 11) (T := TX12) (nf := 116) X mf_X12_atMost mi_X12_atMost ms_X12_atMost rfl (Nat.le_of_ble_eq_true rfl) ml_R_law_65 ⟨Nat.le_of_ble_eq_true rfl, Nat.le_of_ble_eq_true rfl⟩ ⟨Nat.le_trans (by omega) hkc, Nat.le_trans (by omega) hns⟩ rfl (Nat.le_of_ble_eq_true rfl) (ix_tb_at tb_law 330 rfl) ⟨k_136.1, List.mem_singleton.mp k_136.2⟩ (c_X12_atMost hKp h_135) rfl (pc1 := 647) rfl ?_
  refine ix_icmp_eq (tgt := 1718) X (ix_tb_at tb_law 331 rfl) (by decide) (pc1 := 650) rfl (fun q_138 => ?_) (fun q_138 => ?_)
  · have h := ix_ift q_138 h
    obtain ⟨rfl, rfl⟩ := ix_sm h
    exact ix_widen (by omega) (by omega) kk
  · have h := ix_iff q_138 h
    refine ix_iconst (v := 0) X (ix_tb_at tb_law 332 rfl) (by decide) (pc1 := 651) rfl ?_
    cases h
set_option maxRecDepth 20000 in
theorem t_law_652 {l : Launch} {p : Program} {e : Env} {s : State} {m : MethodId} {below : List Frame} {meth : Method} {c : Code} {K : ix_Cx} {b Ls kc ns : Nat} {xs : Nat → Int32} (hKp : ix_Kp K) (hF : ix_Fc K) (hT : ix_Tc K) (X : ix_X p s m #[Value.ref b] c K code R_law 4) (hX : va_X b Ls xs s s.heap) (hbl : b < s.heap.size) (hbN : ¬ ix_A K b) (hkc : kc + 8 ≤ 600000) (hns : ns + 400 ≤ 7302250) {n : Nat} {z z1 : ix_Z} {a1 a2 : Nat} {x3 : Int32} {d d1 : ix_D2} (h : f_law_652 n Ls xs z a1 a2 x3 d = some (z1, d1)) (kk : ix_G p l e room_1 s m #[Value.ref b] below meth c (lw_Z below #[Value.ref b] s) K 4 (kc + 8) (ns + 400) 1718 [(0, .ref b), (1, .ref (K.2.2.1 + a1)), (2, .ref (K.2.2.1 + a2)), (3, .int x3)] [] (ix_w z1 d1)) : ix_G p l e room_1 s m #[Value.ref b] below meth c (lw_Z below #[Value.ref b] s) K 4 kc ns 652 [(0, .ref b), (1, .ref (K.2.2.1 + a1)), (2, .ref (K.2.2.1 + a2)), (3, .int x3)] [] (ix_w z d) := by
  unfold f_law_652 at h
  refine ix_aload_n (i := 1) (j := 1) X (ix_tb_at tb_law 334 rfl) rfl rfl (pc1 := 653) rfl ?_
  refine ix_aload_n (i := 0) (j := 0) X (ix_tb_at tb_law 335 rfl) rfl rfl (pc1 := 654) rfl ?_
  refine ix_iload_n (i := 3) (j := 3) X (ix_tb_at tb_law 336 rfl) rfl rfl (pc1 := 655) rfl ?_
  refine ix_iconst (v := 1) X (ix_tb_at tb_law 337 rfl) (by decide) (pc1 := 656) rfl ?_
  refine ix_iadd X (ix_tb_at tb_law 338 rfl) (pc1 := 657) rfl ?_
  obtain ⟨k_140, h⟩ := ix_ck_some h
  refine ix_sld X hX hbl hbN k_140 (ix_tb_at tb_law 339 rfl) (pc1 := 658) rfl ?_
  refine ix_aload_n (i := 0) (j := 0) X (ix_tb_at tb_law 340 rfl) rfl rfl (pc1 := 659) rfl ?_
  refine ix_iload_n (i := 3) (j := 3) X (ix_tb_at tb_law 341 rfl) rfl rfl (pc1 := 660) rfl ?_
  refine ix_iconst (v := 2) X (ix_tb_at tb_law 342 rfl) (by decide) (pc1 := 661) rfl ?_
  refine ix_iadd X (ix_tb_at tb_law 343 rfl) (pc1 := 662) rfl ?_
  obtain ⟨k_141, h⟩ := ix_ck_some h
  refine ix_sld X hX hbl hbN k_141 (ix_tb_at tb_law 344 rfl) (pc1 := 663) rfl ?_
  obtain ⟨k_144, h⟩ := ix_ck_some h
  obtain ⟨r_146, z_145, d_142, h_143, h⟩ := ix_bd3_ex h
  refine ix_callV (As := [.int (xs (ix_n (x3 + 1))), .int (xs (ix_n (x3 + 2)))]) (rest := []) (ci := 10) (T := TX11) (nf := 18) X mf_X11_group mi_X11_group ms_X11_group rfl (Nat.le_of_ble_eq_true rfl) ml_R_law_66 ⟨Nat.le_of_ble_eq_true rfl, Nat.le_of_ble_eq_true rfl⟩ ⟨Nat.le_trans (by omega) hkc, Nat.le_trans (by omega) hns⟩ rfl (Nat.le_of_ble_eq_true rfl) (ix_tb_at tb_law 345 rfl) ⟨k_144.1, List.mem_singleton.mp k_144.2⟩ (c_X11_group hKp h_143) rfl (pc1 := 666) rfl ?_
  refine ix_aload_n (i := 2) (j := 2) X (ix_tb_at tb_law 346 rfl) rfl rfl (pc1 := 667) rfl ?_
  refine ix_aload_n (i := 0) (j := 0) X (ix_tb_at tb_law 347 rfl) rfl rfl (pc1 := 668) rfl ?_
  refine ix_iload_n (i := 3) (j := 3) X (ix_tb_at tb_law 348 rfl) rfl rfl (pc1 := 669) rfl ?_
  refine ix_iconst (v := 1) X (ix_tb_at tb_law 349 rfl) (by decide) (pc1 := 670) rfl ?_
  refine ix_iadd X (ix_tb_at tb_law 350 rfl) (pc1 := 671) rfl ?_
  obtain ⟨k_147, h⟩ := ix_ck_some h
  refine ix_sld X hX hbl hbN k_147 (ix_tb_at tb_law 351 rfl) (pc1 := 672) rfl ?_
  refine ix_aload_n (i := 0) (j := 0) X (ix_tb_at tb_law 352 rfl) rfl rfl (pc1 := 673) rfl ?_
  refine ix_iload_n (i := 3) (j := 3) X (ix_tb_at tb_law 353 rfl) rfl rfl (pc1 := 674) rfl ?_
  refine ix_iconst (v := 2) X (ix_tb_at tb_law 354 rfl) (by decide) (pc1 := 675) rfl ?_
  refine ix_iadd X (ix_tb_at tb_law 355 rfl) (pc1 := 676) rfl ?_
  obtain ⟨k_148, h⟩ := ix_ck_some h
  refine ix_sld X hX hbl hbN k_148 (ix_tb_at tb_law 356 rfl) (pc1 := 677) rfl ?_
  obtain ⟨k_151, h⟩ := ix_ck_some h
  obtain ⟨r_152, d_149, h_150, h⟩ := ix_bd2_ex h
  refine ix_callV (As := [.int (xs (ix_n (x3 + 1))), .int (xs (ix_n (x3 + 2)))]) (rest := [.int r_146]) (ci := 11) (T := TX12) (nf := 116) X mf_X12_group mi_X12_group ms_X12_group rfl (Nat.le_of_ble_eq_true rfl) ml_R_law_69 ⟨Nat.le_of_ble_eq_true rfl, Nat.le_of_ble_eq_true rfl⟩ ⟨Nat.le_trans (by omega) hkc, Nat.le_trans (by omega) hns⟩ rfl (Nat.le_of_ble_eq_true rfl) (ix_tb_at tb_law 357 rfl) ⟨k_151.1, List.mem_singleton.mp k_151.2⟩ (c_X12_group hKp h_150) rfl (pc1 := 680) rfl ?_
  refine ix_icmp_eq (tgt := 1718) X (ix_tb_at tb_law 358 rfl) (by decide) (pc1 := 683) rfl (fun q_153 => ?_) (fun q_153 => ?_)
  · have h := ix_ift q_153 h
    obtain ⟨rfl, rfl⟩ := ix_sm h
    exact ix_widen (by omega) (by omega) kk
  · have h := ix_iff q_153 h
    refine ix_iconst (v := 0) X (ix_tb_at tb_law 359 rfl) (by decide) (pc1 := 684) rfl ?_
    cases h
set_option maxRecDepth 20000 in
theorem t_law_685 {l : Launch} {p : Program} {e : Env} {s : State} {m : MethodId} {below : List Frame} {meth : Method} {c : Code} {K : ix_Cx} {b Ls kc ns : Nat} {xs : Nat → Int32} (hKp : ix_Kp K) (hF : ix_Fc K) (hT : ix_Tc K) (X : ix_X p s m #[Value.ref b] c K code R_law 4) (hX : va_X b Ls xs s s.heap) (hbl : b < s.heap.size) (hbN : ¬ ix_A K b) (hkc : kc + 8 ≤ 600000) (hns : ns + 400 ≤ 7302250) {n : Nat} {z z1 : ix_Z} {a1 a2 : Nat} {x3 : Int32} {d d1 : ix_D2} (h : f_law_685 n Ls xs z a1 a2 x3 d = some (z1, d1)) (kk : ix_G p l e room_1 s m #[Value.ref b] below meth c (lw_Z below #[Value.ref b] s) K 4 (kc + 8) (ns + 400) 1718 [(0, .ref b), (1, .ref (K.2.2.1 + a1)), (2, .ref (K.2.2.1 + a2)), (3, .int x3)] [] (ix_w z1 d1)) : ix_G p l e room_1 s m #[Value.ref b] below meth c (lw_Z below #[Value.ref b] s) K 4 kc ns 685 [(0, .ref b), (1, .ref (K.2.2.1 + a1)), (2, .ref (K.2.2.1 + a2)), (3, .int x3)] [] (ix_w z d) := by
  unfold f_law_685 at h
  refine ix_aload_n (i := 1) (j := 1) X (ix_tb_at tb_law 361 rfl) rfl rfl (pc1 := 686) rfl ?_
  refine ix_aload_n (i := 0) (j := 0) X (ix_tb_at tb_law 362 rfl) rfl rfl (pc1 := 687) rfl ?_
  refine ix_iload_n (i := 3) (j := 3) X (ix_tb_at tb_law 363 rfl) rfl rfl (pc1 := 688) rfl ?_
  refine ix_iconst (v := 1) X (ix_tb_at tb_law 364 rfl) (by decide) (pc1 := 689) rfl ?_
  refine ix_iadd X (ix_tb_at tb_law 365 rfl) (pc1 := 690) rfl ?_
  obtain ⟨k_155, h⟩ := ix_ck_some h
  refine ix_sld X hX hbl hbN k_155 (ix_tb_at tb_law 366 rfl) (pc1 := 691) rfl ?_
  refine ix_aload_n (i := 0) (j := 0) X (ix_tb_at tb_law 367 rfl) rfl rfl (pc1 := 692) rfl ?_
  refine ix_iload_n (i := 3) (j := 3) X (ix_tb_at tb_law 368 rfl) rfl rfl (pc1 := 693) rfl ?_
  refine ix_iconst (v := 2) X (ix_tb_at tb_law 369 rfl) (by decide) (pc1 := 694) rfl ?_
  refine ix_iadd X (ix_tb_at tb_law 370 rfl) (pc1 := 695) rfl ?_
  obtain ⟨k_156, h⟩ := ix_ck_some h
  refine ix_sld X hX hbl hbN k_156 (ix_tb_at tb_law 371 rfl) (pc1 := 696) rfl ?_
  refine ix_if_eq (tgt := 703) X (ix_tb_at tb_law 372 rfl) (by decide) (pc1 := 699) rfl (fun q_157 => ?_) (fun q_157 => ?_)
  · have h := ix_ift q_157 h
    refine ix_iconst (v := 0) X (ix_tb_at tb_law 375 rfl) (by decide) (pc1 := 704) rfl ?_
    obtain ⟨k_160, h⟩ := ix_ck_some h
    obtain ⟨r_162, z_161, d_158, h_159, h⟩ := ix_bd3_ex h
    refine ix_callV (As := [.int (xs (ix_n (x3 + 1))), .int 0]) (rest := []) (ci := 10) (T := TX11) (nf := 18) X mf_X11_parity mi_X11_parity ms_X11_parity rfl (Nat.le_of_ble_eq_true rfl) ml_R_law_70 ⟨Nat.le_of_ble_eq_true rfl, Nat.le_of_ble_eq_true rfl⟩ ⟨Nat.le_trans (by omega) hkc, Nat.le_trans (by omega) hns⟩ rfl (Nat.le_of_ble_eq_true rfl) (ix_tb_at tb_law 376 rfl) ⟨k_160.1, List.mem_singleton.mp k_160.2⟩ (c_X11_parity hKp h_159) rfl (pc1 := 707) rfl ?_
    refine ix_aload_n (i := 2) (j := 2) X (ix_tb_at tb_law 377 rfl) rfl rfl (pc1 := 708) rfl ?_
    refine ix_aload_n (i := 0) (j := 0) X (ix_tb_at tb_law 378 rfl) rfl rfl (pc1 := 709) rfl ?_
    refine ix_iload_n (i := 3) (j := 3) X (ix_tb_at tb_law 379 rfl) rfl rfl (pc1 := 710) rfl ?_
    refine ix_iconst (v := 1) X (ix_tb_at tb_law 380 rfl) (by decide) (pc1 := 711) rfl ?_
    refine ix_iadd X (ix_tb_at tb_law 381 rfl) (pc1 := 712) rfl ?_
    obtain ⟨k_163, h⟩ := ix_ck_some h
    refine ix_sld X hX hbl hbN k_163 (ix_tb_at tb_law 382 rfl) (pc1 := 713) rfl ?_
    refine ix_aload_n (i := 0) (j := 0) X (ix_tb_at tb_law 383 rfl) rfl rfl (pc1 := 714) rfl ?_
    refine ix_iload_n (i := 3) (j := 3) X (ix_tb_at tb_law 384 rfl) rfl rfl (pc1 := 715) rfl ?_
    refine ix_iconst (v := 2) X (ix_tb_at tb_law 385 rfl) (by decide) (pc1 := 716) rfl ?_
    refine ix_iadd X (ix_tb_at tb_law 386 rfl) (pc1 := 717) rfl ?_
    obtain ⟨k_164, h⟩ := ix_ck_some h
    refine ix_sld X hX hbl hbN k_164 (ix_tb_at tb_law 387 rfl) (pc1 := 718) rfl ?_
    refine ix_if_eq (tgt := 725) X (ix_tb_at tb_law 388 rfl) (by decide) (pc1 := 721) rfl (fun q_165 => ?_) (fun q_165 => ?_)
    · have h := ix_ift q_165 h
      refine ix_iconst (v := 0) X (ix_tb_at tb_law 391 rfl) (by decide) (pc1 := 726) rfl ?_
      obtain ⟨k_168, h⟩ := ix_ck_some h
      obtain ⟨r_169, d_166, h_167, h⟩ := ix_bd2_ex h
      refine ix_callV (As := [.int (xs (ix_n (x3 + 1))), .int 0]) (rest := [.int r_162]) (ci := 11) (T := TX12) (nf := 116) X mf_X12_parity mi_X12_parity ms_X12_parity rfl (Nat.le_of_ble_eq_true rfl) ml_R_law_74 ⟨Nat.le_of_ble_eq_true rfl, Nat.le_of_ble_eq_true rfl⟩ ⟨Nat.le_trans (by omega) hkc, Nat.le_trans (by omega) hns⟩ rfl (Nat.le_of_ble_eq_true rfl) (ix_tb_at tb_law 392 rfl) ⟨k_168.1, List.mem_singleton.mp k_168.2⟩ (c_X12_parity hKp h_167) rfl (pc1 := 729) rfl ?_
      refine ix_icmp_eq (tgt := 1718) X (ix_tb_at tb_law 393 rfl) (by decide) (pc1 := 732) rfl (fun q_170 => ?_) (fun q_170 => ?_)
      · have h := ix_ift q_170 h
        obtain ⟨rfl, rfl⟩ := ix_sm h
        exact ix_widen (by omega) (by omega) kk
      · have h := ix_iff q_170 h
        refine ix_iconst (v := 0) X (ix_tb_at tb_law 394 rfl) (by decide) (pc1 := 733) rfl ?_
        cases h
    · have h := ix_iff q_165 h
      refine ix_iconst (v := 1) X (ix_tb_at tb_law 389 rfl) (by decide) (pc1 := 722) rfl ?_
      refine ix_goto (tgt := 726) X (ix_tb_at tb_law 390 rfl) (by decide) ?_
      obtain ⟨k_173, h⟩ := ix_ck_some h
      obtain ⟨r_174, d_171, h_172, h⟩ := ix_bd2_ex h
      refine ix_callV (As := [.int (xs (ix_n (x3 + 1))), .int 1]) (rest := [.int r_162]) (ci := 11) (T := TX12) (nf := 116) X mf_X12_parity mi_X12_parity ms_X12_parity rfl (Nat.le_of_ble_eq_true rfl) ml_R_law_74 ⟨Nat.le_of_ble_eq_true rfl, Nat.le_of_ble_eq_true rfl⟩ ⟨Nat.le_trans (by omega) hkc, Nat.le_trans (by omega) hns⟩ rfl (Nat.le_of_ble_eq_true rfl) (ix_tb_at tb_law 392 rfl) ⟨k_173.1, List.mem_singleton.mp k_173.2⟩ (c_X12_parity hKp h_172) rfl (pc1 := 729) rfl ?_
      refine ix_icmp_eq (tgt := 1718) X (ix_tb_at tb_law 393 rfl) (by decide) (pc1 := 732) rfl (fun q_175 => ?_) (fun q_175 => ?_)
      · have h := ix_ift q_175 h
        obtain ⟨rfl, rfl⟩ := ix_sm h
        exact ix_widen (by omega) (by omega) kk
      · have h := ix_iff q_175 h
        refine ix_iconst (v := 0) X (ix_tb_at tb_law 394 rfl) (by decide) (pc1 := 733) rfl ?_
        cases h
  · have h := ix_iff q_157 h
    refine ix_iconst (v := 1) X (ix_tb_at tb_law 373 rfl) (by decide) (pc1 := 700) rfl ?_
    refine ix_goto (tgt := 704) X (ix_tb_at tb_law 374 rfl) (by decide) ?_
    obtain ⟨k_178, h⟩ := ix_ck_some h
    obtain ⟨r_180, z_179, d_176, h_177, h⟩ := ix_bd3_ex h
    refine ix_callV (As := [.int (xs (ix_n (x3 + 1))), .int 1]) (rest := []) (ci := 10) (T := TX11) (nf := 18) X mf_X11_parity mi_X11_parity ms_X11_parity rfl (Nat.le_of_ble_eq_true rfl) ml_R_law_70 ⟨Nat.le_of_ble_eq_true rfl, Nat.le_of_ble_eq_true rfl⟩ ⟨Nat.le_trans (by omega) hkc, Nat.le_trans (by omega) hns⟩ rfl (Nat.le_of_ble_eq_true rfl) (ix_tb_at tb_law 376 rfl) ⟨k_178.1, List.mem_singleton.mp k_178.2⟩ (c_X11_parity hKp h_177) rfl (pc1 := 707) rfl ?_
    refine ix_aload_n (i := 2) (j := 2) X (ix_tb_at tb_law 377 rfl) rfl rfl (pc1 := 708) rfl ?_
    refine ix_aload_n (i := 0) (j := 0) X (ix_tb_at tb_law 378 rfl) rfl rfl (pc1 := 709) rfl ?_
    refine ix_iload_n (i := 3) (j := 3) X (ix_tb_at tb_law 379 rfl) rfl rfl (pc1 := 710) rfl ?_
    refine ix_iconst (v := 1) X (ix_tb_at tb_law 380 rfl) (by decide) (pc1 := 711) rfl ?_
    refine ix_iadd X (ix_tb_at tb_law 381 rfl) (pc1 := 712) rfl ?_
    obtain ⟨k_181, h⟩ := ix_ck_some h
    refine ix_sld X hX hbl hbN k_181 (ix_tb_at tb_law 382 rfl) (pc1 := 713) rfl ?_
    refine ix_aload_n (i := 0) (j := 0) X (ix_tb_at tb_law 383 rfl) rfl rfl (pc1 := 714) rfl ?_
    refine ix_iload_n (i := 3) (j := 3) X (ix_tb_at tb_law 384 rfl) rfl rfl (pc1 := 715) rfl ?_
    refine ix_iconst (v := 2) X (ix_tb_at tb_law 385 rfl) (by decide) (pc1 := 716) rfl ?_
    refine ix_iadd X (ix_tb_at tb_law 386 rfl) (pc1 := 717) rfl ?_
    obtain ⟨k_182, h⟩ := ix_ck_some h
    refine ix_sld X hX hbl hbN k_182 (ix_tb_at tb_law 387 rfl) (pc1 := 718) rfl ?_
    refine ix_if_eq (tgt := 725) X (ix_tb_at tb_law 388 rfl) (by decide) (pc1 := 721) rfl (fun q_183 => ?_) (fun q_183 => ?_)
    · have h := ix_ift q_183 h
      refine ix_iconst (v := 0) X (ix_tb_at tb_law 391 rfl) (by decide) (pc1 := 726) rfl ?_
      obtain ⟨k_186, h⟩ := ix_ck_some h
      obtain ⟨r_187, d_184, h_185, h⟩ := ix_bd2_ex h
      refine ix_callV (As := [.int (xs (ix_n (x3 + 1))), .int 0]) (rest := [.int r_180]) (ci := 11) (T := TX12) (nf := 116) X mf_X12_parity mi_X12_parity ms_X12_parity rfl (Nat.le_of_ble_eq_true rfl) ml_R_law_74 ⟨Nat.le_of_ble_eq_true rfl, Nat.le_of_ble_eq_true rfl⟩ ⟨Nat.le_trans (by omega) hkc, Nat.le_trans (by omega) hns⟩ rfl (Nat.le_of_ble_eq_true rfl) (ix_tb_at tb_law 392 rfl) ⟨k_186.1, List.mem_singleton.mp k_186.2⟩ (c_X12_parity hKp h_185) rfl (pc1 := 729) rfl ?_
      refine ix_icmp_eq (tgt := 1718) X (ix_tb_at tb_law 393 rfl) (by decide) (pc1 := 732) rfl (fun q_188 => ?_) (fun q_188 => ?_)
      · have h := ix_ift q_188 h
        obtain ⟨rfl, rfl⟩ := ix_sm h
        exact ix_widen (by omega) (by omega) kk
      · have h := ix_iff q_188 h
        refine ix_iconst (v := 0) X (ix_tb_at tb_law 394 rfl) (by decide) (pc1 := 733) rfl ?_
        cases h
    · have h := ix_iff q_183 h
      refine ix_iconst (v := 1) X (ix_tb_at tb_law 389 rfl) (by decide) (pc1 := 722) rfl ?_
      refine ix_goto (tgt := 726) X (ix_tb_at tb_law 390 rfl) (by decide) ?_
      obtain ⟨k_191, h⟩ := ix_ck_some h
      obtain ⟨r_192, d_189, h_190, h⟩ := ix_bd2_ex h
      refine ix_callV (As := [.int (xs (ix_n (x3 + 1))), .int 1]) (rest := [.int r_180]) (ci := 11) (T := TX12) (nf := 116) X mf_X12_parity mi_X12_parity ms_X12_parity rfl (Nat.le_of_ble_eq_true rfl) ml_R_law_74 ⟨Nat.le_of_ble_eq_true rfl, Nat.le_of_ble_eq_true rfl⟩ ⟨Nat.le_trans (by omega) hkc, Nat.le_trans (by omega) hns⟩ rfl (Nat.le_of_ble_eq_true rfl) (ix_tb_at tb_law 392 rfl) ⟨k_191.1, List.mem_singleton.mp k_191.2⟩ (c_X12_parity hKp h_190) rfl (pc1 := 729) rfl ?_
      refine ix_icmp_eq (tgt := 1718) X (ix_tb_at tb_law 393 rfl) (by decide) (pc1 := 732) rfl (fun q_193 => ?_) (fun q_193 => ?_)
      · have h := ix_ift q_193 h
        obtain ⟨rfl, rfl⟩ := ix_sm h
        exact ix_widen (by omega) (by omega) kk
      · have h := ix_iff q_193 h
        refine ix_iconst (v := 0) X (ix_tb_at tb_law 394 rfl) (by decide) (pc1 := 733) rfl ?_
        cases h
set_option maxRecDepth 20000 in
theorem t_law_734 {l : Launch} {p : Program} {e : Env} {s : State} {m : MethodId} {below : List Frame} {meth : Method} {c : Code} {K : ix_Cx} {b Ls kc ns : Nat} {xs : Nat → Int32} (hKp : ix_Kp K) (hF : ix_Fc K) (hT : ix_Tc K) (X : ix_X p s m #[Value.ref b] c K code R_law 4) (hX : va_X b Ls xs s s.heap) (hbl : b < s.heap.size) (hbN : ¬ ix_A K b) (hkc : kc + 8 ≤ 600000) (hns : ns + 400 ≤ 7302250) {n : Nat} {z z1 : ix_Z} {a1 a2 : Nat} {x3 : Int32} {d d1 : ix_D2} (h : f_law_734 n Ls xs z a1 a2 x3 d = some (z1, d1)) (kk : ix_G p l e room_1 s m #[Value.ref b] below meth c (lw_Z below #[Value.ref b] s) K 4 (kc + 8) (ns + 400) 1718 [(0, .ref b), (1, .ref (K.2.2.1 + a1)), (2, .ref (K.2.2.1 + a2)), (3, .int x3)] [] (ix_w z1 d1)) : ix_G p l e room_1 s m #[Value.ref b] below meth c (lw_Z below #[Value.ref b] s) K 4 kc ns 734 [(0, .ref b), (1, .ref (K.2.2.1 + a1)), (2, .ref (K.2.2.1 + a2)), (3, .int x3)] [] (ix_w z d) := by
  unfold f_law_734 at h
  refine ix_aload_n (i := 1) (j := 1) X (ix_tb_at tb_law 396 rfl) rfl rfl (pc1 := 735) rfl ?_
  obtain ⟨k_197, h⟩ := ix_ck_some h
  obtain ⟨r_199, z_198, d_195, h_196, h⟩ := ix_bd3_ex h
  refine ix_callV (As := []) (rest := []) (ci := 10) (T := TX11) (nf := 18) X mf_X11_told mi_X11_told ms_X11_told rfl (Nat.le_of_ble_eq_true rfl) ml_R_law_75 ⟨Nat.le_of_ble_eq_true rfl, Nat.le_of_ble_eq_true rfl⟩ ⟨Nat.le_trans (by omega) hkc, Nat.le_trans (by omega) hns⟩ rfl (Nat.le_of_ble_eq_true rfl) (ix_tb_at tb_law 397 rfl) ⟨k_197.1, List.mem_singleton.mp k_197.2⟩ (c_X11_told hKp hT h_196) rfl (pc1 := 738) rfl ?_
  refine ix_aload_n (i := 2) (j := 2) X (ix_tb_at tb_law 398 rfl) rfl rfl (pc1 := 739) rfl ?_
  obtain ⟨k_202, h⟩ := ix_ck_some h
  obtain ⟨r_203, d_200, h_201, h⟩ := ix_bd2_ex h
  refine ix_callV (As := []) (rest := [.int r_199]) (ci := 11) (T := TX12) (nf := 116) X mf_X12_told mi_X12_told ms_X12_told rfl (Nat.le_of_ble_eq_true rfl) ml_R_law_78 ⟨Nat.le_of_ble_eq_true rfl, Nat.le_of_ble_eq_true rfl⟩ ⟨Nat.le_trans (by omega) hkc, Nat.le_trans (by omega) hns⟩ rfl (Nat.le_of_ble_eq_true rfl) (ix_tb_at tb_law 399 rfl) ⟨k_202.1, List.mem_singleton.mp k_202.2⟩ (c_X12_told hKp h_201) rfl (pc1 := 742) rfl ?_
  refine ix_icmp_eq (tgt := 1718) X (ix_tb_at tb_law 400 rfl) (by decide) (pc1 := 745) rfl (fun q_204 => ?_) (fun q_204 => ?_)
  · have h := ix_ift q_204 h
    obtain ⟨rfl, rfl⟩ := ix_sm h
    exact ix_widen (by omega) (by omega) kk
  · have h := ix_iff q_204 h
    refine ix_iconst (v := 0) X (ix_tb_at tb_law 401 rfl) (by decide) (pc1 := 746) rfl ?_
    cases h
set_option maxRecDepth 20000 in
theorem t_law_747 {l : Launch} {p : Program} {e : Env} {s : State} {m : MethodId} {below : List Frame} {meth : Method} {c : Code} {K : ix_Cx} {b Ls kc ns : Nat} {xs : Nat → Int32} (hKp : ix_Kp K) (hF : ix_Fc K) (hT : ix_Tc K) (X : ix_X p s m #[Value.ref b] c K code R_law 4) (hX : va_X b Ls xs s s.heap) (hbl : b < s.heap.size) (hbN : ¬ ix_A K b) (hkc : kc + 8 ≤ 600000) (hns : ns + 400 ≤ 7302250) {n : Nat} {z z1 : ix_Z} {a1 a2 : Nat} {x3 : Int32} {d d1 : ix_D2} (h : f_law_747 n Ls xs z a1 a2 x3 d = some (z1, d1)) (kk : ix_G p l e room_1 s m #[Value.ref b] below meth c (lw_Z below #[Value.ref b] s) K 4 (kc + 8) (ns + 400) 1718 [(0, .ref b), (1, .ref (K.2.2.1 + a1)), (2, .ref (K.2.2.1 + a2)), (3, .int x3)] [] (ix_w z1 d1)) : ix_G p l e room_1 s m #[Value.ref b] below meth c (lw_Z below #[Value.ref b] s) K 4 kc ns 747 [(0, .ref b), (1, .ref (K.2.2.1 + a1)), (2, .ref (K.2.2.1 + a2)), (3, .int x3)] [] (ix_w z d) := by
  unfold f_law_747 at h
  refine ix_aload_n (i := 1) (j := 1) X (ix_tb_at tb_law 403 rfl) rfl rfl (pc1 := 748) rfl ?_
  refine ix_aload_n (i := 0) (j := 0) X (ix_tb_at tb_law 404 rfl) rfl rfl (pc1 := 749) rfl ?_
  refine ix_iload_n (i := 3) (j := 3) X (ix_tb_at tb_law 405 rfl) rfl rfl (pc1 := 750) rfl ?_
  refine ix_iconst (v := 1) X (ix_tb_at tb_law 406 rfl) (by decide) (pc1 := 751) rfl ?_
  refine ix_iadd X (ix_tb_at tb_law 407 rfl) (pc1 := 752) rfl ?_
  obtain ⟨k_206, h⟩ := ix_ck_some h
  refine ix_sld X hX hbl hbN k_206 (ix_tb_at tb_law 408 rfl) (pc1 := 753) rfl ?_
  obtain ⟨k_209, h⟩ := ix_ck_some h
  obtain ⟨r_210, d_207, h_208, h⟩ := ix_bd2_ex h
  refine ix_callV (As := [.int (xs (ix_n (x3 + 1)))]) (rest := []) (ci := 10) (T := TX11) (nf := 18) X mf_X11_kind mi_X11_kind ms_X11_kind rfl (Nat.le_of_ble_eq_true rfl) ml_R_law_79 ⟨Nat.le_of_ble_eq_true rfl, Nat.le_of_ble_eq_true rfl⟩ ⟨Nat.le_trans (by omega) hkc, Nat.le_trans (by omega) hns⟩ rfl (Nat.le_of_ble_eq_true rfl) (ix_tb_at tb_law 409 rfl) ⟨k_209.1, List.mem_singleton.mp k_209.2⟩ (c_X11_kind hKp h_208) rfl (pc1 := 756) rfl ?_
  refine ix_aload_n (i := 2) (j := 2) X (ix_tb_at tb_law 410 rfl) rfl rfl (pc1 := 757) rfl ?_
  refine ix_aload_n (i := 0) (j := 0) X (ix_tb_at tb_law 411 rfl) rfl rfl (pc1 := 758) rfl ?_
  refine ix_iload_n (i := 3) (j := 3) X (ix_tb_at tb_law 412 rfl) rfl rfl (pc1 := 759) rfl ?_
  refine ix_iconst (v := 1) X (ix_tb_at tb_law 413 rfl) (by decide) (pc1 := 760) rfl ?_
  refine ix_iadd X (ix_tb_at tb_law 414 rfl) (pc1 := 761) rfl ?_
  refine ix_sld X hX hbl hbN k_206 (ix_tb_at tb_law 415 rfl) (pc1 := 762) rfl ?_
  obtain ⟨k_213, h⟩ := ix_ck_some h
  obtain ⟨r_214, d_211, h_212, h⟩ := ix_bd2_ex h
  refine ix_callV (As := [.int (xs (ix_n (x3 + 1)))]) (rest := [.int r_210]) (ci := 11) (T := TX12) (nf := 116) X mf_X12_kind mi_X12_kind ms_X12_kind rfl (Nat.le_of_ble_eq_true rfl) ml_R_law_82 ⟨Nat.le_of_ble_eq_true rfl, Nat.le_of_ble_eq_true rfl⟩ ⟨Nat.le_trans (by omega) hkc, Nat.le_trans (by omega) hns⟩ rfl (Nat.le_of_ble_eq_true rfl) (ix_tb_at tb_law 416 rfl) ⟨k_213.1, List.mem_singleton.mp k_213.2⟩ (c_X12_kind hKp h_212) rfl (pc1 := 765) rfl ?_
  refine ix_icmp_eq (tgt := 1718) X (ix_tb_at tb_law 417 rfl) (by decide) (pc1 := 768) rfl (fun q_215 => ?_) (fun q_215 => ?_)
  · have h := ix_ift q_215 h
    obtain ⟨rfl, rfl⟩ := ix_sm h
    exact ix_widen (by omega) (by omega) kk
  · have h := ix_iff q_215 h
    refine ix_iconst (v := 0) X (ix_tb_at tb_law 418 rfl) (by decide) (pc1 := 769) rfl ?_
    cases h
set_option maxRecDepth 20000 in
theorem t_law_770 {l : Launch} {p : Program} {e : Env} {s : State} {m : MethodId} {below : List Frame} {meth : Method} {c : Code} {K : ix_Cx} {b Ls kc ns : Nat} {xs : Nat → Int32} (hKp : ix_Kp K) (hF : ix_Fc K) (hT : ix_Tc K) (X : ix_X p s m #[Value.ref b] c K code R_law 4) (hX : va_X b Ls xs s s.heap) (hbl : b < s.heap.size) (hbN : ¬ ix_A K b) (hkc : kc + 8 ≤ 600000) (hns : ns + 400 ≤ 7302250) {n : Nat} {z z1 : ix_Z} {a1 a2 : Nat} {x3 : Int32} {d d1 : ix_D2} (h : f_law_770 n Ls xs z a1 a2 x3 d = some (z1, d1)) (kk : ix_G p l e room_1 s m #[Value.ref b] below meth c (lw_Z below #[Value.ref b] s) K 4 (kc + 8) (ns + 400) 1718 [(0, .ref b), (1, .ref (K.2.2.1 + a1)), (2, .ref (K.2.2.1 + a2)), (3, .int x3)] [] (ix_w z1 d1)) : ix_G p l e room_1 s m #[Value.ref b] below meth c (lw_Z below #[Value.ref b] s) K 4 kc ns 770 [(0, .ref b), (1, .ref (K.2.2.1 + a1)), (2, .ref (K.2.2.1 + a2)), (3, .int x3)] [] (ix_w z d) := by
  unfold f_law_770 at h
  refine ix_aload_n (i := 1) (j := 1) X (ix_tb_at tb_law 420 rfl) rfl rfl (pc1 := 771) rfl ?_
  refine ix_aload_n (i := 0) (j := 0) X (ix_tb_at tb_law 421 rfl) rfl rfl (pc1 := 772) rfl ?_
  refine ix_iload_n (i := 3) (j := 3) X (ix_tb_at tb_law 422 rfl) rfl rfl (pc1 := 773) rfl ?_
  refine ix_iconst (v := 1) X (ix_tb_at tb_law 423 rfl) (by decide) (pc1 := 774) rfl ?_
  refine ix_iadd X (ix_tb_at tb_law 424 rfl) (pc1 := 775) rfl ?_
  obtain ⟨k_217, h⟩ := ix_ck_some h
  refine ix_sld X hX hbl hbN k_217 (ix_tb_at tb_law 425 rfl) (pc1 := 776) rfl ?_
  refine ix_aload_n (i := 0) (j := 0) X (ix_tb_at tb_law 426 rfl) rfl rfl (pc1 := 777) rfl ?_
  refine ix_iload_n (i := 3) (j := 3) X (ix_tb_at tb_law 427 rfl) rfl rfl (pc1 := 778) rfl ?_
  refine ix_iconst (v := 2) X (ix_tb_at tb_law 428 rfl) (by decide) (pc1 := 779) rfl ?_
  refine ix_iadd X (ix_tb_at tb_law 429 rfl) (pc1 := 780) rfl ?_
  obtain ⟨k_218, h⟩ := ix_ck_some h
  refine ix_sld X hX hbl hbN k_218 (ix_tb_at tb_law 430 rfl) (pc1 := 781) rfl ?_
  obtain ⟨k_221, h⟩ := ix_ck_some h
  obtain ⟨r_222, d_219, h_220, h⟩ := ix_bd2_ex h
  refine ix_callV (As := [.int (xs (ix_n (x3 + 1))), .int (xs (ix_n (x3 + 2)))]) (rest := []) (ci := 10) (T := TX11) (nf := 18) X mf_X11_as mi_X11_as ms_X11_as rfl (Nat.le_of_ble_eq_true rfl) ml_R_law_83 ⟨Nat.le_of_ble_eq_true rfl, Nat.le_of_ble_eq_true rfl⟩ ⟨Nat.le_trans (by omega) hkc, Nat.le_trans (by omega) hns⟩ rfl (Nat.le_of_ble_eq_true rfl) (ix_tb_at tb_law 431 rfl) ⟨k_221.1, List.mem_singleton.mp k_221.2⟩ (c_X11_as hKp hF h_220) rfl (pc1 := 784) rfl ?_
  refine ix_aload_n (i := 2) (j := 2) X (ix_tb_at tb_law 432 rfl) rfl rfl (pc1 := 785) rfl ?_
  refine ix_aload_n (i := 0) (j := 0) X (ix_tb_at tb_law 433 rfl) rfl rfl (pc1 := 786) rfl ?_
  refine ix_iload_n (i := 3) (j := 3) X (ix_tb_at tb_law 434 rfl) rfl rfl (pc1 := 787) rfl ?_
  refine ix_iconst (v := 1) X (ix_tb_at tb_law 435 rfl) (by decide) (pc1 := 788) rfl ?_
  refine ix_iadd X (ix_tb_at tb_law 436 rfl) (pc1 := 789) rfl ?_
  refine ix_sld X hX hbl hbN k_217 (ix_tb_at tb_law 437 rfl) (pc1 := 790) rfl ?_
  refine ix_aload_n (i := 0) (j := 0) X (ix_tb_at tb_law 438 rfl) rfl rfl (pc1 := 791) rfl ?_
  refine ix_iload_n (i := 3) (j := 3) X (ix_tb_at tb_law 439 rfl) rfl rfl (pc1 := 792) rfl ?_
  refine ix_iconst (v := 2) X (ix_tb_at tb_law 440 rfl) (by decide) (pc1 := 793) rfl ?_
  refine ix_iadd X (ix_tb_at tb_law 441 rfl) (pc1 := 794) rfl ?_
  refine ix_sld X hX hbl hbN k_218 (ix_tb_at tb_law 442 rfl) (pc1 := 795) rfl ?_
  obtain ⟨k_225, h⟩ := ix_ck_some h
  obtain ⟨r_226, d_223, h_224, h⟩ := ix_bd2_ex h
  refine ix_callV (As := [.int (xs (ix_n (x3 + 1))), .int (xs (ix_n (x3 + 2)))]) (rest := [.int r_222]) (ci := 11) (T := TX12) (nf := 116) X mf_X12_as mi_X12_as ms_X12_as rfl (Nat.le_of_ble_eq_true rfl) ml_R_law_86 ⟨Nat.le_of_ble_eq_true rfl, Nat.le_of_ble_eq_true rfl⟩ ⟨Nat.le_trans (by omega) hkc, Nat.le_trans (by omega) hns⟩ rfl (Nat.le_of_ble_eq_true rfl) (ix_tb_at tb_law 443 rfl) ⟨k_225.1, List.mem_singleton.mp k_225.2⟩ (c_X12_as hKp h_224) rfl (pc1 := 798) rfl ?_
  refine ix_icmp_eq (tgt := 1718) X (ix_tb_at tb_law 444 rfl) (by decide) (pc1 := 801) rfl (fun q_227 => ?_) (fun q_227 => ?_)
  · have h := ix_ift q_227 h
    obtain ⟨rfl, rfl⟩ := ix_sm h
    exact ix_widen (by omega) (by omega) kk
  · have h := ix_iff q_227 h
    refine ix_iconst (v := 0) X (ix_tb_at tb_law 445 rfl) (by decide) (pc1 := 802) rfl ?_
    cases h
set_option maxRecDepth 20000 in
theorem t_law_803 {l : Launch} {p : Program} {e : Env} {s : State} {m : MethodId} {below : List Frame} {meth : Method} {c : Code} {K : ix_Cx} {b Ls kc ns : Nat} {xs : Nat → Int32} (hKp : ix_Kp K) (hF : ix_Fc K) (hT : ix_Tc K) (X : ix_X p s m #[Value.ref b] c K code R_law 4) (hX : va_X b Ls xs s s.heap) (hbl : b < s.heap.size) (hbN : ¬ ix_A K b) (hkc : kc + 8 ≤ 600000) (hns : ns + 400 ≤ 7302250) {n : Nat} {z z1 : ix_Z} {a1 a2 : Nat} {x3 : Int32} {d d1 : ix_D2} (h : f_law_803 n Ls xs z a1 a2 x3 d = some (z1, d1)) (kk : ix_G p l e room_1 s m #[Value.ref b] below meth c (lw_Z below #[Value.ref b] s) K 4 (kc + 8) (ns + 400) 1718 [(0, .ref b), (1, .ref (K.2.2.1 + a1)), (2, .ref (K.2.2.1 + a2)), (3, .int x3)] [] (ix_w z1 d1)) : ix_G p l e room_1 s m #[Value.ref b] below meth c (lw_Z below #[Value.ref b] s) K 4 kc ns 803 [(0, .ref b), (1, .ref (K.2.2.1 + a1)), (2, .ref (K.2.2.1 + a2)), (3, .int x3)] [] (ix_w z d) := by
  unfold f_law_803 at h
  refine ix_aload_n (i := 1) (j := 1) X (ix_tb_at tb_law 447 rfl) rfl rfl (pc1 := 804) rfl ?_
  refine ix_aload_n (i := 0) (j := 0) X (ix_tb_at tb_law 448 rfl) rfl rfl (pc1 := 805) rfl ?_
  refine ix_iload_n (i := 3) (j := 3) X (ix_tb_at tb_law 449 rfl) rfl rfl (pc1 := 806) rfl ?_
  refine ix_iconst (v := 1) X (ix_tb_at tb_law 450 rfl) (by decide) (pc1 := 807) rfl ?_
  refine ix_iadd X (ix_tb_at tb_law 451 rfl) (pc1 := 808) rfl ?_
  obtain ⟨k_229, h⟩ := ix_ck_some h
  refine ix_sld X hX hbl hbN k_229 (ix_tb_at tb_law 452 rfl) (pc1 := 809) rfl ?_
  refine ix_aload_n (i := 0) (j := 0) X (ix_tb_at tb_law 453 rfl) rfl rfl (pc1 := 810) rfl ?_
  refine ix_iload_n (i := 3) (j := 3) X (ix_tb_at tb_law 454 rfl) rfl rfl (pc1 := 811) rfl ?_
  refine ix_iconst (v := 2) X (ix_tb_at tb_law 455 rfl) (by decide) (pc1 := 812) rfl ?_
  refine ix_iadd X (ix_tb_at tb_law 456 rfl) (pc1 := 813) rfl ?_
  obtain ⟨k_230, h⟩ := ix_ck_some h
  refine ix_sld X hX hbl hbN k_230 (ix_tb_at tb_law 457 rfl) (pc1 := 814) rfl ?_
  obtain ⟨k_233, h⟩ := ix_ck_some h
  obtain ⟨r_234, d_231, h_232, h⟩ := ix_bd2_ex h
  refine ix_callV (As := [.int (xs (ix_n (x3 + 1))), .int (xs (ix_n (x3 + 2)))]) (rest := []) (ci := 10) (T := TX11) (nf := 18) X mf_X11_item mi_X11_item ms_X11_item rfl (Nat.le_of_ble_eq_true rfl) ml_R_law_87 ⟨Nat.le_of_ble_eq_true rfl, Nat.le_of_ble_eq_true rfl⟩ ⟨Nat.le_trans (by omega) hkc, Nat.le_trans (by omega) hns⟩ rfl (Nat.le_of_ble_eq_true rfl) (ix_tb_at tb_law 458 rfl) ⟨k_233.1, List.mem_singleton.mp k_233.2⟩ (c_X11_item hKp h_232) rfl (pc1 := 817) rfl ?_
  refine ix_aload_n (i := 2) (j := 2) X (ix_tb_at tb_law 459 rfl) rfl rfl (pc1 := 818) rfl ?_
  refine ix_aload_n (i := 0) (j := 0) X (ix_tb_at tb_law 460 rfl) rfl rfl (pc1 := 819) rfl ?_
  refine ix_iload_n (i := 3) (j := 3) X (ix_tb_at tb_law 461 rfl) rfl rfl (pc1 := 820) rfl ?_
  refine ix_iconst (v := 1) X (ix_tb_at tb_law 462 rfl) (by decide) (pc1 := 821) rfl ?_
  refine ix_iadd X (ix_tb_at tb_law 463 rfl) (pc1 := 822) rfl ?_
  refine ix_sld X hX hbl hbN k_229 (ix_tb_at tb_law 464 rfl) (pc1 := 823) rfl ?_
  refine ix_aload_n (i := 0) (j := 0) X (ix_tb_at tb_law 465 rfl) rfl rfl (pc1 := 824) rfl ?_
  refine ix_iload_n (i := 3) (j := 3) X (ix_tb_at tb_law 466 rfl) rfl rfl (pc1 := 825) rfl ?_
  refine ix_iconst (v := 2) X (ix_tb_at tb_law 467 rfl) (by decide) (pc1 := 826) rfl ?_
  refine ix_iadd X (ix_tb_at tb_law 468 rfl) (pc1 := 827) rfl ?_
  refine ix_sld X hX hbl hbN k_230 (ix_tb_at tb_law 469 rfl) (pc1 := 828) rfl ?_
  obtain ⟨k_237, h⟩ := ix_ck_some h
  obtain ⟨r_238, d_235, h_236, h⟩ := ix_bd2_ex h
  refine ix_callV (As := [.int (xs (ix_n (x3 + 1))), .int (xs (ix_n (x3 + 2)))]) (rest := [.int r_234]) (ci := 11) (T := TX12) (nf := 116) X mf_X12_item mi_X12_item ms_X12_item rfl (Nat.le_of_ble_eq_true rfl) ml_R_law_90 ⟨Nat.le_of_ble_eq_true rfl, Nat.le_of_ble_eq_true rfl⟩ ⟨Nat.le_trans (by omega) hkc, Nat.le_trans (by omega) hns⟩ rfl (Nat.le_of_ble_eq_true rfl) (ix_tb_at tb_law 470 rfl) ⟨k_237.1, List.mem_singleton.mp k_237.2⟩ (c_X12_item hKp h_236) rfl (pc1 := 831) rfl ?_
  refine ix_icmp_eq (tgt := 1718) X (ix_tb_at tb_law 471 rfl) (by decide) (pc1 := 834) rfl (fun q_239 => ?_) (fun q_239 => ?_)
  · have h := ix_ift q_239 h
    obtain ⟨rfl, rfl⟩ := ix_sm h
    exact ix_widen (by omega) (by omega) kk
  · have h := ix_iff q_239 h
    refine ix_iconst (v := 0) X (ix_tb_at tb_law 472 rfl) (by decide) (pc1 := 835) rfl ?_
    cases h
set_option maxRecDepth 20000 in
theorem t_law_836 {l : Launch} {p : Program} {e : Env} {s : State} {m : MethodId} {below : List Frame} {meth : Method} {c : Code} {K : ix_Cx} {b Ls kc ns : Nat} {xs : Nat → Int32} (hKp : ix_Kp K) (hF : ix_Fc K) (hT : ix_Tc K) (X : ix_X p s m #[Value.ref b] c K code R_law 4) (hX : va_X b Ls xs s s.heap) (hbl : b < s.heap.size) (hbN : ¬ ix_A K b) (hkc : kc + 8 ≤ 600000) (hns : ns + 400 ≤ 7302250) {n : Nat} {z z1 : ix_Z} {a1 a2 : Nat} {x3 : Int32} {d d1 : ix_D2} (h : f_law_836 n Ls xs z a1 a2 x3 d = some (z1, d1)) (kk : ix_G p l e room_1 s m #[Value.ref b] below meth c (lw_Z below #[Value.ref b] s) K 4 (kc + 8) (ns + 400) 1718 [(0, .ref b), (1, .ref (K.2.2.1 + a1)), (2, .ref (K.2.2.1 + a2)), (3, .int x3)] [] (ix_w z1 d1)) : ix_G p l e room_1 s m #[Value.ref b] below meth c (lw_Z below #[Value.ref b] s) K 4 kc ns 836 [(0, .ref b), (1, .ref (K.2.2.1 + a1)), (2, .ref (K.2.2.1 + a2)), (3, .int x3)] [] (ix_w z d) := by
  unfold f_law_836 at h
  refine ix_aload_n (i := 1) (j := 1) X (ix_tb_at tb_law 474 rfl) rfl rfl (pc1 := 837) rfl ?_
  refine ix_aload_n (i := 0) (j := 0) X (ix_tb_at tb_law 475 rfl) rfl rfl (pc1 := 838) rfl ?_
  refine ix_iload_n (i := 3) (j := 3) X (ix_tb_at tb_law 476 rfl) rfl rfl (pc1 := 839) rfl ?_
  refine ix_iconst (v := 1) X (ix_tb_at tb_law 477 rfl) (by decide) (pc1 := 840) rfl ?_
  refine ix_iadd X (ix_tb_at tb_law 478 rfl) (pc1 := 841) rfl ?_
  obtain ⟨k_241, h⟩ := ix_ck_some h
  refine ix_sld X hX hbl hbN k_241 (ix_tb_at tb_law 479 rfl) (pc1 := 842) rfl ?_
  refine ix_aload_n (i := 0) (j := 0) X (ix_tb_at tb_law 480 rfl) rfl rfl (pc1 := 843) rfl ?_
  refine ix_iload_n (i := 3) (j := 3) X (ix_tb_at tb_law 481 rfl) rfl rfl (pc1 := 844) rfl ?_
  refine ix_iconst (v := 2) X (ix_tb_at tb_law 482 rfl) (by decide) (pc1 := 845) rfl ?_
  refine ix_iadd X (ix_tb_at tb_law 483 rfl) (pc1 := 846) rfl ?_
  obtain ⟨k_242, h⟩ := ix_ck_some h
  refine ix_sld X hX hbl hbN k_242 (ix_tb_at tb_law 484 rfl) (pc1 := 847) rfl ?_
  obtain ⟨k_245, h⟩ := ix_ck_some h
  obtain ⟨r_246, d_243, h_244, h⟩ := ix_bd2_ex h
  refine ix_callV (As := [.int (xs (ix_n (x3 + 1))), .int (xs (ix_n (x3 + 2)))]) (rest := []) (ci := 10) (T := TX11) (nf := 18) X mf_X11_rows mi_X11_rows ms_X11_rows rfl (Nat.le_of_ble_eq_true rfl) ml_R_law_91 ⟨Nat.le_of_ble_eq_true rfl, Nat.le_of_ble_eq_true rfl⟩ ⟨Nat.le_trans (by omega) hkc, Nat.le_trans (by omega) hns⟩ rfl (Nat.le_of_ble_eq_true rfl) (ix_tb_at tb_law 485 rfl) ⟨k_245.1, List.mem_singleton.mp k_245.2⟩ (c_X11_rows hKp h_244) rfl (pc1 := 850) rfl ?_
  refine ix_aload_n (i := 2) (j := 2) X (ix_tb_at tb_law 486 rfl) rfl rfl (pc1 := 851) rfl ?_
  refine ix_aload_n (i := 0) (j := 0) X (ix_tb_at tb_law 487 rfl) rfl rfl (pc1 := 852) rfl ?_
  refine ix_iload_n (i := 3) (j := 3) X (ix_tb_at tb_law 488 rfl) rfl rfl (pc1 := 853) rfl ?_
  refine ix_iconst (v := 1) X (ix_tb_at tb_law 489 rfl) (by decide) (pc1 := 854) rfl ?_
  refine ix_iadd X (ix_tb_at tb_law 490 rfl) (pc1 := 855) rfl ?_
  refine ix_sld X hX hbl hbN k_241 (ix_tb_at tb_law 491 rfl) (pc1 := 856) rfl ?_
  refine ix_aload_n (i := 0) (j := 0) X (ix_tb_at tb_law 492 rfl) rfl rfl (pc1 := 857) rfl ?_
  refine ix_iload_n (i := 3) (j := 3) X (ix_tb_at tb_law 493 rfl) rfl rfl (pc1 := 858) rfl ?_
  refine ix_iconst (v := 2) X (ix_tb_at tb_law 494 rfl) (by decide) (pc1 := 859) rfl ?_
  refine ix_iadd X (ix_tb_at tb_law 495 rfl) (pc1 := 860) rfl ?_
  refine ix_sld X hX hbl hbN k_242 (ix_tb_at tb_law 496 rfl) (pc1 := 861) rfl ?_
  obtain ⟨k_249, h⟩ := ix_ck_some h
  obtain ⟨r_250, d_247, h_248, h⟩ := ix_bd2_ex h
  refine ix_callV (As := [.int (xs (ix_n (x3 + 1))), .int (xs (ix_n (x3 + 2)))]) (rest := [.int r_246]) (ci := 11) (T := TX12) (nf := 116) X mf_X12_rows mi_X12_rows ms_X12_rows rfl (Nat.le_of_ble_eq_true rfl) ml_R_law_94 ⟨Nat.le_of_ble_eq_true rfl, Nat.le_of_ble_eq_true rfl⟩ ⟨Nat.le_trans (by omega) hkc, Nat.le_trans (by omega) hns⟩ rfl (Nat.le_of_ble_eq_true rfl) (ix_tb_at tb_law 497 rfl) ⟨k_249.1, List.mem_singleton.mp k_249.2⟩ (c_X12_rows hKp h_248) rfl (pc1 := 864) rfl ?_
  refine ix_icmp_eq (tgt := 1718) X (ix_tb_at tb_law 498 rfl) (by decide) (pc1 := 867) rfl (fun q_251 => ?_) (fun q_251 => ?_)
  · have h := ix_ift q_251 h
    obtain ⟨rfl, rfl⟩ := ix_sm h
    exact ix_widen (by omega) (by omega) kk
  · have h := ix_iff q_251 h
    refine ix_iconst (v := 0) X (ix_tb_at tb_law 499 rfl) (by decide) (pc1 := 868) rfl ?_
    cases h
set_option maxRecDepth 20000 in
theorem t_law_869 {l : Launch} {p : Program} {e : Env} {s : State} {m : MethodId} {below : List Frame} {meth : Method} {c : Code} {K : ix_Cx} {b Ls kc ns : Nat} {xs : Nat → Int32} (hKp : ix_Kp K) (hF : ix_Fc K) (hT : ix_Tc K) (X : ix_X p s m #[Value.ref b] c K code R_law 4) (hX : va_X b Ls xs s s.heap) (hbl : b < s.heap.size) (hbN : ¬ ix_A K b) (hkc : kc + 8 ≤ 600000) (hns : ns + 400 ≤ 7302250) {n : Nat} {z z1 : ix_Z} {a1 a2 : Nat} {x3 : Int32} {d d1 : ix_D2} (h : f_law_869 n Ls xs z a1 a2 x3 d = some (z1, d1)) (kk : ix_G p l e room_1 s m #[Value.ref b] below meth c (lw_Z below #[Value.ref b] s) K 4 (kc + 8) (ns + 400) 1718 [(0, .ref b), (1, .ref (K.2.2.1 + a1)), (2, .ref (K.2.2.1 + a2)), (3, .int x3)] [] (ix_w z1 d1)) : ix_G p l e room_1 s m #[Value.ref b] below meth c (lw_Z below #[Value.ref b] s) K 4 kc ns 869 [(0, .ref b), (1, .ref (K.2.2.1 + a1)), (2, .ref (K.2.2.1 + a2)), (3, .int x3)] [] (ix_w z d) := by
  unfold f_law_869 at h
  refine ix_aload_n (i := 1) (j := 1) X (ix_tb_at tb_law 501 rfl) rfl rfl (pc1 := 870) rfl ?_
  refine ix_aload_n (i := 0) (j := 0) X (ix_tb_at tb_law 502 rfl) rfl rfl (pc1 := 871) rfl ?_
  refine ix_iload_n (i := 3) (j := 3) X (ix_tb_at tb_law 503 rfl) rfl rfl (pc1 := 872) rfl ?_
  refine ix_iconst (v := 1) X (ix_tb_at tb_law 504 rfl) (by decide) (pc1 := 873) rfl ?_
  refine ix_iadd X (ix_tb_at tb_law 505 rfl) (pc1 := 874) rfl ?_
  obtain ⟨k_253, h⟩ := ix_ck_some h
  refine ix_sld X hX hbl hbN k_253 (ix_tb_at tb_law 506 rfl) (pc1 := 875) rfl ?_
  refine ix_aload_n (i := 0) (j := 0) X (ix_tb_at tb_law 507 rfl) rfl rfl (pc1 := 876) rfl ?_
  refine ix_iload_n (i := 3) (j := 3) X (ix_tb_at tb_law 508 rfl) rfl rfl (pc1 := 877) rfl ?_
  refine ix_iconst (v := 2) X (ix_tb_at tb_law 509 rfl) (by decide) (pc1 := 878) rfl ?_
  refine ix_iadd X (ix_tb_at tb_law 510 rfl) (pc1 := 879) rfl ?_
  obtain ⟨k_254, h⟩ := ix_ck_some h
  refine ix_sld X hX hbl hbN k_254 (ix_tb_at tb_law 511 rfl) (pc1 := 880) rfl ?_
  obtain ⟨k_257, h⟩ := ix_ck_some h
  obtain ⟨r_258, d_255, h_256, h⟩ := ix_bd2_ex h
  refine ix_callV (As := [.int (xs (ix_n (x3 + 1))), .int (xs (ix_n (x3 + 2)))]) (rest := []) (ci := 10) (T := TX11) (nf := 18) X mf_X11_line mi_X11_line ms_X11_line rfl (Nat.le_of_ble_eq_true rfl) ml_R_law_95 ⟨Nat.le_of_ble_eq_true rfl, Nat.le_of_ble_eq_true rfl⟩ ⟨Nat.le_trans (by omega) hkc, Nat.le_trans (by omega) hns⟩ rfl (Nat.le_of_ble_eq_true rfl) (ix_tb_at tb_law 512 rfl) ⟨k_257.1, List.mem_singleton.mp k_257.2⟩ (c_X11_line hKp h_256) rfl (pc1 := 883) rfl ?_
  refine ix_aload_n (i := 2) (j := 2) X (ix_tb_at tb_law 513 rfl) rfl rfl (pc1 := 884) rfl ?_
  refine ix_aload_n (i := 0) (j := 0) X (ix_tb_at tb_law 514 rfl) rfl rfl (pc1 := 885) rfl ?_
  refine ix_iload_n (i := 3) (j := 3) X (ix_tb_at tb_law 515 rfl) rfl rfl (pc1 := 886) rfl ?_
  refine ix_iconst (v := 1) X (ix_tb_at tb_law 516 rfl) (by decide) (pc1 := 887) rfl ?_
  refine ix_iadd X (ix_tb_at tb_law 517 rfl) (pc1 := 888) rfl ?_
  refine ix_sld X hX hbl hbN k_253 (ix_tb_at tb_law 518 rfl) (pc1 := 889) rfl ?_
  refine ix_aload_n (i := 0) (j := 0) X (ix_tb_at tb_law 519 rfl) rfl rfl (pc1 := 890) rfl ?_
  refine ix_iload_n (i := 3) (j := 3) X (ix_tb_at tb_law 520 rfl) rfl rfl (pc1 := 891) rfl ?_
  refine ix_iconst (v := 2) X (ix_tb_at tb_law 521 rfl) (by decide) (pc1 := 892) rfl ?_
  refine ix_iadd X (ix_tb_at tb_law 522 rfl) (pc1 := 893) rfl ?_
  refine ix_sld X hX hbl hbN k_254 (ix_tb_at tb_law 523 rfl) (pc1 := 894) rfl ?_
  obtain ⟨k_261, h⟩ := ix_ck_some h
  obtain ⟨r_262, d_259, h_260, h⟩ := ix_bd2_ex h
  refine ix_callV (As := [.int (xs (ix_n (x3 + 1))), .int (xs (ix_n (x3 + 2)))]) (rest := [.int r_258]) (ci := 11) (T := TX12) (nf := 116) X mf_X12_line mi_X12_line ms_X12_line rfl (Nat.le_of_ble_eq_true rfl) ml_R_law_98 ⟨Nat.le_of_ble_eq_true rfl, Nat.le_of_ble_eq_true rfl⟩ ⟨Nat.le_trans (by omega) hkc, Nat.le_trans (by omega) hns⟩ rfl (Nat.le_of_ble_eq_true rfl) (ix_tb_at tb_law 524 rfl) ⟨k_261.1, List.mem_singleton.mp k_261.2⟩ (c_X12_line hKp h_260) rfl (pc1 := 897) rfl ?_
  refine ix_icmp_eq (tgt := 1718) X (ix_tb_at tb_law 525 rfl) (by decide) (pc1 := 900) rfl (fun q_263 => ?_) (fun q_263 => ?_)
  · have h := ix_ift q_263 h
    obtain ⟨rfl, rfl⟩ := ix_sm h
    exact ix_widen (by omega) (by omega) kk
  · have h := ix_iff q_263 h
    refine ix_iconst (v := 0) X (ix_tb_at tb_law 526 rfl) (by decide) (pc1 := 901) rfl ?_
    cases h
set_option maxRecDepth 20000 in
theorem t_law_902 {l : Launch} {p : Program} {e : Env} {s : State} {m : MethodId} {below : List Frame} {meth : Method} {c : Code} {K : ix_Cx} {b Ls kc ns : Nat} {xs : Nat → Int32} (hKp : ix_Kp K) (hF : ix_Fc K) (hT : ix_Tc K) (X : ix_X p s m #[Value.ref b] c K code R_law 4) (hX : va_X b Ls xs s s.heap) (hbl : b < s.heap.size) (hbN : ¬ ix_A K b) (hkc : kc + 8 ≤ 600000) (hns : ns + 400 ≤ 7302250) {n : Nat} {z z1 : ix_Z} {a1 a2 : Nat} {x3 : Int32} {d d1 : ix_D2} (h : f_law_902 n Ls xs z a1 a2 x3 d = some (z1, d1)) (kk : ix_G p l e room_1 s m #[Value.ref b] below meth c (lw_Z below #[Value.ref b] s) K 4 (kc + 8) (ns + 400) 1718 [(0, .ref b), (1, .ref (K.2.2.1 + a1)), (2, .ref (K.2.2.1 + a2)), (3, .int x3)] [] (ix_w z1 d1)) : ix_G p l e room_1 s m #[Value.ref b] below meth c (lw_Z below #[Value.ref b] s) K 4 kc ns 902 [(0, .ref b), (1, .ref (K.2.2.1 + a1)), (2, .ref (K.2.2.1 + a2)), (3, .int x3)] [] (ix_w z d) := by
  unfold f_law_902 at h
  refine ix_aload_n (i := 1) (j := 1) X (ix_tb_at tb_law 528 rfl) rfl rfl (pc1 := 903) rfl ?_
  refine ix_aload_n (i := 0) (j := 0) X (ix_tb_at tb_law 529 rfl) rfl rfl (pc1 := 904) rfl ?_
  refine ix_iload_n (i := 3) (j := 3) X (ix_tb_at tb_law 530 rfl) rfl rfl (pc1 := 905) rfl ?_
  refine ix_iconst (v := 1) X (ix_tb_at tb_law 531 rfl) (by decide) (pc1 := 906) rfl ?_
  refine ix_iadd X (ix_tb_at tb_law 532 rfl) (pc1 := 907) rfl ?_
  obtain ⟨k_265, h⟩ := ix_ck_some h
  refine ix_sld X hX hbl hbN k_265 (ix_tb_at tb_law 533 rfl) (pc1 := 908) rfl ?_
  refine ix_aload_n (i := 0) (j := 0) X (ix_tb_at tb_law 534 rfl) rfl rfl (pc1 := 909) rfl ?_
  refine ix_iload_n (i := 3) (j := 3) X (ix_tb_at tb_law 535 rfl) rfl rfl (pc1 := 910) rfl ?_
  refine ix_iconst (v := 2) X (ix_tb_at tb_law 536 rfl) (by decide) (pc1 := 911) rfl ?_
  refine ix_iadd X (ix_tb_at tb_law 537 rfl) (pc1 := 912) rfl ?_
  obtain ⟨k_266, h⟩ := ix_ck_some h
  refine ix_sld X hX hbl hbN k_266 (ix_tb_at tb_law 538 rfl) (pc1 := 913) rfl ?_
  obtain ⟨k_269, h⟩ := ix_ck_some h
  obtain ⟨r_270, d_267, h_268, h⟩ := ix_bd2_ex h
  refine ix_callV (As := [.int (xs (ix_n (x3 + 1))), .int (xs (ix_n (x3 + 2)))]) (rest := []) (ci := 10) (T := TX11) (nf := 18) X mf_X11_ask mi_X11_ask ms_X11_ask rfl (Nat.le_of_ble_eq_true rfl) ml_R_law_99 ⟨Nat.le_of_ble_eq_true rfl, Nat.le_of_ble_eq_true rfl⟩ ⟨Nat.le_trans (by omega) hkc, Nat.le_trans (by omega) hns⟩ rfl (Nat.le_of_ble_eq_true rfl) (ix_tb_at tb_law 539 rfl) ⟨k_269.1, List.mem_singleton.mp k_269.2⟩ (c_X11_ask hKp h_268) rfl (pc1 := 916) rfl ?_
  refine ix_aload_n (i := 2) (j := 2) X (ix_tb_at tb_law 540 rfl) rfl rfl (pc1 := 917) rfl ?_
  refine ix_aload_n (i := 0) (j := 0) X (ix_tb_at tb_law 541 rfl) rfl rfl (pc1 := 918) rfl ?_
  refine ix_iload_n (i := 3) (j := 3) X (ix_tb_at tb_law 542 rfl) rfl rfl (pc1 := 919) rfl ?_
  refine ix_iconst (v := 1) X (ix_tb_at tb_law 543 rfl) (by decide) (pc1 := 920) rfl ?_
  refine ix_iadd X (ix_tb_at tb_law 544 rfl) (pc1 := 921) rfl ?_
  refine ix_sld X hX hbl hbN k_265 (ix_tb_at tb_law 545 rfl) (pc1 := 922) rfl ?_
  refine ix_aload_n (i := 0) (j := 0) X (ix_tb_at tb_law 546 rfl) rfl rfl (pc1 := 923) rfl ?_
  refine ix_iload_n (i := 3) (j := 3) X (ix_tb_at tb_law 547 rfl) rfl rfl (pc1 := 924) rfl ?_
  refine ix_iconst (v := 2) X (ix_tb_at tb_law 548 rfl) (by decide) (pc1 := 925) rfl ?_
  refine ix_iadd X (ix_tb_at tb_law 549 rfl) (pc1 := 926) rfl ?_
  refine ix_sld X hX hbl hbN k_266 (ix_tb_at tb_law 550 rfl) (pc1 := 927) rfl ?_
  obtain ⟨k_273, h⟩ := ix_ck_some h
  obtain ⟨r_274, d_271, h_272, h⟩ := ix_bd2_ex h
  refine ix_callV (As := [.int (xs (ix_n (x3 + 1))), .int (xs (ix_n (x3 + 2)))]) (rest := [.int r_270]) (ci := 11) (T := TX12) (nf := 116) X mf_X12_ask mi_X12_ask ms_X12_ask rfl (Nat.le_of_ble_eq_true rfl) ml_R_law_102 ⟨Nat.le_of_ble_eq_true rfl, Nat.le_of_ble_eq_true rfl⟩ ⟨Nat.le_trans (by omega) hkc, Nat.le_trans (by omega) hns⟩ rfl (Nat.le_of_ble_eq_true rfl) (ix_tb_at tb_law 551 rfl) ⟨k_273.1, List.mem_singleton.mp k_273.2⟩ (c_X12_ask hKp h_272) rfl (pc1 := 930) rfl ?_
  refine ix_icmp_eq (tgt := 1718) X (ix_tb_at tb_law 552 rfl) (by decide) (pc1 := 933) rfl (fun q_275 => ?_) (fun q_275 => ?_)
  · have h := ix_ift q_275 h
    obtain ⟨rfl, rfl⟩ := ix_sm h
    exact ix_widen (by omega) (by omega) kk
  · have h := ix_iff q_275 h
    refine ix_iconst (v := 0) X (ix_tb_at tb_law 553 rfl) (by decide) (pc1 := 934) rfl ?_
    cases h
set_option maxRecDepth 20000 in
theorem t_law_935 {l : Launch} {p : Program} {e : Env} {s : State} {m : MethodId} {below : List Frame} {meth : Method} {c : Code} {K : ix_Cx} {b Ls kc ns : Nat} {xs : Nat → Int32} (hKp : ix_Kp K) (hF : ix_Fc K) (hT : ix_Tc K) (X : ix_X p s m #[Value.ref b] c K code R_law 4) (hX : va_X b Ls xs s s.heap) (hbl : b < s.heap.size) (hbN : ¬ ix_A K b) (hkc : kc + 8 ≤ 600000) (hns : ns + 400 ≤ 7302250) {n : Nat} {z z1 : ix_Z} {a1 a2 : Nat} {x3 : Int32} {d d1 : ix_D2} (h : f_law_935 n Ls xs z a1 a2 x3 d = some (z1, d1)) (kk : ix_G p l e room_1 s m #[Value.ref b] below meth c (lw_Z below #[Value.ref b] s) K 4 (kc + 8) (ns + 400) 1718 [(0, .ref b), (1, .ref (K.2.2.1 + a1)), (2, .ref (K.2.2.1 + a2)), (3, .int x3)] [] (ix_w z1 d1)) : ix_G p l e room_1 s m #[Value.ref b] below meth c (lw_Z below #[Value.ref b] s) K 4 kc ns 935 [(0, .ref b), (1, .ref (K.2.2.1 + a1)), (2, .ref (K.2.2.1 + a2)), (3, .int x3)] [] (ix_w z d) := by
  unfold f_law_935 at h
  refine ix_aload_n (i := 1) (j := 1) X (ix_tb_at tb_law 555 rfl) rfl rfl (pc1 := 936) rfl ?_
  refine ix_aload_n (i := 0) (j := 0) X (ix_tb_at tb_law 556 rfl) rfl rfl (pc1 := 937) rfl ?_
  refine ix_iload_n (i := 3) (j := 3) X (ix_tb_at tb_law 557 rfl) rfl rfl (pc1 := 938) rfl ?_
  refine ix_iconst (v := 1) X (ix_tb_at tb_law 558 rfl) (by decide) (pc1 := 939) rfl ?_
  refine ix_iadd X (ix_tb_at tb_law 559 rfl) (pc1 := 940) rfl ?_
  obtain ⟨k_277, h⟩ := ix_ck_some h
  refine ix_sld X hX hbl hbN k_277 (ix_tb_at tb_law 560 rfl) (pc1 := 941) rfl ?_
  obtain ⟨k_280, h⟩ := ix_ck_some h
  obtain ⟨r_281, d_278, h_279, h⟩ := ix_bd2_ex h
  refine ix_callV (As := [.int (xs (ix_n (x3 + 1)))]) (rest := []) (ci := 10) (T := TX11) (nf := 18) X mf_X11_print mi_X11_print ms_X11_print rfl (Nat.le_of_ble_eq_true rfl) ml_R_law_103 ⟨Nat.le_of_ble_eq_true rfl, Nat.le_of_ble_eq_true rfl⟩ ⟨Nat.le_trans (by omega) hkc, Nat.le_trans (by omega) hns⟩ rfl (Nat.le_of_ble_eq_true rfl) (ix_tb_at tb_law 561 rfl) ⟨k_280.1, List.mem_singleton.mp k_280.2⟩ (c_X11_print hKp hT h_279) rfl (pc1 := 944) rfl ?_
  refine ix_aload_n (i := 2) (j := 2) X (ix_tb_at tb_law 562 rfl) rfl rfl (pc1 := 945) rfl ?_
  refine ix_aload_n (i := 0) (j := 0) X (ix_tb_at tb_law 563 rfl) rfl rfl (pc1 := 946) rfl ?_
  refine ix_iload_n (i := 3) (j := 3) X (ix_tb_at tb_law 564 rfl) rfl rfl (pc1 := 947) rfl ?_
  refine ix_iconst (v := 1) X (ix_tb_at tb_law 565 rfl) (by decide) (pc1 := 948) rfl ?_
  refine ix_iadd X (ix_tb_at tb_law 566 rfl) (pc1 := 949) rfl ?_
  refine ix_sld X hX hbl hbN k_277 (ix_tb_at tb_law 567 rfl) (pc1 := 950) rfl ?_
  obtain ⟨k_284, h⟩ := ix_ck_some h
  obtain ⟨r_285, d_282, h_283, h⟩ := ix_bd2_ex h
  refine ix_callV (As := [.int (xs (ix_n (x3 + 1)))]) (rest := [.int r_281]) (ci := 11) (T := TX12) (nf := 116) X mf_X12_print mi_X12_print ms_X12_print rfl (Nat.le_of_ble_eq_true rfl) ml_R_law_106 ⟨Nat.le_of_ble_eq_true rfl, Nat.le_of_ble_eq_true rfl⟩ ⟨Nat.le_trans (by omega) hkc, Nat.le_trans (by omega) hns⟩ rfl (Nat.le_of_ble_eq_true rfl) (ix_tb_at tb_law 568 rfl) ⟨k_284.1, List.mem_singleton.mp k_284.2⟩ (c_X12_print hKp h_283) rfl (pc1 := 953) rfl ?_
  refine ix_icmp_eq (tgt := 1718) X (ix_tb_at tb_law 569 rfl) (by decide) (pc1 := 956) rfl (fun q_286 => ?_) (fun q_286 => ?_)
  · have h := ix_ift q_286 h
    obtain ⟨rfl, rfl⟩ := ix_sm h
    exact ix_widen (by omega) (by omega) kk
  · have h := ix_iff q_286 h
    refine ix_iconst (v := 0) X (ix_tb_at tb_law 570 rfl) (by decide) (pc1 := 957) rfl ?_
    cases h
set_option maxRecDepth 20000 in
theorem t_law_958 {l : Launch} {p : Program} {e : Env} {s : State} {m : MethodId} {below : List Frame} {meth : Method} {c : Code} {K : ix_Cx} {b Ls kc ns : Nat} {xs : Nat → Int32} (hKp : ix_Kp K) (hF : ix_Fc K) (hT : ix_Tc K) (X : ix_X p s m #[Value.ref b] c K code R_law 4) (hX : va_X b Ls xs s s.heap) (hbl : b < s.heap.size) (hbN : ¬ ix_A K b) (hkc : kc + 8 ≤ 600000) (hns : ns + 400 ≤ 7302250) {n : Nat} {z z1 : ix_Z} {a1 a2 : Nat} {x3 : Int32} {d d1 : ix_D2} (h : f_law_958 n Ls xs z a1 a2 x3 d = some (z1, d1)) (kk : ix_G p l e room_1 s m #[Value.ref b] below meth c (lw_Z below #[Value.ref b] s) K 4 (kc + 8) (ns + 400) 1718 [(0, .ref b), (1, .ref (K.2.2.1 + a1)), (2, .ref (K.2.2.1 + a2)), (3, .int x3)] [] (ix_w z1 d1)) : ix_G p l e room_1 s m #[Value.ref b] below meth c (lw_Z below #[Value.ref b] s) K 4 kc ns 958 [(0, .ref b), (1, .ref (K.2.2.1 + a1)), (2, .ref (K.2.2.1 + a2)), (3, .int x3)] [] (ix_w z d) := by
  unfold f_law_958 at h
  refine ix_aload_n (i := 1) (j := 1) X (ix_tb_at tb_law 572 rfl) rfl rfl (pc1 := 959) rfl ?_
  obtain ⟨k_290, h⟩ := ix_ck_some h
  obtain ⟨r_291, d_288, h_289, h⟩ := ix_bd2_ex h
  refine ix_callV (As := []) (rest := []) (ci := 10) (T := TX11) (nf := 18) X mf_X11_export mi_X11_export ms_X11_export rfl (Nat.le_of_ble_eq_true rfl) ml_R_law_107 ⟨Nat.le_of_ble_eq_true rfl, Nat.le_of_ble_eq_true rfl⟩ ⟨Nat.le_trans (by omega) hkc, Nat.le_trans (by omega) hns⟩ rfl (Nat.le_of_ble_eq_true rfl) (ix_tb_at tb_law 573 rfl) ⟨k_290.1, List.mem_singleton.mp k_290.2⟩ (c_X11_export hKp h_289) rfl (pc1 := 962) rfl ?_
  refine ix_aload_n (i := 2) (j := 2) X (ix_tb_at tb_law 574 rfl) rfl rfl (pc1 := 963) rfl ?_
  obtain ⟨k_294, h⟩ := ix_ck_some h
  obtain ⟨r_295, d_292, h_293, h⟩ := ix_bd2_ex h
  refine ix_callV (As := []) (rest := [.int r_291]) (ci := 11) (T := TX12) (nf := 116) X mf_X12_export mi_X12_export ms_X12_export rfl (Nat.le_of_ble_eq_true rfl) ml_R_law_110 ⟨Nat.le_of_ble_eq_true rfl, Nat.le_of_ble_eq_true rfl⟩ ⟨Nat.le_trans (by omega) hkc, Nat.le_trans (by omega) hns⟩ rfl (Nat.le_of_ble_eq_true rfl) (ix_tb_at tb_law 575 rfl) ⟨k_294.1, List.mem_singleton.mp k_294.2⟩ (c_X12_export hKp h_293) rfl (pc1 := 966) rfl ?_
  refine ix_icmp_eq (tgt := 1718) X (ix_tb_at tb_law 576 rfl) (by decide) (pc1 := 969) rfl (fun q_296 => ?_) (fun q_296 => ?_)
  · have h := ix_ift q_296 h
    obtain ⟨rfl, rfl⟩ := ix_sm h
    exact ix_widen (by omega) (by omega) kk
  · have h := ix_iff q_296 h
    refine ix_iconst (v := 0) X (ix_tb_at tb_law 577 rfl) (by decide) (pc1 := 970) rfl ?_
    cases h
set_option maxRecDepth 20000 in
theorem t_law_971 {l : Launch} {p : Program} {e : Env} {s : State} {m : MethodId} {below : List Frame} {meth : Method} {c : Code} {K : ix_Cx} {b Ls kc ns : Nat} {xs : Nat → Int32} (hKp : ix_Kp K) (hF : ix_Fc K) (hT : ix_Tc K) (X : ix_X p s m #[Value.ref b] c K code R_law 4) (hX : va_X b Ls xs s s.heap) (hbl : b < s.heap.size) (hbN : ¬ ix_A K b) (hkc : kc + 8 ≤ 600000) (hns : ns + 400 ≤ 7302250) {n : Nat} {z z1 : ix_Z} {a1 a2 : Nat} {x3 : Int32} {d d1 : ix_D2} (h : f_law_971 n Ls xs z a1 a2 x3 d = some (z1, d1)) (kk : ix_G p l e room_1 s m #[Value.ref b] below meth c (lw_Z below #[Value.ref b] s) K 4 (kc + 8) (ns + 400) 1718 [(0, .ref b), (1, .ref (K.2.2.1 + a1)), (2, .ref (K.2.2.1 + a2)), (3, .int x3)] [] (ix_w z1 d1)) : ix_G p l e room_1 s m #[Value.ref b] below meth c (lw_Z below #[Value.ref b] s) K 4 kc ns 971 [(0, .ref b), (1, .ref (K.2.2.1 + a1)), (2, .ref (K.2.2.1 + a2)), (3, .int x3)] [] (ix_w z d) := by
  unfold f_law_971 at h
  refine ix_aload_n (i := 1) (j := 1) X (ix_tb_at tb_law 579 rfl) rfl rfl (pc1 := 972) rfl ?_
  refine ix_aload_n (i := 0) (j := 0) X (ix_tb_at tb_law 580 rfl) rfl rfl (pc1 := 973) rfl ?_
  refine ix_iload_n (i := 3) (j := 3) X (ix_tb_at tb_law 581 rfl) rfl rfl (pc1 := 974) rfl ?_
  refine ix_iconst (v := 1) X (ix_tb_at tb_law 582 rfl) (by decide) (pc1 := 975) rfl ?_
  refine ix_iadd X (ix_tb_at tb_law 583 rfl) (pc1 := 976) rfl ?_
  obtain ⟨k_298, h⟩ := ix_ck_some h
  refine ix_sld X hX hbl hbN k_298 (ix_tb_at tb_law 584 rfl) (pc1 := 977) rfl ?_
  obtain ⟨k_301, h⟩ := ix_ck_some h
  obtain ⟨r_302, d_299, h_300, h⟩ := ix_bd2_ex h
  refine ix_callV (As := [.int (xs (ix_n (x3 + 1)))]) (rest := []) (ci := 10) (T := TX11) (nf := 18) X mf_X11_out mi_X11_out ms_X11_out rfl (Nat.le_of_ble_eq_true rfl) ml_R_law_111 ⟨Nat.le_of_ble_eq_true rfl, Nat.le_of_ble_eq_true rfl⟩ ⟨Nat.le_trans (by omega) hkc, Nat.le_trans (by omega) hns⟩ rfl (Nat.le_of_ble_eq_true rfl) (ix_tb_at tb_law 585 rfl) ⟨k_301.1, List.mem_singleton.mp k_301.2⟩ (c_X11_out hKp h_300) rfl (pc1 := 980) rfl ?_
  refine ix_aload_n (i := 2) (j := 2) X (ix_tb_at tb_law 586 rfl) rfl rfl (pc1 := 981) rfl ?_
  refine ix_aload_n (i := 0) (j := 0) X (ix_tb_at tb_law 587 rfl) rfl rfl (pc1 := 982) rfl ?_
  refine ix_iload_n (i := 3) (j := 3) X (ix_tb_at tb_law 588 rfl) rfl rfl (pc1 := 983) rfl ?_
  refine ix_iconst (v := 1) X (ix_tb_at tb_law 589 rfl) (by decide) (pc1 := 984) rfl ?_
  refine ix_iadd X (ix_tb_at tb_law 590 rfl) (pc1 := 985) rfl ?_
  refine ix_sld X hX hbl hbN k_298 (ix_tb_at tb_law 591 rfl) (pc1 := 986) rfl ?_
  obtain ⟨k_305, h⟩ := ix_ck_some h
  obtain ⟨r_306, d_303, h_304, h⟩ := ix_bd2_ex h
  refine ix_callV (As := [.int (xs (ix_n (x3 + 1)))]) (rest := [.int r_302]) (ci := 11) (T := TX12) (nf := 116) X mf_X12_out mi_X12_out ms_X12_out rfl (Nat.le_of_ble_eq_true rfl) ml_R_law_114 ⟨Nat.le_of_ble_eq_true rfl, Nat.le_of_ble_eq_true rfl⟩ ⟨Nat.le_trans (by omega) hkc, Nat.le_trans (by omega) hns⟩ rfl (Nat.le_of_ble_eq_true rfl) (ix_tb_at tb_law 592 rfl) ⟨k_305.1, List.mem_singleton.mp k_305.2⟩ (c_X12_out hKp h_304) rfl (pc1 := 989) rfl ?_
  refine ix_icmp_eq (tgt := 1718) X (ix_tb_at tb_law 593 rfl) (by decide) (pc1 := 992) rfl (fun q_307 => ?_) (fun q_307 => ?_)
  · have h := ix_ift q_307 h
    obtain ⟨rfl, rfl⟩ := ix_sm h
    exact ix_widen (by omega) (by omega) kk
  · have h := ix_iff q_307 h
    refine ix_iconst (v := 0) X (ix_tb_at tb_law 594 rfl) (by decide) (pc1 := 993) rfl ?_
    cases h
set_option maxRecDepth 20000 in
theorem t_law_994 {l : Launch} {p : Program} {e : Env} {s : State} {m : MethodId} {below : List Frame} {meth : Method} {c : Code} {K : ix_Cx} {b Ls kc ns : Nat} {xs : Nat → Int32} (hKp : ix_Kp K) (hF : ix_Fc K) (hT : ix_Tc K) (X : ix_X p s m #[Value.ref b] c K code R_law 4) (hX : va_X b Ls xs s s.heap) (hbl : b < s.heap.size) (hbN : ¬ ix_A K b) (hkc : kc + 8 ≤ 600000) (hns : ns + 400 ≤ 7302250) {n : Nat} {z z1 : ix_Z} {a1 a2 : Nat} {x3 : Int32} {d d1 : ix_D2} (h : f_law_994 n Ls xs z a1 a2 x3 d = some (z1, d1)) (kk : ix_G p l e room_1 s m #[Value.ref b] below meth c (lw_Z below #[Value.ref b] s) K 4 (kc + 8) (ns + 400) 1718 [(0, .ref b), (1, .ref (K.2.2.1 + a1)), (2, .ref (K.2.2.1 + a2)), (3, .int x3)] [] (ix_w z1 d1)) : ix_G p l e room_1 s m #[Value.ref b] below meth c (lw_Z below #[Value.ref b] s) K 4 kc ns 994 [(0, .ref b), (1, .ref (K.2.2.1 + a1)), (2, .ref (K.2.2.1 + a2)), (3, .int x3)] [] (ix_w z d) := by
  unfold f_law_994 at h
  refine ix_aload_n (i := 1) (j := 1) X (ix_tb_at tb_law 596 rfl) rfl rfl (pc1 := 995) rfl ?_
  refine ix_aload_n (i := 0) (j := 0) X (ix_tb_at tb_law 597 rfl) rfl rfl (pc1 := 996) rfl ?_
  refine ix_iload_n (i := 3) (j := 3) X (ix_tb_at tb_law 598 rfl) rfl rfl (pc1 := 997) rfl ?_
  refine ix_iconst (v := 1) X (ix_tb_at tb_law 599 rfl) (by decide) (pc1 := 998) rfl ?_
  refine ix_iadd X (ix_tb_at tb_law 600 rfl) (pc1 := 999) rfl ?_
  obtain ⟨k_309, h⟩ := ix_ck_some h
  refine ix_sld X hX hbl hbN k_309 (ix_tb_at tb_law 601 rfl) (pc1 := 1000) rfl ?_
  obtain ⟨k_312, h⟩ := ix_ck_some h
  obtain ⟨r_313, d_310, h_311, h⟩ := ix_bd2_ex h
  refine ix_callV (As := [.int (xs (ix_n (x3 + 1)))]) (rest := []) (ci := 10) (T := TX11) (nf := 18) X mf_X11_assume mi_X11_assume ms_X11_assume rfl (Nat.le_of_ble_eq_true rfl) ml_R_law_115 ⟨Nat.le_of_ble_eq_true rfl, Nat.le_of_ble_eq_true rfl⟩ ⟨Nat.le_trans (by omega) hkc, Nat.le_trans (by omega) hns⟩ rfl (Nat.le_of_ble_eq_true rfl) (ix_tb_at tb_law 602 rfl) ⟨k_312.1, List.mem_singleton.mp k_312.2⟩ (c_X11_assume hKp h_311) rfl (pc1 := 1003) rfl ?_
  refine ix_aload_n (i := 2) (j := 2) X (ix_tb_at tb_law 603 rfl) rfl rfl (pc1 := 1004) rfl ?_
  refine ix_aload_n (i := 0) (j := 0) X (ix_tb_at tb_law 604 rfl) rfl rfl (pc1 := 1005) rfl ?_
  refine ix_iload_n (i := 3) (j := 3) X (ix_tb_at tb_law 605 rfl) rfl rfl (pc1 := 1006) rfl ?_
  refine ix_iconst (v := 1) X (ix_tb_at tb_law 606 rfl) (by decide) (pc1 := 1007) rfl ?_
  refine ix_iadd X (ix_tb_at tb_law 607 rfl) (pc1 := 1008) rfl ?_
  refine ix_sld X hX hbl hbN k_309 (ix_tb_at tb_law 608 rfl) (pc1 := 1009) rfl ?_
  obtain ⟨k_316, h⟩ := ix_ck_some h
  obtain ⟨r_317, d_314, h_315, h⟩ := ix_bd2_ex h
  refine ix_callV (As := [.int (xs (ix_n (x3 + 1)))]) (rest := [.int r_313]) (ci := 11) (T := TX12) (nf := 116) X mf_X12_assume mi_X12_assume ms_X12_assume rfl (Nat.le_of_ble_eq_true rfl) ml_R_law_118 ⟨Nat.le_of_ble_eq_true rfl, Nat.le_of_ble_eq_true rfl⟩ ⟨Nat.le_trans (by omega) hkc, Nat.le_trans (by omega) hns⟩ rfl (Nat.le_of_ble_eq_true rfl) (ix_tb_at tb_law 609 rfl) ⟨k_316.1, List.mem_singleton.mp k_316.2⟩ (c_X12_assume hKp h_315) rfl (pc1 := 1012) rfl ?_
  refine ix_icmp_eq (tgt := 1718) X (ix_tb_at tb_law 610 rfl) (by decide) (pc1 := 1015) rfl (fun q_318 => ?_) (fun q_318 => ?_)
  · have h := ix_ift q_318 h
    obtain ⟨rfl, rfl⟩ := ix_sm h
    exact ix_widen (by omega) (by omega) kk
  · have h := ix_iff q_318 h
    refine ix_iconst (v := 0) X (ix_tb_at tb_law 611 rfl) (by decide) (pc1 := 1016) rfl ?_
    cases h
set_option maxRecDepth 20000 in
theorem t_law_1017 {l : Launch} {p : Program} {e : Env} {s : State} {m : MethodId} {below : List Frame} {meth : Method} {c : Code} {K : ix_Cx} {b Ls kc ns : Nat} {xs : Nat → Int32} (hKp : ix_Kp K) (hF : ix_Fc K) (hT : ix_Tc K) (X : ix_X p s m #[Value.ref b] c K code R_law 4) (hX : va_X b Ls xs s s.heap) (hbl : b < s.heap.size) (hbN : ¬ ix_A K b) (hkc : kc + 8 ≤ 600000) (hns : ns + 400 ≤ 7302250) {n : Nat} {z z1 : ix_Z} {a1 a2 : Nat} {x3 : Int32} {d d1 : ix_D2} (h : f_law_1017 n Ls xs z a1 a2 x3 d = some (z1, d1)) (kk : ix_G p l e room_1 s m #[Value.ref b] below meth c (lw_Z below #[Value.ref b] s) K 4 (kc + 8) (ns + 400) 1718 [(0, .ref b), (1, .ref (K.2.2.1 + a1)), (2, .ref (K.2.2.1 + a2)), (3, .int x3)] [] (ix_w z1 d1)) : ix_G p l e room_1 s m #[Value.ref b] below meth c (lw_Z below #[Value.ref b] s) K 4 kc ns 1017 [(0, .ref b), (1, .ref (K.2.2.1 + a1)), (2, .ref (K.2.2.1 + a2)), (3, .int x3)] [] (ix_w z d) := by
  unfold f_law_1017 at h
  refine ix_aload_n (i := 1) (j := 1) X (ix_tb_at tb_law 613 rfl) rfl rfl (pc1 := 1018) rfl ?_
  obtain ⟨k_322, h⟩ := ix_ck_some h
  obtain ⟨r_323, d_320, h_321, h⟩ := ix_bd2_ex h
  refine ix_callV (As := []) (rest := []) (ci := 10) (T := TX11) (nf := 18) X mf_X11_free mi_X11_free ms_X11_free rfl (Nat.le_of_ble_eq_true rfl) ml_R_law_119 ⟨Nat.le_of_ble_eq_true rfl, Nat.le_of_ble_eq_true rfl⟩ ⟨Nat.le_trans (by omega) hkc, Nat.le_trans (by omega) hns⟩ rfl (Nat.le_of_ble_eq_true rfl) (ix_tb_at tb_law 614 rfl) ⟨k_322.1, List.mem_singleton.mp k_322.2⟩ (c_X11_free hKp h_321) rfl (pc1 := 1021) rfl ?_
  refine ix_aload_n (i := 2) (j := 2) X (ix_tb_at tb_law 615 rfl) rfl rfl (pc1 := 1022) rfl ?_
  obtain ⟨k_326, h⟩ := ix_ck_some h
  obtain ⟨r_327, d_324, h_325, h⟩ := ix_bd2_ex h
  refine ix_callV (As := []) (rest := [.int r_323]) (ci := 11) (T := TX12) (nf := 116) X mf_X12_free mi_X12_free ms_X12_free rfl (Nat.le_of_ble_eq_true rfl) ml_R_law_122 ⟨Nat.le_of_ble_eq_true rfl, Nat.le_of_ble_eq_true rfl⟩ ⟨Nat.le_trans (by omega) hkc, Nat.le_trans (by omega) hns⟩ rfl (Nat.le_of_ble_eq_true rfl) (ix_tb_at tb_law 616 rfl) ⟨k_326.1, List.mem_singleton.mp k_326.2⟩ (c_X12_free hKp h_325) rfl (pc1 := 1025) rfl ?_
  refine ix_icmp_eq (tgt := 1718) X (ix_tb_at tb_law 617 rfl) (by decide) (pc1 := 1028) rfl (fun q_328 => ?_) (fun q_328 => ?_)
  · have h := ix_ift q_328 h
    obtain ⟨rfl, rfl⟩ := ix_sm h
    exact ix_widen (by omega) (by omega) kk
  · have h := ix_iff q_328 h
    refine ix_iconst (v := 0) X (ix_tb_at tb_law 618 rfl) (by decide) (pc1 := 1029) rfl ?_
    cases h
set_option maxRecDepth 20000 in
theorem t_law_1030 {l : Launch} {p : Program} {e : Env} {s : State} {m : MethodId} {below : List Frame} {meth : Method} {c : Code} {K : ix_Cx} {b Ls kc ns : Nat} {xs : Nat → Int32} (hKp : ix_Kp K) (hF : ix_Fc K) (hT : ix_Tc K) (X : ix_X p s m #[Value.ref b] c K code R_law 4) (hX : va_X b Ls xs s s.heap) (hbl : b < s.heap.size) (hbN : ¬ ix_A K b) (hkc : kc + 8 ≤ 600000) (hns : ns + 400 ≤ 7302250) {n : Nat} {z z1 : ix_Z} {a1 a2 : Nat} {x3 : Int32} {d d1 : ix_D2} (h : f_law_1030 n Ls xs z a1 a2 x3 d = some (z1, d1)) (kk : ix_G p l e room_1 s m #[Value.ref b] below meth c (lw_Z below #[Value.ref b] s) K 4 (kc + 8) (ns + 400) 1718 [(0, .ref b), (1, .ref (K.2.2.1 + a1)), (2, .ref (K.2.2.1 + a2)), (3, .int x3)] [] (ix_w z1 d1)) : ix_G p l e room_1 s m #[Value.ref b] below meth c (lw_Z below #[Value.ref b] s) K 4 kc ns 1030 [(0, .ref b), (1, .ref (K.2.2.1 + a1)), (2, .ref (K.2.2.1 + a2)), (3, .int x3)] [] (ix_w z d) := by
  unfold f_law_1030 at h
  refine ix_aload_n (i := 1) (j := 1) X (ix_tb_at tb_law 620 rfl) rfl rfl (pc1 := 1031) rfl ?_
  refine ix_aload_n (i := 0) (j := 0) X (ix_tb_at tb_law 621 rfl) rfl rfl (pc1 := 1032) rfl ?_
  refine ix_iload_n (i := 3) (j := 3) X (ix_tb_at tb_law 622 rfl) rfl rfl (pc1 := 1033) rfl ?_
  refine ix_iconst (v := 1) X (ix_tb_at tb_law 623 rfl) (by decide) (pc1 := 1034) rfl ?_
  refine ix_iadd X (ix_tb_at tb_law 624 rfl) (pc1 := 1035) rfl ?_
  obtain ⟨k_330, h⟩ := ix_ck_some h
  refine ix_sld X hX hbl hbN k_330 (ix_tb_at tb_law 625 rfl) (pc1 := 1036) rfl ?_
  refine ix_aload_n (i := 0) (j := 0) X (ix_tb_at tb_law 626 rfl) rfl rfl (pc1 := 1037) rfl ?_
  refine ix_iload_n (i := 3) (j := 3) X (ix_tb_at tb_law 627 rfl) rfl rfl (pc1 := 1038) rfl ?_
  refine ix_iconst (v := 2) X (ix_tb_at tb_law 628 rfl) (by decide) (pc1 := 1039) rfl ?_
  refine ix_iadd X (ix_tb_at tb_law 629 rfl) (pc1 := 1040) rfl ?_
  obtain ⟨k_331, h⟩ := ix_ck_some h
  refine ix_sld X hX hbl hbN k_331 (ix_tb_at tb_law 630 rfl) (pc1 := 1041) rfl ?_
  obtain ⟨k_334, h⟩ := ix_ck_some h
  obtain ⟨r_335, d_332, h_333, h⟩ := ix_bd2_ex h
  refine ix_callV (As := [.int (xs (ix_n (x3 + 1))), .int (xs (ix_n (x3 + 2)))]) (rest := []) (ci := 10) (T := TX11) (nf := 18) X mf_X11_weight mi_X11_weight ms_X11_weight rfl (Nat.le_of_ble_eq_true rfl) ml_R_law_123 ⟨Nat.le_of_ble_eq_true rfl, Nat.le_of_ble_eq_true rfl⟩ ⟨Nat.le_trans (by omega) hkc, Nat.le_trans (by omega) hns⟩ rfl (Nat.le_of_ble_eq_true rfl) (ix_tb_at tb_law 631 rfl) ⟨k_334.1, List.mem_singleton.mp k_334.2⟩ (c_X11_weight hKp h_333) rfl (pc1 := 1044) rfl ?_
  refine ix_aload_n (i := 2) (j := 2) X (ix_tb_at tb_law 632 rfl) rfl rfl (pc1 := 1045) rfl ?_
  refine ix_aload_n (i := 0) (j := 0) X (ix_tb_at tb_law 633 rfl) rfl rfl (pc1 := 1046) rfl ?_
  refine ix_iload_n (i := 3) (j := 3) X (ix_tb_at tb_law 634 rfl) rfl rfl (pc1 := 1047) rfl ?_
  refine ix_iconst (v := 1) X (ix_tb_at tb_law 635 rfl) (by decide) (pc1 := 1048) rfl ?_
  refine ix_iadd X (ix_tb_at tb_law 636 rfl) (pc1 := 1049) rfl ?_
  refine ix_sld X hX hbl hbN k_330 (ix_tb_at tb_law 637 rfl) (pc1 := 1050) rfl ?_
  refine ix_aload_n (i := 0) (j := 0) X (ix_tb_at tb_law 638 rfl) rfl rfl (pc1 := 1051) rfl ?_
  refine ix_iload_n (i := 3) (j := 3) X (ix_tb_at tb_law 639 rfl) rfl rfl (pc1 := 1052) rfl ?_
  refine ix_iconst (v := 2) X (ix_tb_at tb_law 640 rfl) (by decide) (pc1 := 1053) rfl ?_
  refine ix_iadd X (ix_tb_at tb_law 641 rfl) (pc1 := 1054) rfl ?_
  refine ix_sld X hX hbl hbN k_331 (ix_tb_at tb_law 642 rfl) (pc1 := 1055) rfl ?_
  obtain ⟨k_338, h⟩ := ix_ck_some h
  obtain ⟨r_339, d_336, h_337, h⟩ := ix_bd2_ex h
  refine ix_callV (As := [.int (xs (ix_n (x3 + 1))), .int (xs (ix_n (x3 + 2)))]) (rest := [.int r_335]) (ci := 11) (T := TX12) (nf := 116) X mf_X12_weight mi_X12_weight ms_X12_weight rfl (Nat.le_of_ble_eq_true rfl) ml_R_law_126 ⟨Nat.le_of_ble_eq_true rfl, Nat.le_of_ble_eq_true rfl⟩ ⟨Nat.le_trans (by omega) hkc, Nat.le_trans (by omega) hns⟩ rfl (Nat.le_of_ble_eq_true rfl) (ix_tb_at tb_law 643 rfl) ⟨k_338.1, List.mem_singleton.mp k_338.2⟩ (c_X12_weight hKp h_337) rfl (pc1 := 1058) rfl ?_
  refine ix_icmp_eq (tgt := 1718) X (ix_tb_at tb_law 644 rfl) (by decide) (pc1 := 1061) rfl (fun q_340 => ?_) (fun q_340 => ?_)
  · have h := ix_ift q_340 h
    obtain ⟨rfl, rfl⟩ := ix_sm h
    exact ix_widen (by omega) (by omega) kk
  · have h := ix_iff q_340 h
    refine ix_iconst (v := 0) X (ix_tb_at tb_law 645 rfl) (by decide) (pc1 := 1062) rfl ?_
    cases h
set_option maxRecDepth 20000 in
theorem t_law_1063 {l : Launch} {p : Program} {e : Env} {s : State} {m : MethodId} {below : List Frame} {meth : Method} {c : Code} {K : ix_Cx} {b Ls kc ns : Nat} {xs : Nat → Int32} (hKp : ix_Kp K) (hF : ix_Fc K) (hT : ix_Tc K) (X : ix_X p s m #[Value.ref b] c K code R_law 4) (hX : va_X b Ls xs s s.heap) (hbl : b < s.heap.size) (hbN : ¬ ix_A K b) (hkc : kc + 8 ≤ 600000) (hns : ns + 400 ≤ 7302250) {n : Nat} {z z1 : ix_Z} {a1 a2 : Nat} {x3 : Int32} {d d1 : ix_D2} (h : f_law_1063 n Ls xs z a1 a2 x3 d = some (z1, d1)) (kk : ix_G p l e room_1 s m #[Value.ref b] below meth c (lw_Z below #[Value.ref b] s) K 4 (kc + 8) (ns + 400) 1718 [(0, .ref b), (1, .ref (K.2.2.1 + a1)), (2, .ref (K.2.2.1 + a2)), (3, .int x3)] [] (ix_w z1 d1)) : ix_G p l e room_1 s m #[Value.ref b] below meth c (lw_Z below #[Value.ref b] s) K 4 kc ns 1063 [(0, .ref b), (1, .ref (K.2.2.1 + a1)), (2, .ref (K.2.2.1 + a2)), (3, .int x3)] [] (ix_w z d) := by
  unfold f_law_1063 at h
  refine ix_aload_n (i := 1) (j := 1) X (ix_tb_at tb_law 647 rfl) rfl rfl (pc1 := 1064) rfl ?_
  refine ix_aload_n (i := 0) (j := 0) X (ix_tb_at tb_law 648 rfl) rfl rfl (pc1 := 1065) rfl ?_
  refine ix_iload_n (i := 3) (j := 3) X (ix_tb_at tb_law 649 rfl) rfl rfl (pc1 := 1066) rfl ?_
  refine ix_iconst (v := 1) X (ix_tb_at tb_law 650 rfl) (by decide) (pc1 := 1067) rfl ?_
  refine ix_iadd X (ix_tb_at tb_law 651 rfl) (pc1 := 1068) rfl ?_
  obtain ⟨k_342, h⟩ := ix_ck_some h
  refine ix_sld X hX hbl hbN k_342 (ix_tb_at tb_law 652 rfl) (pc1 := 1069) rfl ?_
  obtain ⟨k_345, h⟩ := ix_ck_some h
  obtain ⟨r_346, d_343, h_344, h⟩ := ix_bd2_ex h
  refine ix_callV (As := [.int (xs (ix_n (x3 + 1)))]) (rest := []) (ci := 10) (T := TX11) (nf := 18) X mf_X11_weighs mi_X11_weighs ms_X11_weighs rfl (Nat.le_of_ble_eq_true rfl) ml_R_law_127 ⟨Nat.le_of_ble_eq_true rfl, Nat.le_of_ble_eq_true rfl⟩ ⟨Nat.le_trans (by omega) hkc, Nat.le_trans (by omega) hns⟩ rfl (Nat.le_of_ble_eq_true rfl) (ix_tb_at tb_law 653 rfl) ⟨k_345.1, List.mem_singleton.mp k_345.2⟩ (c_X11_weighs hKp h_344) rfl (pc1 := 1072) rfl ?_
  refine ix_aload_n (i := 2) (j := 2) X (ix_tb_at tb_law 654 rfl) rfl rfl (pc1 := 1073) rfl ?_
  refine ix_aload_n (i := 0) (j := 0) X (ix_tb_at tb_law 655 rfl) rfl rfl (pc1 := 1074) rfl ?_
  refine ix_iload_n (i := 3) (j := 3) X (ix_tb_at tb_law 656 rfl) rfl rfl (pc1 := 1075) rfl ?_
  refine ix_iconst (v := 1) X (ix_tb_at tb_law 657 rfl) (by decide) (pc1 := 1076) rfl ?_
  refine ix_iadd X (ix_tb_at tb_law 658 rfl) (pc1 := 1077) rfl ?_
  refine ix_sld X hX hbl hbN k_342 (ix_tb_at tb_law 659 rfl) (pc1 := 1078) rfl ?_
  obtain ⟨k_349, h⟩ := ix_ck_some h
  obtain ⟨r_350, d_347, h_348, h⟩ := ix_bd2_ex h
  refine ix_callV (As := [.int (xs (ix_n (x3 + 1)))]) (rest := [.long r_346]) (ci := 11) (T := TX12) (nf := 116) X mf_X12_weighs mi_X12_weighs ms_X12_weighs rfl (Nat.le_of_ble_eq_true rfl) ml_R_law_131 ⟨Nat.le_of_ble_eq_true rfl, Nat.le_of_ble_eq_true rfl⟩ ⟨Nat.le_trans (by omega) hkc, Nat.le_trans (by omega) hns⟩ rfl (Nat.le_of_ble_eq_true rfl) (ix_tb_at tb_law 660 rfl) ⟨k_349.1, List.mem_singleton.mp k_349.2⟩ (c_X12_weighs hKp h_348) rfl (pc1 := 1081) rfl ?_
  refine ix_lcmp X (ix_tb_at tb_law 661 rfl) (pc1 := 1082) rfl ?_
  refine ix_if_eq (tgt := 1718) X (ix_tb_at tb_law 662 rfl) (by decide) (pc1 := 1085) rfl (fun q_351 => ?_) (fun q_351 => ?_)
  · have h := ix_ift q_351 h
    obtain ⟨rfl, rfl⟩ := ix_sm h
    exact ix_widen (by omega) (by omega) kk
  · have h := ix_iff q_351 h
    refine ix_iconst (v := 0) X (ix_tb_at tb_law 663 rfl) (by decide) (pc1 := 1086) rfl ?_
    cases h
set_option maxRecDepth 20000 in
theorem t_law_1087 {l : Launch} {p : Program} {e : Env} {s : State} {m : MethodId} {below : List Frame} {meth : Method} {c : Code} {K : ix_Cx} {b Ls kc ns : Nat} {xs : Nat → Int32} (hKp : ix_Kp K) (hF : ix_Fc K) (hT : ix_Tc K) (X : ix_X p s m #[Value.ref b] c K code R_law 4) (hX : va_X b Ls xs s s.heap) (hbl : b < s.heap.size) (hbN : ¬ ix_A K b) (hkc : kc + 8 ≤ 600000) (hns : ns + 400 ≤ 7302250) {n : Nat} {z z1 : ix_Z} {a1 a2 : Nat} {x3 : Int32} {d d1 : ix_D2} (h : f_law_1087 n Ls xs z a1 a2 x3 d = some (z1, d1)) (kk : ix_G p l e room_1 s m #[Value.ref b] below meth c (lw_Z below #[Value.ref b] s) K 4 (kc + 8) (ns + 400) 1718 [(0, .ref b), (1, .ref (K.2.2.1 + a1)), (2, .ref (K.2.2.1 + a2)), (3, .int x3)] [] (ix_w z1 d1)) : ix_G p l e room_1 s m #[Value.ref b] below meth c (lw_Z below #[Value.ref b] s) K 4 kc ns 1087 [(0, .ref b), (1, .ref (K.2.2.1 + a1)), (2, .ref (K.2.2.1 + a2)), (3, .int x3)] [] (ix_w z d) := by
  unfold f_law_1087 at h
  refine ix_aload_n (i := 1) (j := 1) X (ix_tb_at tb_law 665 rfl) rfl rfl (pc1 := 1088) rfl ?_
  refine ix_aload_n (i := 0) (j := 0) X (ix_tb_at tb_law 666 rfl) rfl rfl (pc1 := 1089) rfl ?_
  refine ix_iload_n (i := 3) (j := 3) X (ix_tb_at tb_law 667 rfl) rfl rfl (pc1 := 1090) rfl ?_
  refine ix_iconst (v := 1) X (ix_tb_at tb_law 668 rfl) (by decide) (pc1 := 1091) rfl ?_
  refine ix_iadd X (ix_tb_at tb_law 669 rfl) (pc1 := 1092) rfl ?_
  obtain ⟨k_353, h⟩ := ix_ck_some h
  refine ix_sld X hX hbl hbN k_353 (ix_tb_at tb_law 670 rfl) (pc1 := 1093) rfl ?_
  obtain ⟨k_356, h⟩ := ix_ck_some h
  obtain ⟨r_357, d_354, h_355, h⟩ := ix_bd2_ex h
  refine ix_callV (As := [.int (xs (ix_n (x3 + 1)))]) (rest := []) (ci := 10) (T := TX11) (nf := 18) X mf_X11_begin mi_X11_begin ms_X11_begin rfl (Nat.le_of_ble_eq_true rfl) ml_R_law_132 ⟨Nat.le_of_ble_eq_true rfl, Nat.le_of_ble_eq_true rfl⟩ ⟨Nat.le_trans (by omega) hkc, Nat.le_trans (by omega) hns⟩ rfl (Nat.le_of_ble_eq_true rfl) (ix_tb_at tb_law 671 rfl) ⟨k_356.1, List.mem_singleton.mp k_356.2⟩ (c_X11_begin hKp h_355) rfl (pc1 := 1096) rfl ?_
  refine ix_aload_n (i := 2) (j := 2) X (ix_tb_at tb_law 672 rfl) rfl rfl (pc1 := 1097) rfl ?_
  refine ix_aload_n (i := 0) (j := 0) X (ix_tb_at tb_law 673 rfl) rfl rfl (pc1 := 1098) rfl ?_
  refine ix_iload_n (i := 3) (j := 3) X (ix_tb_at tb_law 674 rfl) rfl rfl (pc1 := 1099) rfl ?_
  refine ix_iconst (v := 1) X (ix_tb_at tb_law 675 rfl) (by decide) (pc1 := 1100) rfl ?_
  refine ix_iadd X (ix_tb_at tb_law 676 rfl) (pc1 := 1101) rfl ?_
  refine ix_sld X hX hbl hbN k_353 (ix_tb_at tb_law 677 rfl) (pc1 := 1102) rfl ?_
  obtain ⟨k_360, h⟩ := ix_ck_some h
  obtain ⟨r_361, d_358, h_359, h⟩ := ix_bd2_ex h
  refine ix_callV (As := [.int (xs (ix_n (x3 + 1)))]) (rest := [.int r_357]) (ci := 11) (T := TX12) (nf := 116) X mf_X12_begin mi_X12_begin ms_X12_begin rfl (Nat.le_of_ble_eq_true rfl) ml_R_law_135 ⟨Nat.le_of_ble_eq_true rfl, Nat.le_of_ble_eq_true rfl⟩ ⟨Nat.le_trans (by omega) hkc, Nat.le_trans (by omega) hns⟩ rfl (Nat.le_of_ble_eq_true rfl) (ix_tb_at tb_law 678 rfl) ⟨k_360.1, List.mem_singleton.mp k_360.2⟩ (c_X12_begin hKp h_359) rfl (pc1 := 1105) rfl ?_
  refine ix_icmp_eq (tgt := 1718) X (ix_tb_at tb_law 679 rfl) (by decide) (pc1 := 1108) rfl (fun q_362 => ?_) (fun q_362 => ?_)
  · have h := ix_ift q_362 h
    obtain ⟨rfl, rfl⟩ := ix_sm h
    exact ix_widen (by omega) (by omega) kk
  · have h := ix_iff q_362 h
    refine ix_iconst (v := 0) X (ix_tb_at tb_law 680 rfl) (by decide) (pc1 := 1109) rfl ?_
    cases h
set_option maxRecDepth 20000 in
theorem t_law_1110 {l : Launch} {p : Program} {e : Env} {s : State} {m : MethodId} {below : List Frame} {meth : Method} {c : Code} {K : ix_Cx} {b Ls kc ns : Nat} {xs : Nat → Int32} (hKp : ix_Kp K) (hF : ix_Fc K) (hT : ix_Tc K) (X : ix_X p s m #[Value.ref b] c K code R_law 4) (hX : va_X b Ls xs s s.heap) (hbl : b < s.heap.size) (hbN : ¬ ix_A K b) (hkc : kc + 8 ≤ 600000) (hns : ns + 400 ≤ 7302250) {n : Nat} {z z1 : ix_Z} {a1 a2 : Nat} {x3 : Int32} {d d1 : ix_D2} (h : f_law_1110 n Ls xs z a1 a2 x3 d = some (z1, d1)) (kk : ix_G p l e room_1 s m #[Value.ref b] below meth c (lw_Z below #[Value.ref b] s) K 4 (kc + 8) (ns + 400) 1718 [(0, .ref b), (1, .ref (K.2.2.1 + a1)), (2, .ref (K.2.2.1 + a2)), (3, .int x3)] [] (ix_w z1 d1)) : ix_G p l e room_1 s m #[Value.ref b] below meth c (lw_Z below #[Value.ref b] s) K 4 kc ns 1110 [(0, .ref b), (1, .ref (K.2.2.1 + a1)), (2, .ref (K.2.2.1 + a2)), (3, .int x3)] [] (ix_w z d) := by
  unfold f_law_1110 at h
  refine ix_aload_n (i := 1) (j := 1) X (ix_tb_at tb_law 682 rfl) rfl rfl (pc1 := 1111) rfl ?_
  refine ix_aload_n (i := 0) (j := 0) X (ix_tb_at tb_law 683 rfl) rfl rfl (pc1 := 1112) rfl ?_
  refine ix_iload_n (i := 3) (j := 3) X (ix_tb_at tb_law 684 rfl) rfl rfl (pc1 := 1113) rfl ?_
  refine ix_iconst (v := 1) X (ix_tb_at tb_law 685 rfl) (by decide) (pc1 := 1114) rfl ?_
  refine ix_iadd X (ix_tb_at tb_law 686 rfl) (pc1 := 1115) rfl ?_
  obtain ⟨k_364, h⟩ := ix_ck_some h
  refine ix_sld X hX hbl hbN k_364 (ix_tb_at tb_law 687 rfl) (pc1 := 1116) rfl ?_
  obtain ⟨k_367, h⟩ := ix_ck_some h
  obtain ⟨r_368, d_365, h_366, h⟩ := ix_bd2_ex h
  refine ix_callV (As := [.int (xs (ix_n (x3 + 1)))]) (rest := []) (ci := 10) (T := TX11) (nf := 18) X mf_X11_forget mi_X11_forget ms_X11_forget rfl (Nat.le_of_ble_eq_true rfl) ml_R_law_136 ⟨Nat.le_of_ble_eq_true rfl, Nat.le_of_ble_eq_true rfl⟩ ⟨Nat.le_trans (by omega) hkc, Nat.le_trans (by omega) hns⟩ rfl (Nat.le_of_ble_eq_true rfl) (ix_tb_at tb_law 688 rfl) ⟨k_367.1, List.mem_singleton.mp k_367.2⟩ (c_X11_forget hKp h_366) rfl (pc1 := 1119) rfl ?_
  refine ix_aload_n (i := 2) (j := 2) X (ix_tb_at tb_law 689 rfl) rfl rfl (pc1 := 1120) rfl ?_
  refine ix_aload_n (i := 0) (j := 0) X (ix_tb_at tb_law 690 rfl) rfl rfl (pc1 := 1121) rfl ?_
  refine ix_iload_n (i := 3) (j := 3) X (ix_tb_at tb_law 691 rfl) rfl rfl (pc1 := 1122) rfl ?_
  refine ix_iconst (v := 1) X (ix_tb_at tb_law 692 rfl) (by decide) (pc1 := 1123) rfl ?_
  refine ix_iadd X (ix_tb_at tb_law 693 rfl) (pc1 := 1124) rfl ?_
  refine ix_sld X hX hbl hbN k_364 (ix_tb_at tb_law 694 rfl) (pc1 := 1125) rfl ?_
  obtain ⟨k_371, h⟩ := ix_ck_some h
  obtain ⟨r_372, d_369, h_370, h⟩ := ix_bd2_ex h
  refine ix_callV (As := [.int (xs (ix_n (x3 + 1)))]) (rest := [.int r_368]) (ci := 11) (T := TX12) (nf := 116) X mf_X12_forget mi_X12_forget ms_X12_forget rfl (Nat.le_of_ble_eq_true rfl) ml_R_law_139 ⟨Nat.le_of_ble_eq_true rfl, Nat.le_of_ble_eq_true rfl⟩ ⟨Nat.le_trans (by omega) hkc, Nat.le_trans (by omega) hns⟩ rfl (Nat.le_of_ble_eq_true rfl) (ix_tb_at tb_law 695 rfl) ⟨k_371.1, List.mem_singleton.mp k_371.2⟩ (c_X12_forget hKp h_370) rfl (pc1 := 1128) rfl ?_
  refine ix_icmp_eq (tgt := 1718) X (ix_tb_at tb_law 696 rfl) (by decide) (pc1 := 1131) rfl (fun q_373 => ?_) (fun q_373 => ?_)
  · have h := ix_ift q_373 h
    obtain ⟨rfl, rfl⟩ := ix_sm h
    exact ix_widen (by omega) (by omega) kk
  · have h := ix_iff q_373 h
    refine ix_iconst (v := 0) X (ix_tb_at tb_law 697 rfl) (by decide) (pc1 := 1132) rfl ?_
    cases h
set_option maxRecDepth 20000 in
theorem t_law_1133 {l : Launch} {p : Program} {e : Env} {s : State} {m : MethodId} {below : List Frame} {meth : Method} {c : Code} {K : ix_Cx} {b Ls kc ns : Nat} {xs : Nat → Int32} (hKp : ix_Kp K) (hF : ix_Fc K) (hT : ix_Tc K) (X : ix_X p s m #[Value.ref b] c K code R_law 4) (hX : va_X b Ls xs s s.heap) (hbl : b < s.heap.size) (hbN : ¬ ix_A K b) (hkc : kc + 8 ≤ 600000) (hns : ns + 400 ≤ 7302250) {n : Nat} {z z1 : ix_Z} {a1 a2 : Nat} {x3 : Int32} {d d1 : ix_D2} (h : f_law_1133 n Ls xs z a1 a2 x3 d = some (z1, d1)) (kk : ix_G p l e room_1 s m #[Value.ref b] below meth c (lw_Z below #[Value.ref b] s) K 4 (kc + 8) (ns + 400) 1718 [(0, .ref b), (1, .ref (K.2.2.1 + a1)), (2, .ref (K.2.2.1 + a2)), (3, .int x3)] [] (ix_w z1 d1)) : ix_G p l e room_1 s m #[Value.ref b] below meth c (lw_Z below #[Value.ref b] s) K 4 kc ns 1133 [(0, .ref b), (1, .ref (K.2.2.1 + a1)), (2, .ref (K.2.2.1 + a2)), (3, .int x3)] [] (ix_w z d) := by
  unfold f_law_1133 at h
  refine ix_aload_n (i := 1) (j := 1) X (ix_tb_at tb_law 699 rfl) rfl rfl (pc1 := 1134) rfl ?_
  refine ix_aload_n (i := 0) (j := 0) X (ix_tb_at tb_law 700 rfl) rfl rfl (pc1 := 1135) rfl ?_
  refine ix_iload_n (i := 3) (j := 3) X (ix_tb_at tb_law 701 rfl) rfl rfl (pc1 := 1136) rfl ?_
  refine ix_iconst (v := 1) X (ix_tb_at tb_law 702 rfl) (by decide) (pc1 := 1137) rfl ?_
  refine ix_iadd X (ix_tb_at tb_law 703 rfl) (pc1 := 1138) rfl ?_
  obtain ⟨k_375, h⟩ := ix_ck_some h
  refine ix_sld X hX hbl hbN k_375 (ix_tb_at tb_law 704 rfl) (pc1 := 1139) rfl ?_
  obtain ⟨k_378, h⟩ := ix_ck_some h
  obtain ⟨r_379, d_376, h_377, h⟩ := ix_bd2_ex h
  refine ix_callV (As := [.int (xs (ix_n (x3 + 1)))]) (rest := []) (ci := 10) (T := TX11) (nf := 18) X mf_X11_solve mi_X11_solve ms_X11_solve rfl (Nat.le_of_ble_eq_true rfl) ml_R_law_140 ⟨Nat.le_of_ble_eq_true rfl, Nat.le_of_ble_eq_true rfl⟩ ⟨Nat.le_trans (by omega) hkc, Nat.le_trans (by omega) hns⟩ rfl (Nat.le_of_ble_eq_true rfl) (ix_tb_at tb_law 705 rfl) ⟨k_378.1, List.mem_singleton.mp k_378.2⟩ (c_X11_solve hKp h_377) rfl (pc1 := 1142) rfl ?_
  refine ix_aload_n (i := 2) (j := 2) X (ix_tb_at tb_law 706 rfl) rfl rfl (pc1 := 1143) rfl ?_
  refine ix_aload_n (i := 0) (j := 0) X (ix_tb_at tb_law 707 rfl) rfl rfl (pc1 := 1144) rfl ?_
  refine ix_iload_n (i := 3) (j := 3) X (ix_tb_at tb_law 708 rfl) rfl rfl (pc1 := 1145) rfl ?_
  refine ix_iconst (v := 1) X (ix_tb_at tb_law 709 rfl) (by decide) (pc1 := 1146) rfl ?_
  refine ix_iadd X (ix_tb_at tb_law 710 rfl) (pc1 := 1147) rfl ?_
  refine ix_sld X hX hbl hbN k_375 (ix_tb_at tb_law 711 rfl) (pc1 := 1148) rfl ?_
  obtain ⟨k_382, h⟩ := ix_ck_some h
  obtain ⟨r_383, d_380, h_381, h⟩ := ix_bd2_ex h
  refine ix_callV (As := [.int (xs (ix_n (x3 + 1)))]) (rest := [.int r_379]) (ci := 11) (T := TX12) (nf := 116) X mf_X12_solve mi_X12_solve ms_X12_solve rfl (Nat.le_of_ble_eq_true rfl) ml_R_law_143 ⟨Nat.le_of_ble_eq_true rfl, Nat.le_of_ble_eq_true rfl⟩ ⟨Nat.le_trans (by omega) hkc, Nat.le_trans (by omega) hns⟩ rfl (Nat.le_of_ble_eq_true rfl) (ix_tb_at tb_law 712 rfl) ⟨k_382.1, List.mem_singleton.mp k_382.2⟩ (c_X12_solve hKp h_381) rfl (pc1 := 1151) rfl ?_
  refine ix_icmp_eq (tgt := 1718) X (ix_tb_at tb_law 713 rfl) (by decide) (pc1 := 1154) rfl (fun q_384 => ?_) (fun q_384 => ?_)
  · have h := ix_ift q_384 h
    obtain ⟨rfl, rfl⟩ := ix_sm h
    exact ix_widen (by omega) (by omega) kk
  · have h := ix_iff q_384 h
    refine ix_iconst (v := 0) X (ix_tb_at tb_law 714 rfl) (by decide) (pc1 := 1155) rfl ?_
    cases h
set_option maxRecDepth 20000 in
theorem t_law_1156 {l : Launch} {p : Program} {e : Env} {s : State} {m : MethodId} {below : List Frame} {meth : Method} {c : Code} {K : ix_Cx} {b Ls kc ns : Nat} {xs : Nat → Int32} (hKp : ix_Kp K) (hF : ix_Fc K) (hT : ix_Tc K) (X : ix_X p s m #[Value.ref b] c K code R_law 4) (hX : va_X b Ls xs s s.heap) (hbl : b < s.heap.size) (hbN : ¬ ix_A K b) (hkc : kc + 8 ≤ 600000) (hns : ns + 400 ≤ 7302250) {n : Nat} {z z1 : ix_Z} {a1 a2 : Nat} {x3 : Int32} {d d1 : ix_D2} (h : f_law_1156 n Ls xs z a1 a2 x3 d = some (z1, d1)) (kk : ix_G p l e room_1 s m #[Value.ref b] below meth c (lw_Z below #[Value.ref b] s) K 4 (kc + 8) (ns + 400) 1718 [(0, .ref b), (1, .ref (K.2.2.1 + a1)), (2, .ref (K.2.2.1 + a2)), (3, .int x3)] [] (ix_w z1 d1)) : ix_G p l e room_1 s m #[Value.ref b] below meth c (lw_Z below #[Value.ref b] s) K 4 kc ns 1156 [(0, .ref b), (1, .ref (K.2.2.1 + a1)), (2, .ref (K.2.2.1 + a2)), (3, .int x3)] [] (ix_w z d) := by
  unfold f_law_1156 at h
  refine ix_aload_n (i := 1) (j := 1) X (ix_tb_at tb_law 716 rfl) rfl rfl (pc1 := 1157) rfl ?_
  refine ix_aload_n (i := 0) (j := 0) X (ix_tb_at tb_law 717 rfl) rfl rfl (pc1 := 1158) rfl ?_
  refine ix_iload_n (i := 3) (j := 3) X (ix_tb_at tb_law 718 rfl) rfl rfl (pc1 := 1159) rfl ?_
  refine ix_iconst (v := 1) X (ix_tb_at tb_law 719 rfl) (by decide) (pc1 := 1160) rfl ?_
  refine ix_iadd X (ix_tb_at tb_law 720 rfl) (pc1 := 1161) rfl ?_
  obtain ⟨k_386, h⟩ := ix_ck_some h
  refine ix_sld X hX hbl hbN k_386 (ix_tb_at tb_law 721 rfl) (pc1 := 1162) rfl ?_
  obtain ⟨k_389, h⟩ := ix_ck_some h
  obtain ⟨r_390, d_387, h_388, h⟩ := ix_bd2_ex h
  refine ix_callV (As := [.int (xs (ix_n (x3 + 1)))]) (rest := []) (ci := 10) (T := TX11) (nf := 18) X mf_X11_goOn mi_X11_goOn ms_X11_goOn rfl (Nat.le_of_ble_eq_true rfl) ml_R_law_144 ⟨Nat.le_of_ble_eq_true rfl, Nat.le_of_ble_eq_true rfl⟩ ⟨Nat.le_trans (by omega) hkc, Nat.le_trans (by omega) hns⟩ rfl (Nat.le_of_ble_eq_true rfl) (ix_tb_at tb_law 722 rfl) ⟨k_389.1, List.mem_singleton.mp k_389.2⟩ (c_X11_goOn hKp h_388) rfl (pc1 := 1165) rfl ?_
  refine ix_aload_n (i := 2) (j := 2) X (ix_tb_at tb_law 723 rfl) rfl rfl (pc1 := 1166) rfl ?_
  refine ix_aload_n (i := 0) (j := 0) X (ix_tb_at tb_law 724 rfl) rfl rfl (pc1 := 1167) rfl ?_
  refine ix_iload_n (i := 3) (j := 3) X (ix_tb_at tb_law 725 rfl) rfl rfl (pc1 := 1168) rfl ?_
  refine ix_iconst (v := 1) X (ix_tb_at tb_law 726 rfl) (by decide) (pc1 := 1169) rfl ?_
  refine ix_iadd X (ix_tb_at tb_law 727 rfl) (pc1 := 1170) rfl ?_
  refine ix_sld X hX hbl hbN k_386 (ix_tb_at tb_law 728 rfl) (pc1 := 1171) rfl ?_
  obtain ⟨k_393, h⟩ := ix_ck_some h
  obtain ⟨r_394, d_391, h_392, h⟩ := ix_bd2_ex h
  refine ix_callV (As := [.int (xs (ix_n (x3 + 1)))]) (rest := [.int r_390]) (ci := 11) (T := TX12) (nf := 116) X mf_X12_goOn mi_X12_goOn ms_X12_goOn rfl (Nat.le_of_ble_eq_true rfl) ml_R_law_147 ⟨Nat.le_of_ble_eq_true rfl, Nat.le_of_ble_eq_true rfl⟩ ⟨Nat.le_trans (by omega) hkc, Nat.le_trans (by omega) hns⟩ rfl (Nat.le_of_ble_eq_true rfl) (ix_tb_at tb_law 729 rfl) ⟨k_393.1, List.mem_singleton.mp k_393.2⟩ (c_X12_goOn hKp h_392) rfl (pc1 := 1174) rfl ?_
  refine ix_icmp_eq (tgt := 1718) X (ix_tb_at tb_law 730 rfl) (by decide) (pc1 := 1177) rfl (fun q_395 => ?_) (fun q_395 => ?_)
  · have h := ix_ift q_395 h
    obtain ⟨rfl, rfl⟩ := ix_sm h
    exact ix_widen (by omega) (by omega) kk
  · have h := ix_iff q_395 h
    refine ix_iconst (v := 0) X (ix_tb_at tb_law 731 rfl) (by decide) (pc1 := 1178) rfl ?_
    cases h
set_option maxRecDepth 20000 in
theorem t_law_1179 {l : Launch} {p : Program} {e : Env} {s : State} {m : MethodId} {below : List Frame} {meth : Method} {c : Code} {K : ix_Cx} {b Ls kc ns : Nat} {xs : Nat → Int32} (hKp : ix_Kp K) (hF : ix_Fc K) (hT : ix_Tc K) (X : ix_X p s m #[Value.ref b] c K code R_law 4) (hX : va_X b Ls xs s s.heap) (hbl : b < s.heap.size) (hbN : ¬ ix_A K b) (hkc : kc + 8 ≤ 600000) (hns : ns + 400 ≤ 7302250) {n : Nat} {z z1 : ix_Z} {a1 a2 : Nat} {x3 : Int32} {d d1 : ix_D2} (h : f_law_1179 n Ls xs z a1 a2 x3 d = some (z1, d1)) (kk : ix_G p l e room_1 s m #[Value.ref b] below meth c (lw_Z below #[Value.ref b] s) K 4 (kc + 8) (ns + 400) 1718 [(0, .ref b), (1, .ref (K.2.2.1 + a1)), (2, .ref (K.2.2.1 + a2)), (3, .int x3)] [] (ix_w z1 d1)) : ix_G p l e room_1 s m #[Value.ref b] below meth c (lw_Z below #[Value.ref b] s) K 4 kc ns 1179 [(0, .ref b), (1, .ref (K.2.2.1 + a1)), (2, .ref (K.2.2.1 + a2)), (3, .int x3)] [] (ix_w z d) := by
  unfold f_law_1179 at h
  refine ix_aload_n (i := 1) (j := 1) X (ix_tb_at tb_law 733 rfl) rfl rfl (pc1 := 1180) rfl ?_
  refine ix_aload_n (i := 0) (j := 0) X (ix_tb_at tb_law 734 rfl) rfl rfl (pc1 := 1181) rfl ?_
  refine ix_iload_n (i := 3) (j := 3) X (ix_tb_at tb_law 735 rfl) rfl rfl (pc1 := 1182) rfl ?_
  refine ix_iconst (v := 1) X (ix_tb_at tb_law 736 rfl) (by decide) (pc1 := 1183) rfl ?_
  refine ix_iadd X (ix_tb_at tb_law 737 rfl) (pc1 := 1184) rfl ?_
  obtain ⟨k_397, h⟩ := ix_ck_some h
  refine ix_sld X hX hbl hbN k_397 (ix_tb_at tb_law 738 rfl) (pc1 := 1185) rfl ?_
  obtain ⟨k_400, h⟩ := ix_ck_some h
  obtain ⟨r_401, d_398, h_399, h⟩ := ix_bd2_ex h
  refine ix_callV (As := [.int (xs (ix_n (x3 + 1)))]) (rest := []) (ci := 10) (T := TX11) (nf := 18) X mf_X11_truth mi_X11_truth ms_X11_truth rfl (Nat.le_of_ble_eq_true rfl) ml_R_law_148 ⟨Nat.le_of_ble_eq_true rfl, Nat.le_of_ble_eq_true rfl⟩ ⟨Nat.le_trans (by omega) hkc, Nat.le_trans (by omega) hns⟩ rfl (Nat.le_of_ble_eq_true rfl) (ix_tb_at tb_law 739 rfl) ⟨k_400.1, List.mem_singleton.mp k_400.2⟩ (c_X11_truth hKp h_399) rfl (pc1 := 1188) rfl ?_
  refine ix_aload_n (i := 2) (j := 2) X (ix_tb_at tb_law 740 rfl) rfl rfl (pc1 := 1189) rfl ?_
  refine ix_aload_n (i := 0) (j := 0) X (ix_tb_at tb_law 741 rfl) rfl rfl (pc1 := 1190) rfl ?_
  refine ix_iload_n (i := 3) (j := 3) X (ix_tb_at tb_law 742 rfl) rfl rfl (pc1 := 1191) rfl ?_
  refine ix_iconst (v := 1) X (ix_tb_at tb_law 743 rfl) (by decide) (pc1 := 1192) rfl ?_
  refine ix_iadd X (ix_tb_at tb_law 744 rfl) (pc1 := 1193) rfl ?_
  refine ix_sld X hX hbl hbN k_397 (ix_tb_at tb_law 745 rfl) (pc1 := 1194) rfl ?_
  obtain ⟨k_404, h⟩ := ix_ck_some h
  obtain ⟨r_405, d_402, h_403, h⟩ := ix_bd2_ex h
  refine ix_callV (As := [.int (xs (ix_n (x3 + 1)))]) (rest := [.int r_401]) (ci := 11) (T := TX12) (nf := 116) X mf_X12_truth mi_X12_truth ms_X12_truth rfl (Nat.le_of_ble_eq_true rfl) ml_R_law_151 ⟨Nat.le_of_ble_eq_true rfl, Nat.le_of_ble_eq_true rfl⟩ ⟨Nat.le_trans (by omega) hkc, Nat.le_trans (by omega) hns⟩ rfl (Nat.le_of_ble_eq_true rfl) (ix_tb_at tb_law 746 rfl) ⟨k_404.1, List.mem_singleton.mp k_404.2⟩ (c_X12_truth hKp h_403) rfl (pc1 := 1197) rfl ?_
  refine ix_icmp_eq (tgt := 1718) X (ix_tb_at tb_law 747 rfl) (by decide) (pc1 := 1200) rfl (fun q_406 => ?_) (fun q_406 => ?_)
  · have h := ix_ift q_406 h
    obtain ⟨rfl, rfl⟩ := ix_sm h
    exact ix_widen (by omega) (by omega) kk
  · have h := ix_iff q_406 h
    refine ix_iconst (v := 0) X (ix_tb_at tb_law 748 rfl) (by decide) (pc1 := 1201) rfl ?_
    cases h
set_option maxRecDepth 20000 in
theorem t_law_1202 {l : Launch} {p : Program} {e : Env} {s : State} {m : MethodId} {below : List Frame} {meth : Method} {c : Code} {K : ix_Cx} {b Ls kc ns : Nat} {xs : Nat → Int32} (hKp : ix_Kp K) (hF : ix_Fc K) (hT : ix_Tc K) (X : ix_X p s m #[Value.ref b] c K code R_law 4) (hX : va_X b Ls xs s s.heap) (hbl : b < s.heap.size) (hbN : ¬ ix_A K b) (hkc : kc + 8 ≤ 600000) (hns : ns + 400 ≤ 7302250) {n : Nat} {z z1 : ix_Z} {a1 a2 : Nat} {x3 : Int32} {d d1 : ix_D2} (h : f_law_1202 n Ls xs z a1 a2 x3 d = some (z1, d1)) (kk : ix_G p l e room_1 s m #[Value.ref b] below meth c (lw_Z below #[Value.ref b] s) K 4 (kc + 8) (ns + 400) 1718 [(0, .ref b), (1, .ref (K.2.2.1 + a1)), (2, .ref (K.2.2.1 + a2)), (3, .int x3)] [] (ix_w z1 d1)) : ix_G p l e room_1 s m #[Value.ref b] below meth c (lw_Z below #[Value.ref b] s) K 4 kc ns 1202 [(0, .ref b), (1, .ref (K.2.2.1 + a1)), (2, .ref (K.2.2.1 + a2)), (3, .int x3)] [] (ix_w z d) := by
  unfold f_law_1202 at h
  refine ix_aload_n (i := 1) (j := 1) X (ix_tb_at tb_law 750 rfl) rfl rfl (pc1 := 1203) rfl ?_
  refine ix_aload_n (i := 0) (j := 0) X (ix_tb_at tb_law 751 rfl) rfl rfl (pc1 := 1204) rfl ?_
  refine ix_iload_n (i := 3) (j := 3) X (ix_tb_at tb_law 752 rfl) rfl rfl (pc1 := 1205) rfl ?_
  refine ix_iconst (v := 1) X (ix_tb_at tb_law 753 rfl) (by decide) (pc1 := 1206) rfl ?_
  refine ix_iadd X (ix_tb_at tb_law 754 rfl) (pc1 := 1207) rfl ?_
  obtain ⟨k_408, h⟩ := ix_ck_some h
  refine ix_sld X hX hbl hbN k_408 (ix_tb_at tb_law 755 rfl) (pc1 := 1208) rfl ?_
  obtain ⟨k_411, h⟩ := ix_ck_some h
  obtain ⟨r_412, d_409, h_410, h⟩ := ix_bd2_ex h
  refine ix_callV (As := [.int (xs (ix_n (x3 + 1)))]) (rest := []) (ci := 10) (T := TX11) (nf := 18) X mf_X11_solved mi_X11_solved ms_X11_solved rfl (Nat.le_of_ble_eq_true rfl) ml_R_law_152 ⟨Nat.le_of_ble_eq_true rfl, Nat.le_of_ble_eq_true rfl⟩ ⟨Nat.le_trans (by omega) hkc, Nat.le_trans (by omega) hns⟩ rfl (Nat.le_of_ble_eq_true rfl) (ix_tb_at tb_law 756 rfl) ⟨k_411.1, List.mem_singleton.mp k_411.2⟩ (c_X11_solved hKp h_410) rfl (pc1 := 1211) rfl ?_
  refine ix_aload_n (i := 2) (j := 2) X (ix_tb_at tb_law 757 rfl) rfl rfl (pc1 := 1212) rfl ?_
  refine ix_aload_n (i := 0) (j := 0) X (ix_tb_at tb_law 758 rfl) rfl rfl (pc1 := 1213) rfl ?_
  refine ix_iload_n (i := 3) (j := 3) X (ix_tb_at tb_law 759 rfl) rfl rfl (pc1 := 1214) rfl ?_
  refine ix_iconst (v := 1) X (ix_tb_at tb_law 760 rfl) (by decide) (pc1 := 1215) rfl ?_
  refine ix_iadd X (ix_tb_at tb_law 761 rfl) (pc1 := 1216) rfl ?_
  refine ix_sld X hX hbl hbN k_408 (ix_tb_at tb_law 762 rfl) (pc1 := 1217) rfl ?_
  obtain ⟨k_415, h⟩ := ix_ck_some h
  obtain ⟨r_416, d_413, h_414, h⟩ := ix_bd2_ex h
  refine ix_callV (As := [.int (xs (ix_n (x3 + 1)))]) (rest := [.int r_412]) (ci := 11) (T := TX12) (nf := 116) X mf_X12_solved mi_X12_solved ms_X12_solved rfl (Nat.le_of_ble_eq_true rfl) ml_R_law_155 ⟨Nat.le_of_ble_eq_true rfl, Nat.le_of_ble_eq_true rfl⟩ ⟨Nat.le_trans (by omega) hkc, Nat.le_trans (by omega) hns⟩ rfl (Nat.le_of_ble_eq_true rfl) (ix_tb_at tb_law 763 rfl) ⟨k_415.1, List.mem_singleton.mp k_415.2⟩ (c_X12_solved hKp h_414) rfl (pc1 := 1220) rfl ?_
  refine ix_icmp_eq (tgt := 1718) X (ix_tb_at tb_law 764 rfl) (by decide) (pc1 := 1223) rfl (fun q_417 => ?_) (fun q_417 => ?_)
  · have h := ix_ift q_417 h
    obtain ⟨rfl, rfl⟩ := ix_sm h
    exact ix_widen (by omega) (by omega) kk
  · have h := ix_iff q_417 h
    refine ix_iconst (v := 0) X (ix_tb_at tb_law 765 rfl) (by decide) (pc1 := 1224) rfl ?_
    cases h
set_option maxRecDepth 20000 in
theorem t_law_1225 {l : Launch} {p : Program} {e : Env} {s : State} {m : MethodId} {below : List Frame} {meth : Method} {c : Code} {K : ix_Cx} {b Ls kc ns : Nat} {xs : Nat → Int32} (hKp : ix_Kp K) (hF : ix_Fc K) (hT : ix_Tc K) (X : ix_X p s m #[Value.ref b] c K code R_law 4) (hX : va_X b Ls xs s s.heap) (hbl : b < s.heap.size) (hbN : ¬ ix_A K b) (hkc : kc + 8 ≤ 600000) (hns : ns + 400 ≤ 7302250) {n : Nat} {z z1 : ix_Z} {a1 a2 : Nat} {x3 : Int32} {d d1 : ix_D2} (h : f_law_1225 n Ls xs z a1 a2 x3 d = some (z1, d1)) (kk : ix_G p l e room_1 s m #[Value.ref b] below meth c (lw_Z below #[Value.ref b] s) K 4 (kc + 8) (ns + 400) 1718 [(0, .ref b), (1, .ref (K.2.2.1 + a1)), (2, .ref (K.2.2.1 + a2)), (3, .int x3)] [] (ix_w z1 d1)) : ix_G p l e room_1 s m #[Value.ref b] below meth c (lw_Z below #[Value.ref b] s) K 4 kc ns 1225 [(0, .ref b), (1, .ref (K.2.2.1 + a1)), (2, .ref (K.2.2.1 + a2)), (3, .int x3)] [] (ix_w z d) := by
  unfold f_law_1225 at h
  refine ix_aload_n (i := 1) (j := 1) X (ix_tb_at tb_law 767 rfl) rfl rfl (pc1 := 1226) rfl ?_
  refine ix_aload_n (i := 0) (j := 0) X (ix_tb_at tb_law 768 rfl) rfl rfl (pc1 := 1227) rfl ?_
  refine ix_iload_n (i := 3) (j := 3) X (ix_tb_at tb_law 769 rfl) rfl rfl (pc1 := 1228) rfl ?_
  refine ix_iconst (v := 1) X (ix_tb_at tb_law 770 rfl) (by decide) (pc1 := 1229) rfl ?_
  refine ix_iadd X (ix_tb_at tb_law 771 rfl) (pc1 := 1230) rfl ?_
  obtain ⟨k_419, h⟩ := ix_ck_some h
  refine ix_sld X hX hbl hbN k_419 (ix_tb_at tb_law 772 rfl) (pc1 := 1231) rfl ?_
  obtain ⟨k_422, h⟩ := ix_ck_some h
  obtain ⟨r_423, d_420, h_421, h⟩ := ix_bd2_ex h
  refine ix_callV (As := [.int (xs (ix_n (x3 + 1)))]) (rest := []) (ci := 10) (T := TX11) (nf := 18) X mf_X11_quarrel mi_X11_quarrel ms_X11_quarrel rfl (Nat.le_of_ble_eq_true rfl) ml_R_law_156 ⟨Nat.le_of_ble_eq_true rfl, Nat.le_of_ble_eq_true rfl⟩ ⟨Nat.le_trans (by omega) hkc, Nat.le_trans (by omega) hns⟩ rfl (Nat.le_of_ble_eq_true rfl) (ix_tb_at tb_law 773 rfl) ⟨k_422.1, List.mem_singleton.mp k_422.2⟩ (c_X11_quarrel hKp h_421) rfl (pc1 := 1234) rfl ?_
  refine ix_aload_n (i := 2) (j := 2) X (ix_tb_at tb_law 774 rfl) rfl rfl (pc1 := 1235) rfl ?_
  refine ix_aload_n (i := 0) (j := 0) X (ix_tb_at tb_law 775 rfl) rfl rfl (pc1 := 1236) rfl ?_
  refine ix_iload_n (i := 3) (j := 3) X (ix_tb_at tb_law 776 rfl) rfl rfl (pc1 := 1237) rfl ?_
  refine ix_iconst (v := 1) X (ix_tb_at tb_law 777 rfl) (by decide) (pc1 := 1238) rfl ?_
  refine ix_iadd X (ix_tb_at tb_law 778 rfl) (pc1 := 1239) rfl ?_
  refine ix_sld X hX hbl hbN k_419 (ix_tb_at tb_law 779 rfl) (pc1 := 1240) rfl ?_
  obtain ⟨k_426, h⟩ := ix_ck_some h
  obtain ⟨r_427, d_424, h_425, h⟩ := ix_bd2_ex h
  refine ix_callV (As := [.int (xs (ix_n (x3 + 1)))]) (rest := [.int r_423]) (ci := 11) (T := TX12) (nf := 116) X mf_X12_quarrel mi_X12_quarrel ms_X12_quarrel rfl (Nat.le_of_ble_eq_true rfl) ml_R_law_159 ⟨Nat.le_of_ble_eq_true rfl, Nat.le_of_ble_eq_true rfl⟩ ⟨Nat.le_trans (by omega) hkc, Nat.le_trans (by omega) hns⟩ rfl (Nat.le_of_ble_eq_true rfl) (ix_tb_at tb_law 780 rfl) ⟨k_426.1, List.mem_singleton.mp k_426.2⟩ (c_X12_quarrel hKp h_425) rfl (pc1 := 1243) rfl ?_
  refine ix_icmp_eq (tgt := 1718) X (ix_tb_at tb_law 781 rfl) (by decide) (pc1 := 1246) rfl (fun q_428 => ?_) (fun q_428 => ?_)
  · have h := ix_ift q_428 h
    obtain ⟨rfl, rfl⟩ := ix_sm h
    exact ix_widen (by omega) (by omega) kk
  · have h := ix_iff q_428 h
    refine ix_iconst (v := 0) X (ix_tb_at tb_law 782 rfl) (by decide) (pc1 := 1247) rfl ?_
    cases h
set_option maxRecDepth 20000 in
theorem t_law_1248 {l : Launch} {p : Program} {e : Env} {s : State} {m : MethodId} {below : List Frame} {meth : Method} {c : Code} {K : ix_Cx} {b Ls kc ns : Nat} {xs : Nat → Int32} (hKp : ix_Kp K) (hF : ix_Fc K) (hT : ix_Tc K) (X : ix_X p s m #[Value.ref b] c K code R_law 4) (hX : va_X b Ls xs s s.heap) (hbl : b < s.heap.size) (hbN : ¬ ix_A K b) (hkc : kc + 8 ≤ 600000) (hns : ns + 400 ≤ 7302250) {n : Nat} {z z1 : ix_Z} {a1 a2 : Nat} {x3 : Int32} {d d1 : ix_D2} (h : f_law_1248 n Ls xs z a1 a2 x3 d = some (z1, d1)) (kk : ix_G p l e room_1 s m #[Value.ref b] below meth c (lw_Z below #[Value.ref b] s) K 4 (kc + 8) (ns + 400) 1718 [(0, .ref b), (1, .ref (K.2.2.1 + a1)), (2, .ref (K.2.2.1 + a2)), (3, .int x3)] [] (ix_w z1 d1)) : ix_G p l e room_1 s m #[Value.ref b] below meth c (lw_Z below #[Value.ref b] s) K 4 kc ns 1248 [(0, .ref b), (1, .ref (K.2.2.1 + a1)), (2, .ref (K.2.2.1 + a2)), (3, .int x3)] [] (ix_w z d) := by
  unfold f_law_1248 at h
  refine ix_aload_n (i := 1) (j := 1) X (ix_tb_at tb_law 784 rfl) rfl rfl (pc1 := 1249) rfl ?_
  refine ix_aload_n (i := 0) (j := 0) X (ix_tb_at tb_law 785 rfl) rfl rfl (pc1 := 1250) rfl ?_
  refine ix_iload_n (i := 3) (j := 3) X (ix_tb_at tb_law 786 rfl) rfl rfl (pc1 := 1251) rfl ?_
  refine ix_iconst (v := 1) X (ix_tb_at tb_law 787 rfl) (by decide) (pc1 := 1252) rfl ?_
  refine ix_iadd X (ix_tb_at tb_law 788 rfl) (pc1 := 1253) rfl ?_
  obtain ⟨k_430, h⟩ := ix_ck_some h
  refine ix_sld X hX hbl hbN k_430 (ix_tb_at tb_law 789 rfl) (pc1 := 1254) rfl ?_
  obtain ⟨k_433, h⟩ := ix_ck_some h
  obtain ⟨r_434, d_431, h_432, h⟩ := ix_bd2_ex h
  refine ix_callV (As := [.int (xs (ix_n (x3 + 1)))]) (rest := []) (ci := 10) (T := TX11) (nf := 18) X mf_X11_core mi_X11_core ms_X11_core rfl (Nat.le_of_ble_eq_true rfl) ml_R_law_160 ⟨Nat.le_of_ble_eq_true rfl, Nat.le_of_ble_eq_true rfl⟩ ⟨Nat.le_trans (by omega) hkc, Nat.le_trans (by omega) hns⟩ rfl (Nat.le_of_ble_eq_true rfl) (ix_tb_at tb_law 790 rfl) ⟨k_433.1, List.mem_singleton.mp k_433.2⟩ (c_X11_core hKp h_432) rfl (pc1 := 1257) rfl ?_
  refine ix_aload_n (i := 2) (j := 2) X (ix_tb_at tb_law 791 rfl) rfl rfl (pc1 := 1258) rfl ?_
  refine ix_aload_n (i := 0) (j := 0) X (ix_tb_at tb_law 792 rfl) rfl rfl (pc1 := 1259) rfl ?_
  refine ix_iload_n (i := 3) (j := 3) X (ix_tb_at tb_law 793 rfl) rfl rfl (pc1 := 1260) rfl ?_
  refine ix_iconst (v := 1) X (ix_tb_at tb_law 794 rfl) (by decide) (pc1 := 1261) rfl ?_
  refine ix_iadd X (ix_tb_at tb_law 795 rfl) (pc1 := 1262) rfl ?_
  refine ix_sld X hX hbl hbN k_430 (ix_tb_at tb_law 796 rfl) (pc1 := 1263) rfl ?_
  obtain ⟨k_437, h⟩ := ix_ck_some h
  obtain ⟨r_438, d_435, h_436, h⟩ := ix_bd2_ex h
  refine ix_callV (As := [.int (xs (ix_n (x3 + 1)))]) (rest := [.int r_434]) (ci := 11) (T := TX12) (nf := 116) X mf_X12_core mi_X12_core ms_X12_core rfl (Nat.le_of_ble_eq_true rfl) ml_R_law_163 ⟨Nat.le_of_ble_eq_true rfl, Nat.le_of_ble_eq_true rfl⟩ ⟨Nat.le_trans (by omega) hkc, Nat.le_trans (by omega) hns⟩ rfl (Nat.le_of_ble_eq_true rfl) (ix_tb_at tb_law 797 rfl) ⟨k_437.1, List.mem_singleton.mp k_437.2⟩ (c_X12_core hKp h_436) rfl (pc1 := 1266) rfl ?_
  refine ix_icmp_eq (tgt := 1718) X (ix_tb_at tb_law 798 rfl) (by decide) (pc1 := 1269) rfl (fun q_439 => ?_) (fun q_439 => ?_)
  · have h := ix_ift q_439 h
    obtain ⟨rfl, rfl⟩ := ix_sm h
    exact ix_widen (by omega) (by omega) kk
  · have h := ix_iff q_439 h
    refine ix_iconst (v := 0) X (ix_tb_at tb_law 799 rfl) (by decide) (pc1 := 1270) rfl ?_
    cases h
set_option maxRecDepth 20000 in
theorem t_law_1271 {l : Launch} {p : Program} {e : Env} {s : State} {m : MethodId} {below : List Frame} {meth : Method} {c : Code} {K : ix_Cx} {b Ls kc ns : Nat} {xs : Nat → Int32} (hKp : ix_Kp K) (hF : ix_Fc K) (hT : ix_Tc K) (X : ix_X p s m #[Value.ref b] c K code R_law 4) (hX : va_X b Ls xs s s.heap) (hbl : b < s.heap.size) (hbN : ¬ ix_A K b) (hkc : kc + 8 ≤ 600000) (hns : ns + 400 ≤ 7302250) {n : Nat} {z z1 : ix_Z} {a1 a2 : Nat} {x3 : Int32} {d d1 : ix_D2} (h : f_law_1271 n Ls xs z a1 a2 x3 d = some (z1, d1)) (kk : ix_G p l e room_1 s m #[Value.ref b] below meth c (lw_Z below #[Value.ref b] s) K 4 (kc + 8) (ns + 400) 1718 [(0, .ref b), (1, .ref (K.2.2.1 + a1)), (2, .ref (K.2.2.1 + a2)), (3, .int x3)] [] (ix_w z1 d1)) : ix_G p l e room_1 s m #[Value.ref b] below meth c (lw_Z below #[Value.ref b] s) K 4 kc ns 1271 [(0, .ref b), (1, .ref (K.2.2.1 + a1)), (2, .ref (K.2.2.1 + a2)), (3, .int x3)] [] (ix_w z d) := by
  unfold f_law_1271 at h
  refine ix_aload_n (i := 1) (j := 1) X (ix_tb_at tb_law 801 rfl) rfl rfl (pc1 := 1272) rfl ?_
  refine ix_aload_n (i := 0) (j := 0) X (ix_tb_at tb_law 802 rfl) rfl rfl (pc1 := 1273) rfl ?_
  refine ix_iload_n (i := 3) (j := 3) X (ix_tb_at tb_law 803 rfl) rfl rfl (pc1 := 1274) rfl ?_
  refine ix_iconst (v := 1) X (ix_tb_at tb_law 804 rfl) (by decide) (pc1 := 1275) rfl ?_
  refine ix_iadd X (ix_tb_at tb_law 805 rfl) (pc1 := 1276) rfl ?_
  obtain ⟨k_441, h⟩ := ix_ck_some h
  refine ix_sld X hX hbl hbN k_441 (ix_tb_at tb_law 806 rfl) (pc1 := 1277) rfl ?_
  refine ix_aload_n (i := 0) (j := 0) X (ix_tb_at tb_law 807 rfl) rfl rfl (pc1 := 1278) rfl ?_
  refine ix_iload_n (i := 3) (j := 3) X (ix_tb_at tb_law 808 rfl) rfl rfl (pc1 := 1279) rfl ?_
  refine ix_iconst (v := 2) X (ix_tb_at tb_law 809 rfl) (by decide) (pc1 := 1280) rfl ?_
  refine ix_iadd X (ix_tb_at tb_law 810 rfl) (pc1 := 1281) rfl ?_
  obtain ⟨k_442, h⟩ := ix_ck_some h
  refine ix_sld X hX hbl hbN k_442 (ix_tb_at tb_law 811 rfl) (pc1 := 1282) rfl ?_
  obtain ⟨k_445, h⟩ := ix_ck_some h
  obtain ⟨r_446, d_443, h_444, h⟩ := ix_bd2_ex h
  refine ix_callV (As := [.int (xs (ix_n (x3 + 1))), .int (xs (ix_n (x3 + 2)))]) (rest := []) (ci := 10) (T := TX11) (nf := 18) X mf_X11_coreAt mi_X11_coreAt ms_X11_coreAt rfl (Nat.le_of_ble_eq_true rfl) ml_R_law_164 ⟨Nat.le_of_ble_eq_true rfl, Nat.le_of_ble_eq_true rfl⟩ ⟨Nat.le_trans (by omega) hkc, Nat.le_trans (by omega) hns⟩ rfl (Nat.le_of_ble_eq_true rfl) (ix_tb_at tb_law 812 rfl) ⟨k_445.1, List.mem_singleton.mp k_445.2⟩ (c_X11_coreAt hKp h_444) rfl (pc1 := 1285) rfl ?_
  refine ix_aload_n (i := 2) (j := 2) X (ix_tb_at tb_law 813 rfl) rfl rfl (pc1 := 1286) rfl ?_
  refine ix_aload_n (i := 0) (j := 0) X (ix_tb_at tb_law 814 rfl) rfl rfl (pc1 := 1287) rfl ?_
  refine ix_iload_n (i := 3) (j := 3) X (ix_tb_at tb_law 815 rfl) rfl rfl (pc1 := 1288) rfl ?_
  refine ix_iconst (v := 1) X (ix_tb_at tb_law 816 rfl) (by decide) (pc1 := 1289) rfl ?_
  refine ix_iadd X (ix_tb_at tb_law 817 rfl) (pc1 := 1290) rfl ?_
  refine ix_sld X hX hbl hbN k_441 (ix_tb_at tb_law 818 rfl) (pc1 := 1291) rfl ?_
  refine ix_aload_n (i := 0) (j := 0) X (ix_tb_at tb_law 819 rfl) rfl rfl (pc1 := 1292) rfl ?_
  refine ix_iload_n (i := 3) (j := 3) X (ix_tb_at tb_law 820 rfl) rfl rfl (pc1 := 1293) rfl ?_
  refine ix_iconst (v := 2) X (ix_tb_at tb_law 821 rfl) (by decide) (pc1 := 1294) rfl ?_
  refine ix_iadd X (ix_tb_at tb_law 822 rfl) (pc1 := 1295) rfl ?_
  refine ix_sld X hX hbl hbN k_442 (ix_tb_at tb_law 823 rfl) (pc1 := 1296) rfl ?_
  obtain ⟨k_449, h⟩ := ix_ck_some h
  obtain ⟨r_450, d_447, h_448, h⟩ := ix_bd2_ex h
  refine ix_callV (As := [.int (xs (ix_n (x3 + 1))), .int (xs (ix_n (x3 + 2)))]) (rest := [.int r_446]) (ci := 11) (T := TX12) (nf := 116) X mf_X12_coreAt mi_X12_coreAt ms_X12_coreAt rfl (Nat.le_of_ble_eq_true rfl) ml_R_law_167 ⟨Nat.le_of_ble_eq_true rfl, Nat.le_of_ble_eq_true rfl⟩ ⟨Nat.le_trans (by omega) hkc, Nat.le_trans (by omega) hns⟩ rfl (Nat.le_of_ble_eq_true rfl) (ix_tb_at tb_law 824 rfl) ⟨k_449.1, List.mem_singleton.mp k_449.2⟩ (c_X12_coreAt hKp h_448) rfl (pc1 := 1299) rfl ?_
  refine ix_icmp_eq (tgt := 1718) X (ix_tb_at tb_law 825 rfl) (by decide) (pc1 := 1302) rfl (fun q_451 => ?_) (fun q_451 => ?_)
  · have h := ix_ift q_451 h
    obtain ⟨rfl, rfl⟩ := ix_sm h
    exact ix_widen (by omega) (by omega) kk
  · have h := ix_iff q_451 h
    refine ix_iconst (v := 0) X (ix_tb_at tb_law 826 rfl) (by decide) (pc1 := 1303) rfl ?_
    cases h
set_option maxRecDepth 20000 in
theorem t_law_1304 {l : Launch} {p : Program} {e : Env} {s : State} {m : MethodId} {below : List Frame} {meth : Method} {c : Code} {K : ix_Cx} {b Ls kc ns : Nat} {xs : Nat → Int32} (hKp : ix_Kp K) (hF : ix_Fc K) (hT : ix_Tc K) (X : ix_X p s m #[Value.ref b] c K code R_law 4) (hX : va_X b Ls xs s s.heap) (hbl : b < s.heap.size) (hbN : ¬ ix_A K b) (hkc : kc + 8 ≤ 600000) (hns : ns + 400 ≤ 7302250) {n : Nat} {z z1 : ix_Z} {a1 a2 : Nat} {x3 : Int32} {d d1 : ix_D2} (h : f_law_1304 n Ls xs z a1 a2 x3 d = some (z1, d1)) (kk : ix_G p l e room_1 s m #[Value.ref b] below meth c (lw_Z below #[Value.ref b] s) K 4 (kc + 8) (ns + 400) 1718 [(0, .ref b), (1, .ref (K.2.2.1 + a1)), (2, .ref (K.2.2.1 + a2)), (3, .int x3)] [] (ix_w z1 d1)) : ix_G p l e room_1 s m #[Value.ref b] below meth c (lw_Z below #[Value.ref b] s) K 4 kc ns 1304 [(0, .ref b), (1, .ref (K.2.2.1 + a1)), (2, .ref (K.2.2.1 + a2)), (3, .int x3)] [] (ix_w z d) := by
  unfold f_law_1304 at h
  refine ix_aload_n (i := 1) (j := 1) X (ix_tb_at tb_law 828 rfl) rfl rfl (pc1 := 1305) rfl ?_
  refine ix_aload_n (i := 0) (j := 0) X (ix_tb_at tb_law 829 rfl) rfl rfl (pc1 := 1306) rfl ?_
  refine ix_iload_n (i := 3) (j := 3) X (ix_tb_at tb_law 830 rfl) rfl rfl (pc1 := 1307) rfl ?_
  refine ix_iconst (v := 1) X (ix_tb_at tb_law 831 rfl) (by decide) (pc1 := 1308) rfl ?_
  refine ix_iadd X (ix_tb_at tb_law 832 rfl) (pc1 := 1309) rfl ?_
  obtain ⟨k_453, h⟩ := ix_ck_some h
  refine ix_sld X hX hbl hbN k_453 (ix_tb_at tb_law 833 rfl) (pc1 := 1310) rfl ?_
  obtain ⟨k_456, h⟩ := ix_ck_some h
  obtain ⟨r_457, d_454, h_455, h⟩ := ix_bd2_ex h
  refine ix_callV (As := [.int (xs (ix_n (x3 + 1)))]) (rest := []) (ci := 10) (T := TX11) (nf := 18) X mf_X11_shrink mi_X11_shrink ms_X11_shrink rfl (Nat.le_of_ble_eq_true rfl) ml_R_law_168 ⟨Nat.le_of_ble_eq_true rfl, Nat.le_of_ble_eq_true rfl⟩ ⟨Nat.le_trans (by omega) hkc, Nat.le_trans (by omega) hns⟩ rfl (Nat.le_of_ble_eq_true rfl) (ix_tb_at tb_law 834 rfl) ⟨k_456.1, List.mem_singleton.mp k_456.2⟩ (c_X11_shrink hKp h_455) rfl (pc1 := 1313) rfl ?_
  refine ix_aload_n (i := 2) (j := 2) X (ix_tb_at tb_law 835 rfl) rfl rfl (pc1 := 1314) rfl ?_
  refine ix_aload_n (i := 0) (j := 0) X (ix_tb_at tb_law 836 rfl) rfl rfl (pc1 := 1315) rfl ?_
  refine ix_iload_n (i := 3) (j := 3) X (ix_tb_at tb_law 837 rfl) rfl rfl (pc1 := 1316) rfl ?_
  refine ix_iconst (v := 1) X (ix_tb_at tb_law 838 rfl) (by decide) (pc1 := 1317) rfl ?_
  refine ix_iadd X (ix_tb_at tb_law 839 rfl) (pc1 := 1318) rfl ?_
  refine ix_sld X hX hbl hbN k_453 (ix_tb_at tb_law 840 rfl) (pc1 := 1319) rfl ?_
  obtain ⟨k_460, h⟩ := ix_ck_some h
  obtain ⟨r_461, d_458, h_459, h⟩ := ix_bd2_ex h
  refine ix_callV (As := [.int (xs (ix_n (x3 + 1)))]) (rest := [.int r_457]) (ci := 11) (T := TX12) (nf := 116) X mf_X12_shrink mi_X12_shrink ms_X12_shrink rfl (Nat.le_of_ble_eq_true rfl) ml_R_law_171 ⟨Nat.le_of_ble_eq_true rfl, Nat.le_of_ble_eq_true rfl⟩ ⟨Nat.le_trans (by omega) hkc, Nat.le_trans (by omega) hns⟩ rfl (Nat.le_of_ble_eq_true rfl) (ix_tb_at tb_law 841 rfl) ⟨k_460.1, List.mem_singleton.mp k_460.2⟩ (c_X12_shrink hKp h_459) rfl (pc1 := 1322) rfl ?_
  refine ix_icmp_eq (tgt := 1718) X (ix_tb_at tb_law 842 rfl) (by decide) (pc1 := 1325) rfl (fun q_462 => ?_) (fun q_462 => ?_)
  · have h := ix_ift q_462 h
    obtain ⟨rfl, rfl⟩ := ix_sm h
    exact ix_widen (by omega) (by omega) kk
  · have h := ix_iff q_462 h
    refine ix_iconst (v := 0) X (ix_tb_at tb_law 843 rfl) (by decide) (pc1 := 1326) rfl ?_
    cases h
set_option maxRecDepth 20000 in
theorem t_law_1327 {l : Launch} {p : Program} {e : Env} {s : State} {m : MethodId} {below : List Frame} {meth : Method} {c : Code} {K : ix_Cx} {b Ls kc ns : Nat} {xs : Nat → Int32} (hKp : ix_Kp K) (hF : ix_Fc K) (hT : ix_Tc K) (X : ix_X p s m #[Value.ref b] c K code R_law 4) (hX : va_X b Ls xs s s.heap) (hbl : b < s.heap.size) (hbN : ¬ ix_A K b) (hkc : kc + 8 ≤ 600000) (hns : ns + 400 ≤ 7302250) {n : Nat} {z z1 : ix_Z} {a1 a2 : Nat} {x3 : Int32} {d d1 : ix_D2} (h : f_law_1327 n Ls xs z a1 a2 x3 d = some (z1, d1)) (kk : ix_G p l e room_1 s m #[Value.ref b] below meth c (lw_Z below #[Value.ref b] s) K 4 (kc + 8) (ns + 400) 1718 [(0, .ref b), (1, .ref (K.2.2.1 + a1)), (2, .ref (K.2.2.1 + a2)), (3, .int x3)] [] (ix_w z1 d1)) : ix_G p l e room_1 s m #[Value.ref b] below meth c (lw_Z below #[Value.ref b] s) K 4 kc ns 1327 [(0, .ref b), (1, .ref (K.2.2.1 + a1)), (2, .ref (K.2.2.1 + a2)), (3, .int x3)] [] (ix_w z d) := by
  unfold f_law_1327 at h
  refine ix_aload_n (i := 1) (j := 1) X (ix_tb_at tb_law 845 rfl) rfl rfl (pc1 := 1328) rfl ?_
  refine ix_aload_n (i := 0) (j := 0) X (ix_tb_at tb_law 846 rfl) rfl rfl (pc1 := 1329) rfl ?_
  refine ix_iload_n (i := 3) (j := 3) X (ix_tb_at tb_law 847 rfl) rfl rfl (pc1 := 1330) rfl ?_
  refine ix_iconst (v := 1) X (ix_tb_at tb_law 848 rfl) (by decide) (pc1 := 1331) rfl ?_
  refine ix_iadd X (ix_tb_at tb_law 849 rfl) (pc1 := 1332) rfl ?_
  obtain ⟨k_464, h⟩ := ix_ck_some h
  refine ix_sld X hX hbl hbN k_464 (ix_tb_at tb_law 850 rfl) (pc1 := 1333) rfl ?_
  obtain ⟨k_467, h⟩ := ix_ck_some h
  obtain ⟨r_468, d_465, h_466, h⟩ := ix_bd2_ex h
  refine ix_callV (As := [.int (xs (ix_n (x3 + 1)))]) (rest := []) (ci := 10) (T := TX11) (nf := 18) X mf_X11_least mi_X11_least ms_X11_least rfl (Nat.le_of_ble_eq_true rfl) ml_R_law_172 ⟨Nat.le_of_ble_eq_true rfl, Nat.le_of_ble_eq_true rfl⟩ ⟨Nat.le_trans (by omega) hkc, Nat.le_trans (by omega) hns⟩ rfl (Nat.le_of_ble_eq_true rfl) (ix_tb_at tb_law 851 rfl) ⟨k_467.1, List.mem_singleton.mp k_467.2⟩ (c_X11_least hKp h_466) rfl (pc1 := 1336) rfl ?_
  refine ix_aload_n (i := 2) (j := 2) X (ix_tb_at tb_law 852 rfl) rfl rfl (pc1 := 1337) rfl ?_
  refine ix_aload_n (i := 0) (j := 0) X (ix_tb_at tb_law 853 rfl) rfl rfl (pc1 := 1338) rfl ?_
  refine ix_iload_n (i := 3) (j := 3) X (ix_tb_at tb_law 854 rfl) rfl rfl (pc1 := 1339) rfl ?_
  refine ix_iconst (v := 1) X (ix_tb_at tb_law 855 rfl) (by decide) (pc1 := 1340) rfl ?_
  refine ix_iadd X (ix_tb_at tb_law 856 rfl) (pc1 := 1341) rfl ?_
  refine ix_sld X hX hbl hbN k_464 (ix_tb_at tb_law 857 rfl) (pc1 := 1342) rfl ?_
  obtain ⟨k_471, h⟩ := ix_ck_some h
  obtain ⟨r_472, d_469, h_470, h⟩ := ix_bd2_ex h
  refine ix_callV (As := [.int (xs (ix_n (x3 + 1)))]) (rest := [.int r_468]) (ci := 11) (T := TX12) (nf := 116) X mf_X12_least mi_X12_least ms_X12_least rfl (Nat.le_of_ble_eq_true rfl) ml_R_law_175 ⟨Nat.le_of_ble_eq_true rfl, Nat.le_of_ble_eq_true rfl⟩ ⟨Nat.le_trans (by omega) hkc, Nat.le_trans (by omega) hns⟩ rfl (Nat.le_of_ble_eq_true rfl) (ix_tb_at tb_law 858 rfl) ⟨k_471.1, List.mem_singleton.mp k_471.2⟩ (c_X12_least hKp h_470) rfl (pc1 := 1345) rfl ?_
  refine ix_icmp_eq (tgt := 1718) X (ix_tb_at tb_law 859 rfl) (by decide) (pc1 := 1348) rfl (fun q_473 => ?_) (fun q_473 => ?_)
  · have h := ix_ift q_473 h
    obtain ⟨rfl, rfl⟩ := ix_sm h
    exact ix_widen (by omega) (by omega) kk
  · have h := ix_iff q_473 h
    refine ix_iconst (v := 0) X (ix_tb_at tb_law 860 rfl) (by decide) (pc1 := 1349) rfl ?_
    cases h
set_option maxRecDepth 20000 in
theorem t_law_1350 {l : Launch} {p : Program} {e : Env} {s : State} {m : MethodId} {below : List Frame} {meth : Method} {c : Code} {K : ix_Cx} {b Ls kc ns : Nat} {xs : Nat → Int32} (hKp : ix_Kp K) (hF : ix_Fc K) (hT : ix_Tc K) (X : ix_X p s m #[Value.ref b] c K code R_law 4) (hX : va_X b Ls xs s s.heap) (hbl : b < s.heap.size) (hbN : ¬ ix_A K b) (hkc : kc + 8 ≤ 600000) (hns : ns + 400 ≤ 7302250) {n : Nat} {z z1 : ix_Z} {a1 a2 : Nat} {x3 : Int32} {d d1 : ix_D2} (h : f_law_1350 n Ls xs z a1 a2 x3 d = some (z1, d1)) (kk : ix_G p l e room_1 s m #[Value.ref b] below meth c (lw_Z below #[Value.ref b] s) K 4 (kc + 8) (ns + 400) 1718 [(0, .ref b), (1, .ref (K.2.2.1 + a1)), (2, .ref (K.2.2.1 + a2)), (3, .int x3)] [] (ix_w z1 d1)) : ix_G p l e room_1 s m #[Value.ref b] below meth c (lw_Z below #[Value.ref b] s) K 4 kc ns 1350 [(0, .ref b), (1, .ref (K.2.2.1 + a1)), (2, .ref (K.2.2.1 + a2)), (3, .int x3)] [] (ix_w z d) := by
  unfold f_law_1350 at h
  refine ix_aload_n (i := 1) (j := 1) X (ix_tb_at tb_law 862 rfl) rfl rfl (pc1 := 1351) rfl ?_
  obtain ⟨k_477, h⟩ := ix_ck_some h
  obtain ⟨r_478, d_475, h_476, h⟩ := ix_bd2_ex h
  refine ix_callV (As := []) (rest := []) (ci := 10) (T := TX11) (nf := 18) X mf_X11_take mi_X11_take ms_X11_take rfl (Nat.le_of_ble_eq_true rfl) ml_R_law_176 ⟨Nat.le_of_ble_eq_true rfl, Nat.le_of_ble_eq_true rfl⟩ ⟨Nat.le_trans (by omega) hkc, Nat.le_trans (by omega) hns⟩ rfl (Nat.le_of_ble_eq_true rfl) (ix_tb_at tb_law 863 rfl) ⟨k_477.1, List.mem_singleton.mp k_477.2⟩ (c_X11_take hKp h_476) rfl (pc1 := 1354) rfl ?_
  refine ix_aload_n (i := 2) (j := 2) X (ix_tb_at tb_law 864 rfl) rfl rfl (pc1 := 1355) rfl ?_
  obtain ⟨k_481, h⟩ := ix_ck_some h
  obtain ⟨r_482, d_479, h_480, h⟩ := ix_bd2_ex h
  refine ix_callV (As := []) (rest := [.int r_478]) (ci := 11) (T := TX12) (nf := 116) X mf_X12_take mi_X12_take ms_X12_take rfl (Nat.le_of_ble_eq_true rfl) ml_R_law_179 ⟨Nat.le_of_ble_eq_true rfl, Nat.le_of_ble_eq_true rfl⟩ ⟨Nat.le_trans (by omega) hkc, Nat.le_trans (by omega) hns⟩ rfl (Nat.le_of_ble_eq_true rfl) (ix_tb_at tb_law 865 rfl) ⟨k_481.1, List.mem_singleton.mp k_481.2⟩ (c_X12_take hKp h_480) rfl (pc1 := 1358) rfl ?_
  refine ix_icmp_eq (tgt := 1718) X (ix_tb_at tb_law 866 rfl) (by decide) (pc1 := 1361) rfl (fun q_483 => ?_) (fun q_483 => ?_)
  · have h := ix_ift q_483 h
    obtain ⟨rfl, rfl⟩ := ix_sm h
    exact ix_widen (by omega) (by omega) kk
  · have h := ix_iff q_483 h
    refine ix_iconst (v := 0) X (ix_tb_at tb_law 867 rfl) (by decide) (pc1 := 1362) rfl ?_
    cases h
set_option maxRecDepth 20000 in
theorem t_law_1363 {l : Launch} {p : Program} {e : Env} {s : State} {m : MethodId} {below : List Frame} {meth : Method} {c : Code} {K : ix_Cx} {b Ls kc ns : Nat} {xs : Nat → Int32} (hKp : ix_Kp K) (hF : ix_Fc K) (hT : ix_Tc K) (X : ix_X p s m #[Value.ref b] c K code R_law 4) (hX : va_X b Ls xs s s.heap) (hbl : b < s.heap.size) (hbN : ¬ ix_A K b) (hkc : kc + 8 ≤ 600000) (hns : ns + 400 ≤ 7302250) {n : Nat} {z z1 : ix_Z} {a1 a2 : Nat} {x3 : Int32} {d d1 : ix_D2} (h : f_law_1363 n Ls xs z a1 a2 x3 d = some (z1, d1)) (kk : ix_G p l e room_1 s m #[Value.ref b] below meth c (lw_Z below #[Value.ref b] s) K 4 (kc + 8) (ns + 400) 1718 [(0, .ref b), (1, .ref (K.2.2.1 + a1)), (2, .ref (K.2.2.1 + a2)), (3, .int x3)] [] (ix_w z1 d1)) : ix_G p l e room_1 s m #[Value.ref b] below meth c (lw_Z below #[Value.ref b] s) K 4 kc ns 1363 [(0, .ref b), (1, .ref (K.2.2.1 + a1)), (2, .ref (K.2.2.1 + a2)), (3, .int x3)] [] (ix_w z d) := by
  unfold f_law_1363 at h
  refine ix_aload_n (i := 1) (j := 1) X (ix_tb_at tb_law 869 rfl) rfl rfl (pc1 := 1364) rfl ?_
  refine ix_aload_n (i := 0) (j := 0) X (ix_tb_at tb_law 870 rfl) rfl rfl (pc1 := 1365) rfl ?_
  refine ix_iload_n (i := 3) (j := 3) X (ix_tb_at tb_law 871 rfl) rfl rfl (pc1 := 1366) rfl ?_
  refine ix_iconst (v := 1) X (ix_tb_at tb_law 872 rfl) (by decide) (pc1 := 1367) rfl ?_
  refine ix_iadd X (ix_tb_at tb_law 873 rfl) (pc1 := 1368) rfl ?_
  obtain ⟨k_485, h⟩ := ix_ck_some h
  refine ix_sld X hX hbl hbN k_485 (ix_tb_at tb_law 874 rfl) (pc1 := 1369) rfl ?_
  obtain ⟨k_488, h⟩ := ix_ck_some h
  obtain ⟨r_489, d_486, h_487, h⟩ := ix_bd2_ex h
  refine ix_callV (As := [.int (xs (ix_n (x3 + 1)))]) (rest := []) (ci := 10) (T := TX11) (nf := 18) X mf_X11_claim mi_X11_claim ms_X11_claim rfl (Nat.le_of_ble_eq_true rfl) ml_R_law_180 ⟨Nat.le_of_ble_eq_true rfl, Nat.le_of_ble_eq_true rfl⟩ ⟨Nat.le_trans (by omega) hkc, Nat.le_trans (by omega) hns⟩ rfl (Nat.le_of_ble_eq_true rfl) (ix_tb_at tb_law 875 rfl) ⟨k_488.1, List.mem_singleton.mp k_488.2⟩ (c_X11_claim hKp h_487) rfl (pc1 := 1372) rfl ?_
  refine ix_aload_n (i := 2) (j := 2) X (ix_tb_at tb_law 876 rfl) rfl rfl (pc1 := 1373) rfl ?_
  refine ix_aload_n (i := 0) (j := 0) X (ix_tb_at tb_law 877 rfl) rfl rfl (pc1 := 1374) rfl ?_
  refine ix_iload_n (i := 3) (j := 3) X (ix_tb_at tb_law 878 rfl) rfl rfl (pc1 := 1375) rfl ?_
  refine ix_iconst (v := 1) X (ix_tb_at tb_law 879 rfl) (by decide) (pc1 := 1376) rfl ?_
  refine ix_iadd X (ix_tb_at tb_law 880 rfl) (pc1 := 1377) rfl ?_
  refine ix_sld X hX hbl hbN k_485 (ix_tb_at tb_law 881 rfl) (pc1 := 1378) rfl ?_
  obtain ⟨k_492, h⟩ := ix_ck_some h
  obtain ⟨r_493, d_490, h_491, h⟩ := ix_bd2_ex h
  refine ix_callV (As := [.int (xs (ix_n (x3 + 1)))]) (rest := [.int r_489]) (ci := 11) (T := TX12) (nf := 116) X mf_X12_claim mi_X12_claim ms_X12_claim rfl (Nat.le_of_ble_eq_true rfl) ml_R_law_183 ⟨Nat.le_of_ble_eq_true rfl, Nat.le_of_ble_eq_true rfl⟩ ⟨Nat.le_trans (by omega) hkc, Nat.le_trans (by omega) hns⟩ rfl (Nat.le_of_ble_eq_true rfl) (ix_tb_at tb_law 882 rfl) ⟨k_492.1, List.mem_singleton.mp k_492.2⟩ (c_X12_claim hKp h_491) rfl (pc1 := 1381) rfl ?_
  refine ix_icmp_eq (tgt := 1718) X (ix_tb_at tb_law 883 rfl) (by decide) (pc1 := 1384) rfl (fun q_494 => ?_) (fun q_494 => ?_)
  · have h := ix_ift q_494 h
    obtain ⟨rfl, rfl⟩ := ix_sm h
    exact ix_widen (by omega) (by omega) kk
  · have h := ix_iff q_494 h
    refine ix_iconst (v := 0) X (ix_tb_at tb_law 884 rfl) (by decide) (pc1 := 1385) rfl ?_
    cases h
set_option maxRecDepth 20000 in
theorem t_law_1386 {l : Launch} {p : Program} {e : Env} {s : State} {m : MethodId} {below : List Frame} {meth : Method} {c : Code} {K : ix_Cx} {b Ls kc ns : Nat} {xs : Nat → Int32} (hKp : ix_Kp K) (hF : ix_Fc K) (hT : ix_Tc K) (X : ix_X p s m #[Value.ref b] c K code R_law 4) (hX : va_X b Ls xs s s.heap) (hbl : b < s.heap.size) (hbN : ¬ ix_A K b) (hkc : kc + 8 ≤ 600000) (hns : ns + 400 ≤ 7302250) {n : Nat} {z z1 : ix_Z} {a1 a2 : Nat} {x3 : Int32} {d d1 : ix_D2} (h : f_law_1386 n Ls xs z a1 a2 x3 d = some (z1, d1)) (kk : ix_G p l e room_1 s m #[Value.ref b] below meth c (lw_Z below #[Value.ref b] s) K 4 (kc + 8) (ns + 400) 1718 [(0, .ref b), (1, .ref (K.2.2.1 + a1)), (2, .ref (K.2.2.1 + a2)), (3, .int x3)] [] (ix_w z1 d1)) : ix_G p l e room_1 s m #[Value.ref b] below meth c (lw_Z below #[Value.ref b] s) K 4 kc ns 1386 [(0, .ref b), (1, .ref (K.2.2.1 + a1)), (2, .ref (K.2.2.1 + a2)), (3, .int x3)] [] (ix_w z d) := by
  unfold f_law_1386 at h
  refine ix_aload_n (i := 1) (j := 1) X (ix_tb_at tb_law 886 rfl) rfl rfl (pc1 := 1387) rfl ?_
  refine ix_aload_n (i := 0) (j := 0) X (ix_tb_at tb_law 887 rfl) rfl rfl (pc1 := 1388) rfl ?_
  refine ix_iload_n (i := 3) (j := 3) X (ix_tb_at tb_law 888 rfl) rfl rfl (pc1 := 1389) rfl ?_
  refine ix_iconst (v := 1) X (ix_tb_at tb_law 889 rfl) (by decide) (pc1 := 1390) rfl ?_
  refine ix_iadd X (ix_tb_at tb_law 890 rfl) (pc1 := 1391) rfl ?_
  obtain ⟨k_496, h⟩ := ix_ck_some h
  refine ix_sld X hX hbl hbN k_496 (ix_tb_at tb_law 891 rfl) (pc1 := 1392) rfl ?_
  obtain ⟨k_499, h⟩ := ix_ck_some h
  obtain ⟨r_500, d_497, h_498, h⟩ := ix_bd2_ex h
  refine ix_callV (As := [.int (xs (ix_n (x3 + 1)))]) (rest := []) (ci := 10) (T := TX11) (nf := 18) X mf_X11_strike mi_X11_strike ms_X11_strike rfl (Nat.le_of_ble_eq_true rfl) ml_R_law_184 ⟨Nat.le_of_ble_eq_true rfl, Nat.le_of_ble_eq_true rfl⟩ ⟨Nat.le_trans (by omega) hkc, Nat.le_trans (by omega) hns⟩ rfl (Nat.le_of_ble_eq_true rfl) (ix_tb_at tb_law 892 rfl) ⟨k_499.1, List.mem_singleton.mp k_499.2⟩ (c_X11_strike hKp h_498) rfl (pc1 := 1395) rfl ?_
  refine ix_aload_n (i := 2) (j := 2) X (ix_tb_at tb_law 893 rfl) rfl rfl (pc1 := 1396) rfl ?_
  refine ix_aload_n (i := 0) (j := 0) X (ix_tb_at tb_law 894 rfl) rfl rfl (pc1 := 1397) rfl ?_
  refine ix_iload_n (i := 3) (j := 3) X (ix_tb_at tb_law 895 rfl) rfl rfl (pc1 := 1398) rfl ?_
  refine ix_iconst (v := 1) X (ix_tb_at tb_law 896 rfl) (by decide) (pc1 := 1399) rfl ?_
  refine ix_iadd X (ix_tb_at tb_law 897 rfl) (pc1 := 1400) rfl ?_
  refine ix_sld X hX hbl hbN k_496 (ix_tb_at tb_law 898 rfl) (pc1 := 1401) rfl ?_
  obtain ⟨k_503, h⟩ := ix_ck_some h
  obtain ⟨r_504, d_501, h_502, h⟩ := ix_bd2_ex h
  refine ix_callV (As := [.int (xs (ix_n (x3 + 1)))]) (rest := [.int r_500]) (ci := 11) (T := TX12) (nf := 116) X mf_X12_strike mi_X12_strike ms_X12_strike rfl (Nat.le_of_ble_eq_true rfl) ml_R_law_187 ⟨Nat.le_of_ble_eq_true rfl, Nat.le_of_ble_eq_true rfl⟩ ⟨Nat.le_trans (by omega) hkc, Nat.le_trans (by omega) hns⟩ rfl (Nat.le_of_ble_eq_true rfl) (ix_tb_at tb_law 899 rfl) ⟨k_503.1, List.mem_singleton.mp k_503.2⟩ (c_X12_strike hKp h_502) rfl (pc1 := 1404) rfl ?_
  refine ix_icmp_eq (tgt := 1718) X (ix_tb_at tb_law 900 rfl) (by decide) (pc1 := 1407) rfl (fun q_505 => ?_) (fun q_505 => ?_)
  · have h := ix_ift q_505 h
    obtain ⟨rfl, rfl⟩ := ix_sm h
    exact ix_widen (by omega) (by omega) kk
  · have h := ix_iff q_505 h
    refine ix_iconst (v := 0) X (ix_tb_at tb_law 901 rfl) (by decide) (pc1 := 1408) rfl ?_
    cases h
set_option maxRecDepth 20000 in
theorem t_law_1409 {l : Launch} {p : Program} {e : Env} {s : State} {m : MethodId} {below : List Frame} {meth : Method} {c : Code} {K : ix_Cx} {b Ls kc ns : Nat} {xs : Nat → Int32} (hKp : ix_Kp K) (hF : ix_Fc K) (hT : ix_Tc K) (X : ix_X p s m #[Value.ref b] c K code R_law 4) (hX : va_X b Ls xs s s.heap) (hbl : b < s.heap.size) (hbN : ¬ ix_A K b) (hkc : kc + 8 ≤ 600000) (hns : ns + 400 ≤ 7302250) {n : Nat} {z z1 : ix_Z} {a1 a2 : Nat} {x3 : Int32} {d d1 : ix_D2} (h : f_law_1409 n Ls xs z a1 a2 x3 d = some (z1, d1)) (kk : ix_G p l e room_1 s m #[Value.ref b] below meth c (lw_Z below #[Value.ref b] s) K 4 (kc + 8) (ns + 400) 1718 [(0, .ref b), (1, .ref (K.2.2.1 + a1)), (2, .ref (K.2.2.1 + a2)), (3, .int x3)] [] (ix_w z1 d1)) : ix_G p l e room_1 s m #[Value.ref b] below meth c (lw_Z below #[Value.ref b] s) K 4 kc ns 1409 [(0, .ref b), (1, .ref (K.2.2.1 + a1)), (2, .ref (K.2.2.1 + a2)), (3, .int x3)] [] (ix_w z d) := by
  unfold f_law_1409 at h
  refine ix_aload_n (i := 1) (j := 1) X (ix_tb_at tb_law 903 rfl) rfl rfl (pc1 := 1410) rfl ?_
  refine ix_aload_n (i := 0) (j := 0) X (ix_tb_at tb_law 904 rfl) rfl rfl (pc1 := 1411) rfl ?_
  refine ix_iload_n (i := 3) (j := 3) X (ix_tb_at tb_law 905 rfl) rfl rfl (pc1 := 1412) rfl ?_
  refine ix_iconst (v := 1) X (ix_tb_at tb_law 906 rfl) (by decide) (pc1 := 1413) rfl ?_
  refine ix_iadd X (ix_tb_at tb_law 907 rfl) (pc1 := 1414) rfl ?_
  obtain ⟨k_507, h⟩ := ix_ck_some h
  refine ix_sld X hX hbl hbN k_507 (ix_tb_at tb_law 908 rfl) (pc1 := 1415) rfl ?_
  refine ix_aload_n (i := 0) (j := 0) X (ix_tb_at tb_law 909 rfl) rfl rfl (pc1 := 1416) rfl ?_
  refine ix_iload_n (i := 3) (j := 3) X (ix_tb_at tb_law 910 rfl) rfl rfl (pc1 := 1417) rfl ?_
  refine ix_iconst (v := 2) X (ix_tb_at tb_law 911 rfl) (by decide) (pc1 := 1418) rfl ?_
  refine ix_iadd X (ix_tb_at tb_law 912 rfl) (pc1 := 1419) rfl ?_
  obtain ⟨k_508, h⟩ := ix_ck_some h
  refine ix_sld X hX hbl hbN k_508 (ix_tb_at tb_law 913 rfl) (pc1 := 1420) rfl ?_
  obtain ⟨k_511, h⟩ := ix_ck_some h
  obtain ⟨r_512, d_509, h_510, h⟩ := ix_bd2_ex h
  refine ix_callV (As := [.int (xs (ix_n (x3 + 1))), .int (xs (ix_n (x3 + 2)))]) (rest := []) (ci := 10) (T := TX11) (nf := 18) X mf_X11_proof mi_X11_proof ms_X11_proof rfl (Nat.le_of_ble_eq_true rfl) ml_R_law_188 ⟨Nat.le_of_ble_eq_true rfl, Nat.le_of_ble_eq_true rfl⟩ ⟨Nat.le_trans (by omega) hkc, Nat.le_trans (by omega) hns⟩ rfl (Nat.le_of_ble_eq_true rfl) (ix_tb_at tb_law 914 rfl) ⟨k_511.1, List.mem_singleton.mp k_511.2⟩ (c_X11_proof hKp h_510) rfl (pc1 := 1423) rfl ?_
  refine ix_aload_n (i := 2) (j := 2) X (ix_tb_at tb_law 915 rfl) rfl rfl (pc1 := 1424) rfl ?_
  refine ix_aload_n (i := 0) (j := 0) X (ix_tb_at tb_law 916 rfl) rfl rfl (pc1 := 1425) rfl ?_
  refine ix_iload_n (i := 3) (j := 3) X (ix_tb_at tb_law 917 rfl) rfl rfl (pc1 := 1426) rfl ?_
  refine ix_iconst (v := 1) X (ix_tb_at tb_law 918 rfl) (by decide) (pc1 := 1427) rfl ?_
  refine ix_iadd X (ix_tb_at tb_law 919 rfl) (pc1 := 1428) rfl ?_
  refine ix_sld X hX hbl hbN k_507 (ix_tb_at tb_law 920 rfl) (pc1 := 1429) rfl ?_
  refine ix_aload_n (i := 0) (j := 0) X (ix_tb_at tb_law 921 rfl) rfl rfl (pc1 := 1430) rfl ?_
  refine ix_iload_n (i := 3) (j := 3) X (ix_tb_at tb_law 922 rfl) rfl rfl (pc1 := 1431) rfl ?_
  refine ix_iconst (v := 2) X (ix_tb_at tb_law 923 rfl) (by decide) (pc1 := 1432) rfl ?_
  refine ix_iadd X (ix_tb_at tb_law 924 rfl) (pc1 := 1433) rfl ?_
  refine ix_sld X hX hbl hbN k_508 (ix_tb_at tb_law 925 rfl) (pc1 := 1434) rfl ?_
  obtain ⟨k_515, h⟩ := ix_ck_some h
  obtain ⟨r_516, d_513, h_514, h⟩ := ix_bd2_ex h
  refine ix_callV (As := [.int (xs (ix_n (x3 + 1))), .int (xs (ix_n (x3 + 2)))]) (rest := [.int r_512]) (ci := 11) (T := TX12) (nf := 116) X mf_X12_proof mi_X12_proof ms_X12_proof rfl (Nat.le_of_ble_eq_true rfl) ml_R_law_191 ⟨Nat.le_of_ble_eq_true rfl, Nat.le_of_ble_eq_true rfl⟩ ⟨Nat.le_trans (by omega) hkc, Nat.le_trans (by omega) hns⟩ rfl (Nat.le_of_ble_eq_true rfl) (ix_tb_at tb_law 926 rfl) ⟨k_515.1, List.mem_singleton.mp k_515.2⟩ (c_X12_proof hKp h_514) rfl (pc1 := 1437) rfl ?_
  refine ix_icmp_eq (tgt := 1718) X (ix_tb_at tb_law 927 rfl) (by decide) (pc1 := 1440) rfl (fun q_517 => ?_) (fun q_517 => ?_)
  · have h := ix_ift q_517 h
    obtain ⟨rfl, rfl⟩ := ix_sm h
    exact ix_widen (by omega) (by omega) kk
  · have h := ix_iff q_517 h
    refine ix_iconst (v := 0) X (ix_tb_at tb_law 928 rfl) (by decide) (pc1 := 1441) rfl ?_
    cases h
set_option maxRecDepth 20000 in
theorem t_law_1442 {l : Launch} {p : Program} {e : Env} {s : State} {m : MethodId} {below : List Frame} {meth : Method} {c : Code} {K : ix_Cx} {b Ls kc ns : Nat} {xs : Nat → Int32} (hKp : ix_Kp K) (hF : ix_Fc K) (hT : ix_Tc K) (X : ix_X p s m #[Value.ref b] c K code R_law 4) (hX : va_X b Ls xs s s.heap) (hbl : b < s.heap.size) (hbN : ¬ ix_A K b) (hkc : kc + 8 ≤ 600000) (hns : ns + 400 ≤ 7302250) {n : Nat} {z z1 : ix_Z} {a1 a2 : Nat} {x3 : Int32} {d d1 : ix_D2} (h : f_law_1442 n Ls xs z a1 a2 x3 d = some (z1, d1)) (kk : ix_G p l e room_1 s m #[Value.ref b] below meth c (lw_Z below #[Value.ref b] s) K 4 (kc + 8) (ns + 400) 1718 [(0, .ref b), (1, .ref (K.2.2.1 + a1)), (2, .ref (K.2.2.1 + a2)), (3, .int x3)] [] (ix_w z1 d1)) : ix_G p l e room_1 s m #[Value.ref b] below meth c (lw_Z below #[Value.ref b] s) K 4 kc ns 1442 [(0, .ref b), (1, .ref (K.2.2.1 + a1)), (2, .ref (K.2.2.1 + a2)), (3, .int x3)] [] (ix_w z d) := by
  unfold f_law_1442 at h
  refine ix_aload_n (i := 1) (j := 1) X (ix_tb_at tb_law 930 rfl) rfl rfl (pc1 := 1443) rfl ?_
  obtain ⟨k_521, h⟩ := ix_ck_some h
  obtain ⟨r_522, d_519, h_520, h⟩ := ix_bd2_ex h
  refine ix_callV (As := []) (rest := []) (ci := 10) (T := TX11) (nf := 18) X mf_X11_check mi_X11_check ms_X11_check rfl (Nat.le_of_ble_eq_true rfl) ml_R_law_192 ⟨Nat.le_of_ble_eq_true rfl, Nat.le_of_ble_eq_true rfl⟩ ⟨Nat.le_trans (by omega) hkc, Nat.le_trans (by omega) hns⟩ rfl (Nat.le_of_ble_eq_true rfl) (ix_tb_at tb_law 931 rfl) ⟨k_521.1, List.mem_singleton.mp k_521.2⟩ (c_X11_check hKp h_520) rfl (pc1 := 1446) rfl ?_
  refine ix_aload_n (i := 2) (j := 2) X (ix_tb_at tb_law 932 rfl) rfl rfl (pc1 := 1447) rfl ?_
  obtain ⟨k_525, h⟩ := ix_ck_some h
  obtain ⟨r_526, d_523, h_524, h⟩ := ix_bd2_ex h
  refine ix_callV (As := []) (rest := [.int r_522]) (ci := 11) (T := TX12) (nf := 116) X mf_X12_check mi_X12_check ms_X12_check rfl (Nat.le_of_ble_eq_true rfl) ml_R_law_195 ⟨Nat.le_of_ble_eq_true rfl, Nat.le_of_ble_eq_true rfl⟩ ⟨Nat.le_trans (by omega) hkc, Nat.le_trans (by omega) hns⟩ rfl (Nat.le_of_ble_eq_true rfl) (ix_tb_at tb_law 933 rfl) ⟨k_525.1, List.mem_singleton.mp k_525.2⟩ (c_X12_check hKp h_524) rfl (pc1 := 1450) rfl ?_
  refine ix_icmp_eq (tgt := 1718) X (ix_tb_at tb_law 934 rfl) (by decide) (pc1 := 1453) rfl (fun q_527 => ?_) (fun q_527 => ?_)
  · have h := ix_ift q_527 h
    obtain ⟨rfl, rfl⟩ := ix_sm h
    exact ix_widen (by omega) (by omega) kk
  · have h := ix_iff q_527 h
    refine ix_iconst (v := 0) X (ix_tb_at tb_law 935 rfl) (by decide) (pc1 := 1454) rfl ?_
    cases h
set_option maxRecDepth 20000 in
theorem t_law_1455 {l : Launch} {p : Program} {e : Env} {s : State} {m : MethodId} {below : List Frame} {meth : Method} {c : Code} {K : ix_Cx} {b Ls kc ns : Nat} {xs : Nat → Int32} (hKp : ix_Kp K) (hF : ix_Fc K) (hT : ix_Tc K) (X : ix_X p s m #[Value.ref b] c K code R_law 4) (hX : va_X b Ls xs s s.heap) (hbl : b < s.heap.size) (hbN : ¬ ix_A K b) (hkc : kc + 8 ≤ 600000) (hns : ns + 400 ≤ 7302250) {n : Nat} {z z1 : ix_Z} {a1 a2 : Nat} {x3 : Int32} {d d1 : ix_D2} (h : f_law_1455 n Ls xs z a1 a2 x3 d = some (z1, d1)) (kk : ix_G p l e room_1 s m #[Value.ref b] below meth c (lw_Z below #[Value.ref b] s) K 4 (kc + 8) (ns + 400) 1718 [(0, .ref b), (1, .ref (K.2.2.1 + a1)), (2, .ref (K.2.2.1 + a2)), (3, .int x3)] [] (ix_w z1 d1)) : ix_G p l e room_1 s m #[Value.ref b] below meth c (lw_Z below #[Value.ref b] s) K 4 kc ns 1455 [(0, .ref b), (1, .ref (K.2.2.1 + a1)), (2, .ref (K.2.2.1 + a2)), (3, .int x3)] [] (ix_w z d) := by
  unfold f_law_1455 at h
  refine ix_aload_n (i := 1) (j := 1) X (ix_tb_at tb_law 937 rfl) rfl rfl (pc1 := 1456) rfl ?_
  obtain ⟨k_531, h⟩ := ix_ck_some h
  obtain ⟨r_532, d_529, h_530, h⟩ := ix_bd2_ex h
  refine ix_callV (As := []) (rest := []) (ci := 10) (T := TX11) (nf := 18) X mf_X11_refusedAt mi_X11_refusedAt ms_X11_refusedAt rfl (Nat.le_of_ble_eq_true rfl) ml_R_law_196 ⟨Nat.le_of_ble_eq_true rfl, Nat.le_of_ble_eq_true rfl⟩ ⟨Nat.le_trans (by omega) hkc, Nat.le_trans (by omega) hns⟩ rfl (Nat.le_of_ble_eq_true rfl) (ix_tb_at tb_law 938 rfl) ⟨k_531.1, List.mem_singleton.mp k_531.2⟩ (c_X11_refusedAt hKp h_530) rfl (pc1 := 1459) rfl ?_
  refine ix_aload_n (i := 2) (j := 2) X (ix_tb_at tb_law 939 rfl) rfl rfl (pc1 := 1460) rfl ?_
  obtain ⟨k_535, h⟩ := ix_ck_some h
  obtain ⟨r_536, d_533, h_534, h⟩ := ix_bd2_ex h
  refine ix_callV (As := []) (rest := [.int r_532]) (ci := 11) (T := TX12) (nf := 116) X mf_X12_refusedAt mi_X12_refusedAt ms_X12_refusedAt rfl (Nat.le_of_ble_eq_true rfl) ml_R_law_199 ⟨Nat.le_of_ble_eq_true rfl, Nat.le_of_ble_eq_true rfl⟩ ⟨Nat.le_trans (by omega) hkc, Nat.le_trans (by omega) hns⟩ rfl (Nat.le_of_ble_eq_true rfl) (ix_tb_at tb_law 940 rfl) ⟨k_535.1, List.mem_singleton.mp k_535.2⟩ (c_X12_refusedAt hKp h_534) rfl (pc1 := 1463) rfl ?_
  refine ix_icmp_eq (tgt := 1718) X (ix_tb_at tb_law 941 rfl) (by decide) (pc1 := 1466) rfl (fun q_537 => ?_) (fun q_537 => ?_)
  · have h := ix_ift q_537 h
    obtain ⟨rfl, rfl⟩ := ix_sm h
    exact ix_widen (by omega) (by omega) kk
  · have h := ix_iff q_537 h
    refine ix_iconst (v := 0) X (ix_tb_at tb_law 942 rfl) (by decide) (pc1 := 1467) rfl ?_
    cases h
set_option maxRecDepth 20000 in
theorem t_law_1468 {l : Launch} {p : Program} {e : Env} {s : State} {m : MethodId} {below : List Frame} {meth : Method} {c : Code} {K : ix_Cx} {b Ls kc ns : Nat} {xs : Nat → Int32} (hKp : ix_Kp K) (hF : ix_Fc K) (hT : ix_Tc K) (X : ix_X p s m #[Value.ref b] c K code R_law 4) (hX : va_X b Ls xs s s.heap) (hbl : b < s.heap.size) (hbN : ¬ ix_A K b) (hkc : kc + 8 ≤ 600000) (hns : ns + 400 ≤ 7302250) {n : Nat} {z z1 : ix_Z} {a1 a2 : Nat} {x3 : Int32} {d d1 : ix_D2} (h : f_law_1468 n Ls xs z a1 a2 x3 d = some (z1, d1)) (kk : ix_G p l e room_1 s m #[Value.ref b] below meth c (lw_Z below #[Value.ref b] s) K 4 (kc + 8) (ns + 400) 1718 [(0, .ref b), (1, .ref (K.2.2.1 + a1)), (2, .ref (K.2.2.1 + a2)), (3, .int x3)] [] (ix_w z1 d1)) : ix_G p l e room_1 s m #[Value.ref b] below meth c (lw_Z below #[Value.ref b] s) K 4 kc ns 1468 [(0, .ref b), (1, .ref (K.2.2.1 + a1)), (2, .ref (K.2.2.1 + a2)), (3, .int x3)] [] (ix_w z d) := by
  unfold f_law_1468 at h
  refine ix_aload_n (i := 1) (j := 1) X (ix_tb_at tb_law 944 rfl) rfl rfl (pc1 := 1469) rfl ?_
  refine ix_aload_n (i := 0) (j := 0) X (ix_tb_at tb_law 945 rfl) rfl rfl (pc1 := 1470) rfl ?_
  refine ix_iload_n (i := 3) (j := 3) X (ix_tb_at tb_law 946 rfl) rfl rfl (pc1 := 1471) rfl ?_
  refine ix_iconst (v := 1) X (ix_tb_at tb_law 947 rfl) (by decide) (pc1 := 1472) rfl ?_
  refine ix_iadd X (ix_tb_at tb_law 948 rfl) (pc1 := 1473) rfl ?_
  obtain ⟨k_539, h⟩ := ix_ck_some h
  refine ix_sld X hX hbl hbN k_539 (ix_tb_at tb_law 949 rfl) (pc1 := 1474) rfl ?_
  refine ix_aload_n (i := 0) (j := 0) X (ix_tb_at tb_law 950 rfl) rfl rfl (pc1 := 1475) rfl ?_
  refine ix_iload_n (i := 3) (j := 3) X (ix_tb_at tb_law 951 rfl) rfl rfl (pc1 := 1476) rfl ?_
  refine ix_iconst (v := 2) X (ix_tb_at tb_law 952 rfl) (by decide) (pc1 := 1477) rfl ?_
  refine ix_iadd X (ix_tb_at tb_law 953 rfl) (pc1 := 1478) rfl ?_
  obtain ⟨k_540, h⟩ := ix_ck_some h
  refine ix_sld X hX hbl hbN k_540 (ix_tb_at tb_law 954 rfl) (pc1 := 1479) rfl ?_
  refine ix_if_eq (tgt := 1486) X (ix_tb_at tb_law 955 rfl) (by decide) (pc1 := 1482) rfl (fun q_541 => ?_) (fun q_541 => ?_)
  · have h := ix_ift q_541 h
    refine ix_iconst (v := 0) X (ix_tb_at tb_law 958 rfl) (by decide) (pc1 := 1487) rfl ?_
    obtain ⟨k_544, h⟩ := ix_ck_some h
    obtain ⟨r_545, d_542, h_543, h⟩ := ix_bd2_ex h
    refine ix_callV (As := [.int (xs (ix_n (x3 + 1))), .int 0]) (rest := []) (ci := 10) (T := TX11) (nf := 18) X mf_X11_counted mi_X11_counted ms_X11_counted rfl (Nat.le_of_ble_eq_true rfl) ml_R_law_200 ⟨Nat.le_of_ble_eq_true rfl, Nat.le_of_ble_eq_true rfl⟩ ⟨Nat.le_trans (by omega) hkc, Nat.le_trans (by omega) hns⟩ rfl (Nat.le_of_ble_eq_true rfl) (ix_tb_at tb_law 959 rfl) ⟨k_544.1, List.mem_singleton.mp k_544.2⟩ (c_X11_counted hKp h_543) rfl (pc1 := 1490) rfl ?_
    refine ix_aload_n (i := 2) (j := 2) X (ix_tb_at tb_law 960 rfl) rfl rfl (pc1 := 1491) rfl ?_
    refine ix_aload_n (i := 0) (j := 0) X (ix_tb_at tb_law 961 rfl) rfl rfl (pc1 := 1492) rfl ?_
    refine ix_iload_n (i := 3) (j := 3) X (ix_tb_at tb_law 962 rfl) rfl rfl (pc1 := 1493) rfl ?_
    refine ix_iconst (v := 1) X (ix_tb_at tb_law 963 rfl) (by decide) (pc1 := 1494) rfl ?_
    refine ix_iadd X (ix_tb_at tb_law 964 rfl) (pc1 := 1495) rfl ?_
    refine ix_sld X hX hbl hbN k_539 (ix_tb_at tb_law 965 rfl) (pc1 := 1496) rfl ?_
    refine ix_aload_n (i := 0) (j := 0) X (ix_tb_at tb_law 966 rfl) rfl rfl (pc1 := 1497) rfl ?_
    refine ix_iload_n (i := 3) (j := 3) X (ix_tb_at tb_law 967 rfl) rfl rfl (pc1 := 1498) rfl ?_
    refine ix_iconst (v := 2) X (ix_tb_at tb_law 968 rfl) (by decide) (pc1 := 1499) rfl ?_
    refine ix_iadd X (ix_tb_at tb_law 969 rfl) (pc1 := 1500) rfl ?_
    refine ix_sld X hX hbl hbN k_540 (ix_tb_at tb_law 970 rfl) (pc1 := 1501) rfl ?_
    refine ix_if_eq (tgt := 1508) X (ix_tb_at tb_law 971 rfl) (by decide) (pc1 := 1504) rfl (fun q_546 => ?_) (fun q_546 => ?_)
    · have h := ix_ift q_546 h
      refine ix_iconst (v := 0) X (ix_tb_at tb_law 974 rfl) (by decide) (pc1 := 1509) rfl ?_
      obtain ⟨k_549, h⟩ := ix_ck_some h
      obtain ⟨r_550, d_547, h_548, h⟩ := ix_bd2_ex h
      refine ix_callV (As := [.int (xs (ix_n (x3 + 1))), .int 0]) (rest := [.int r_545]) (ci := 11) (T := TX12) (nf := 116) X mf_X12_counted mi_X12_counted ms_X12_counted rfl (Nat.le_of_ble_eq_true rfl) ml_R_law_203 ⟨Nat.le_of_ble_eq_true rfl, Nat.le_of_ble_eq_true rfl⟩ ⟨Nat.le_trans (by omega) hkc, Nat.le_trans (by omega) hns⟩ rfl (Nat.le_of_ble_eq_true rfl) (ix_tb_at tb_law 975 rfl) ⟨k_549.1, List.mem_singleton.mp k_549.2⟩ (c_X12_counted hKp h_548) rfl (pc1 := 1512) rfl ?_
      refine ix_icmp_eq (tgt := 1718) X (ix_tb_at tb_law 976 rfl) (by decide) (pc1 := 1515) rfl (fun q_551 => ?_) (fun q_551 => ?_)
      · have h := ix_ift q_551 h
        obtain ⟨rfl, rfl⟩ := ix_sm h
        exact ix_widen (by omega) (by omega) kk
      · have h := ix_iff q_551 h
        refine ix_iconst (v := 0) X (ix_tb_at tb_law 977 rfl) (by decide) (pc1 := 1516) rfl ?_
        cases h
    · have h := ix_iff q_546 h
      refine ix_iconst (v := 1) X (ix_tb_at tb_law 972 rfl) (by decide) (pc1 := 1505) rfl ?_
      refine ix_goto (tgt := 1509) X (ix_tb_at tb_law 973 rfl) (by decide) ?_
      obtain ⟨k_554, h⟩ := ix_ck_some h
      obtain ⟨r_555, d_552, h_553, h⟩ := ix_bd2_ex h
      refine ix_callV (As := [.int (xs (ix_n (x3 + 1))), .int 1]) (rest := [.int r_545]) (ci := 11) (T := TX12) (nf := 116) X mf_X12_counted mi_X12_counted ms_X12_counted rfl (Nat.le_of_ble_eq_true rfl) ml_R_law_203 ⟨Nat.le_of_ble_eq_true rfl, Nat.le_of_ble_eq_true rfl⟩ ⟨Nat.le_trans (by omega) hkc, Nat.le_trans (by omega) hns⟩ rfl (Nat.le_of_ble_eq_true rfl) (ix_tb_at tb_law 975 rfl) ⟨k_554.1, List.mem_singleton.mp k_554.2⟩ (c_X12_counted hKp h_553) rfl (pc1 := 1512) rfl ?_
      refine ix_icmp_eq (tgt := 1718) X (ix_tb_at tb_law 976 rfl) (by decide) (pc1 := 1515) rfl (fun q_556 => ?_) (fun q_556 => ?_)
      · have h := ix_ift q_556 h
        obtain ⟨rfl, rfl⟩ := ix_sm h
        exact ix_widen (by omega) (by omega) kk
      · have h := ix_iff q_556 h
        refine ix_iconst (v := 0) X (ix_tb_at tb_law 977 rfl) (by decide) (pc1 := 1516) rfl ?_
        cases h
  · have h := ix_iff q_541 h
    refine ix_iconst (v := 1) X (ix_tb_at tb_law 956 rfl) (by decide) (pc1 := 1483) rfl ?_
    refine ix_goto (tgt := 1487) X (ix_tb_at tb_law 957 rfl) (by decide) ?_
    obtain ⟨k_559, h⟩ := ix_ck_some h
    obtain ⟨r_560, d_557, h_558, h⟩ := ix_bd2_ex h
    refine ix_callV (As := [.int (xs (ix_n (x3 + 1))), .int 1]) (rest := []) (ci := 10) (T := TX11) (nf := 18) X mf_X11_counted mi_X11_counted ms_X11_counted rfl (Nat.le_of_ble_eq_true rfl) ml_R_law_200 ⟨Nat.le_of_ble_eq_true rfl, Nat.le_of_ble_eq_true rfl⟩ ⟨Nat.le_trans (by omega) hkc, Nat.le_trans (by omega) hns⟩ rfl (Nat.le_of_ble_eq_true rfl) (ix_tb_at tb_law 959 rfl) ⟨k_559.1, List.mem_singleton.mp k_559.2⟩ (c_X11_counted hKp h_558) rfl (pc1 := 1490) rfl ?_
    refine ix_aload_n (i := 2) (j := 2) X (ix_tb_at tb_law 960 rfl) rfl rfl (pc1 := 1491) rfl ?_
    refine ix_aload_n (i := 0) (j := 0) X (ix_tb_at tb_law 961 rfl) rfl rfl (pc1 := 1492) rfl ?_
    refine ix_iload_n (i := 3) (j := 3) X (ix_tb_at tb_law 962 rfl) rfl rfl (pc1 := 1493) rfl ?_
    refine ix_iconst (v := 1) X (ix_tb_at tb_law 963 rfl) (by decide) (pc1 := 1494) rfl ?_
    refine ix_iadd X (ix_tb_at tb_law 964 rfl) (pc1 := 1495) rfl ?_
    refine ix_sld X hX hbl hbN k_539 (ix_tb_at tb_law 965 rfl) (pc1 := 1496) rfl ?_
    refine ix_aload_n (i := 0) (j := 0) X (ix_tb_at tb_law 966 rfl) rfl rfl (pc1 := 1497) rfl ?_
    refine ix_iload_n (i := 3) (j := 3) X (ix_tb_at tb_law 967 rfl) rfl rfl (pc1 := 1498) rfl ?_
    refine ix_iconst (v := 2) X (ix_tb_at tb_law 968 rfl) (by decide) (pc1 := 1499) rfl ?_
    refine ix_iadd X (ix_tb_at tb_law 969 rfl) (pc1 := 1500) rfl ?_
    refine ix_sld X hX hbl hbN k_540 (ix_tb_at tb_law 970 rfl) (pc1 := 1501) rfl ?_
    refine ix_if_eq (tgt := 1508) X (ix_tb_at tb_law 971 rfl) (by decide) (pc1 := 1504) rfl (fun q_561 => ?_) (fun q_561 => ?_)
    · have h := ix_ift q_561 h
      refine ix_iconst (v := 0) X (ix_tb_at tb_law 974 rfl) (by decide) (pc1 := 1509) rfl ?_
      obtain ⟨k_564, h⟩ := ix_ck_some h
      obtain ⟨r_565, d_562, h_563, h⟩ := ix_bd2_ex h
      refine ix_callV (As := [.int (xs (ix_n (x3 + 1))), .int 0]) (rest := [.int r_560]) (ci := 11) (T := TX12) (nf := 116) X mf_X12_counted mi_X12_counted ms_X12_counted rfl (Nat.le_of_ble_eq_true rfl) ml_R_law_203 ⟨Nat.le_of_ble_eq_true rfl, Nat.le_of_ble_eq_true rfl⟩ ⟨Nat.le_trans (by omega) hkc, Nat.le_trans (by omega) hns⟩ rfl (Nat.le_of_ble_eq_true rfl) (ix_tb_at tb_law 975 rfl) ⟨k_564.1, List.mem_singleton.mp k_564.2⟩ (c_X12_counted hKp h_563) rfl (pc1 := 1512) rfl ?_
      refine ix_icmp_eq (tgt := 1718) X (ix_tb_at tb_law 976 rfl) (by decide) (pc1 := 1515) rfl (fun q_566 => ?_) (fun q_566 => ?_)
      · have h := ix_ift q_566 h
        obtain ⟨rfl, rfl⟩ := ix_sm h
        exact ix_widen (by omega) (by omega) kk
      · have h := ix_iff q_566 h
        refine ix_iconst (v := 0) X (ix_tb_at tb_law 977 rfl) (by decide) (pc1 := 1516) rfl ?_
        cases h
    · have h := ix_iff q_561 h
      refine ix_iconst (v := 1) X (ix_tb_at tb_law 972 rfl) (by decide) (pc1 := 1505) rfl ?_
      refine ix_goto (tgt := 1509) X (ix_tb_at tb_law 973 rfl) (by decide) ?_
      obtain ⟨k_569, h⟩ := ix_ck_some h
      obtain ⟨r_570, d_567, h_568, h⟩ := ix_bd2_ex h
      refine ix_callV (As := [.int (xs (ix_n (x3 + 1))), .int 1]) (rest := [.int r_560]) (ci := 11) (T := TX12) (nf := 116) X mf_X12_counted mi_X12_counted ms_X12_counted rfl (Nat.le_of_ble_eq_true rfl) ml_R_law_203 ⟨Nat.le_of_ble_eq_true rfl, Nat.le_of_ble_eq_true rfl⟩ ⟨Nat.le_trans (by omega) hkc, Nat.le_trans (by omega) hns⟩ rfl (Nat.le_of_ble_eq_true rfl) (ix_tb_at tb_law 975 rfl) ⟨k_569.1, List.mem_singleton.mp k_569.2⟩ (c_X12_counted hKp h_568) rfl (pc1 := 1512) rfl ?_
      refine ix_icmp_eq (tgt := 1718) X (ix_tb_at tb_law 976 rfl) (by decide) (pc1 := 1515) rfl (fun q_571 => ?_) (fun q_571 => ?_)
      · have h := ix_ift q_571 h
        obtain ⟨rfl, rfl⟩ := ix_sm h
        exact ix_widen (by omega) (by omega) kk
      · have h := ix_iff q_571 h
        refine ix_iconst (v := 0) X (ix_tb_at tb_law 977 rfl) (by decide) (pc1 := 1516) rfl ?_
        cases h
set_option maxRecDepth 20000 in
theorem t_law_1517 {l : Launch} {p : Program} {e : Env} {s : State} {m : MethodId} {below : List Frame} {meth : Method} {c : Code} {K : ix_Cx} {b Ls kc ns : Nat} {xs : Nat → Int32} (hKp : ix_Kp K) (hF : ix_Fc K) (hT : ix_Tc K) (X : ix_X p s m #[Value.ref b] c K code R_law 4) (hX : va_X b Ls xs s s.heap) (hbl : b < s.heap.size) (hbN : ¬ ix_A K b) (hkc : kc + 8 ≤ 600000) (hns : ns + 400 ≤ 7302250) {n : Nat} {z z1 : ix_Z} {a1 a2 : Nat} {x3 : Int32} {d d1 : ix_D2} (h : f_law_1517 n Ls xs z a1 a2 x3 d = some (z1, d1)) (kk : ix_G p l e room_1 s m #[Value.ref b] below meth c (lw_Z below #[Value.ref b] s) K 4 (kc + 8) (ns + 400) 1718 [(0, .ref b), (1, .ref (K.2.2.1 + a1)), (2, .ref (K.2.2.1 + a2)), (3, .int x3)] [] (ix_w z1 d1)) : ix_G p l e room_1 s m #[Value.ref b] below meth c (lw_Z below #[Value.ref b] s) K 4 kc ns 1517 [(0, .ref b), (1, .ref (K.2.2.1 + a1)), (2, .ref (K.2.2.1 + a2)), (3, .int x3)] [] (ix_w z d) := by
  unfold f_law_1517 at h
  refine ix_aload_n (i := 1) (j := 1) X (ix_tb_at tb_law 979 rfl) rfl rfl (pc1 := 1518) rfl ?_
  refine ix_aload_n (i := 0) (j := 0) X (ix_tb_at tb_law 980 rfl) rfl rfl (pc1 := 1519) rfl ?_
  refine ix_iload_n (i := 3) (j := 3) X (ix_tb_at tb_law 981 rfl) rfl rfl (pc1 := 1520) rfl ?_
  refine ix_iconst (v := 1) X (ix_tb_at tb_law 982 rfl) (by decide) (pc1 := 1521) rfl ?_
  refine ix_iadd X (ix_tb_at tb_law 983 rfl) (pc1 := 1522) rfl ?_
  obtain ⟨k_573, h⟩ := ix_ck_some h
  refine ix_sld X hX hbl hbN k_573 (ix_tb_at tb_law 984 rfl) (pc1 := 1523) rfl ?_
  obtain ⟨k_576, h⟩ := ix_ck_some h
  obtain ⟨r_577, d_574, h_575, h⟩ := ix_bd2_ex h
  refine ix_callV (As := [.int (xs (ix_n (x3 + 1)))]) (rest := []) (ci := 10) (T := TX11) (nf := 18) X mf_X11_next mi_X11_next ms_X11_next rfl (Nat.le_of_ble_eq_true rfl) ml_R_law_204 ⟨Nat.le_of_ble_eq_true rfl, Nat.le_of_ble_eq_true rfl⟩ ⟨Nat.le_trans (by omega) hkc, Nat.le_trans (by omega) hns⟩ rfl (Nat.le_of_ble_eq_true rfl) (ix_tb_at tb_law 985 rfl) ⟨k_576.1, List.mem_singleton.mp k_576.2⟩ (c_X11_next hKp h_575) rfl (pc1 := 1526) rfl ?_
  refine ix_aload_n (i := 2) (j := 2) X (ix_tb_at tb_law 986 rfl) rfl rfl (pc1 := 1527) rfl ?_
  refine ix_aload_n (i := 0) (j := 0) X (ix_tb_at tb_law 987 rfl) rfl rfl (pc1 := 1528) rfl ?_
  refine ix_iload_n (i := 3) (j := 3) X (ix_tb_at tb_law 988 rfl) rfl rfl (pc1 := 1529) rfl ?_
  refine ix_iconst (v := 1) X (ix_tb_at tb_law 989 rfl) (by decide) (pc1 := 1530) rfl ?_
  refine ix_iadd X (ix_tb_at tb_law 990 rfl) (pc1 := 1531) rfl ?_
  refine ix_sld X hX hbl hbN k_573 (ix_tb_at tb_law 991 rfl) (pc1 := 1532) rfl ?_
  obtain ⟨k_580, h⟩ := ix_ck_some h
  obtain ⟨r_581, d_578, h_579, h⟩ := ix_bd2_ex h
  refine ix_callV (As := [.int (xs (ix_n (x3 + 1)))]) (rest := [.int r_577]) (ci := 11) (T := TX12) (nf := 116) X mf_X12_next mi_X12_next ms_X12_next rfl (Nat.le_of_ble_eq_true rfl) ml_R_law_207 ⟨Nat.le_of_ble_eq_true rfl, Nat.le_of_ble_eq_true rfl⟩ ⟨Nat.le_trans (by omega) hkc, Nat.le_trans (by omega) hns⟩ rfl (Nat.le_of_ble_eq_true rfl) (ix_tb_at tb_law 992 rfl) ⟨k_580.1, List.mem_singleton.mp k_580.2⟩ (c_X12_next hKp h_579) rfl (pc1 := 1535) rfl ?_
  refine ix_icmp_eq (tgt := 1718) X (ix_tb_at tb_law 993 rfl) (by decide) (pc1 := 1538) rfl (fun q_582 => ?_) (fun q_582 => ?_)
  · have h := ix_ift q_582 h
    obtain ⟨rfl, rfl⟩ := ix_sm h
    exact ix_widen (by omega) (by omega) kk
  · have h := ix_iff q_582 h
    refine ix_iconst (v := 0) X (ix_tb_at tb_law 994 rfl) (by decide) (pc1 := 1539) rfl ?_
    cases h
set_option maxRecDepth 20000 in
theorem t_law_1540 {l : Launch} {p : Program} {e : Env} {s : State} {m : MethodId} {below : List Frame} {meth : Method} {c : Code} {K : ix_Cx} {b Ls kc ns : Nat} {xs : Nat → Int32} (hKp : ix_Kp K) (hF : ix_Fc K) (hT : ix_Tc K) (X : ix_X p s m #[Value.ref b] c K code R_law 4) (hX : va_X b Ls xs s s.heap) (hbl : b < s.heap.size) (hbN : ¬ ix_A K b) (hkc : kc + 8 ≤ 600000) (hns : ns + 400 ≤ 7302250) {n : Nat} {z z1 : ix_Z} {a1 a2 : Nat} {x3 : Int32} {d d1 : ix_D2} (h : f_law_1540 n Ls xs z a1 a2 x3 d = some (z1, d1)) (kk : ix_G p l e room_1 s m #[Value.ref b] below meth c (lw_Z below #[Value.ref b] s) K 4 (kc + 8) (ns + 400) 1718 [(0, .ref b), (1, .ref (K.2.2.1 + a1)), (2, .ref (K.2.2.1 + a2)), (3, .int x3)] [] (ix_w z1 d1)) : ix_G p l e room_1 s m #[Value.ref b] below meth c (lw_Z below #[Value.ref b] s) K 4 kc ns 1540 [(0, .ref b), (1, .ref (K.2.2.1 + a1)), (2, .ref (K.2.2.1 + a2)), (3, .int x3)] [] (ix_w z d) := by
  unfold f_law_1540 at h
  refine ix_aload_n (i := 1) (j := 1) X (ix_tb_at tb_law 996 rfl) rfl rfl (pc1 := 1541) rfl ?_
  obtain ⟨k_586, h⟩ := ix_ck_some h
  obtain ⟨r_587, d_584, h_585, h⟩ := ix_bd2_ex h
  refine ix_callV (As := []) (rest := []) (ci := 10) (T := TX11) (nf := 18) X mf_X11_unbar mi_X11_unbar ms_X11_unbar rfl (Nat.le_of_ble_eq_true rfl) ml_R_law_208 ⟨Nat.le_of_ble_eq_true rfl, Nat.le_of_ble_eq_true rfl⟩ ⟨Nat.le_trans (by omega) hkc, Nat.le_trans (by omega) hns⟩ rfl (Nat.le_of_ble_eq_true rfl) (ix_tb_at tb_law 997 rfl) ⟨k_586.1, List.mem_singleton.mp k_586.2⟩ (c_X11_unbar hKp h_585) rfl (pc1 := 1544) rfl ?_
  refine ix_aload_n (i := 2) (j := 2) X (ix_tb_at tb_law 998 rfl) rfl rfl (pc1 := 1545) rfl ?_
  obtain ⟨k_590, h⟩ := ix_ck_some h
  obtain ⟨r_591, d_588, h_589, h⟩ := ix_bd2_ex h
  refine ix_callV (As := []) (rest := [.int r_587]) (ci := 11) (T := TX12) (nf := 116) X mf_X12_unbar mi_X12_unbar ms_X12_unbar rfl (Nat.le_of_ble_eq_true rfl) ml_R_law_211 ⟨Nat.le_of_ble_eq_true rfl, Nat.le_of_ble_eq_true rfl⟩ ⟨Nat.le_trans (by omega) hkc, Nat.le_trans (by omega) hns⟩ rfl (Nat.le_of_ble_eq_true rfl) (ix_tb_at tb_law 999 rfl) ⟨k_590.1, List.mem_singleton.mp k_590.2⟩ (c_X12_unbar hKp h_589) rfl (pc1 := 1548) rfl ?_
  refine ix_icmp_eq (tgt := 1718) X (ix_tb_at tb_law 1000 rfl) (by decide) (pc1 := 1551) rfl (fun q_592 => ?_) (fun q_592 => ?_)
  · have h := ix_ift q_592 h
    obtain ⟨rfl, rfl⟩ := ix_sm h
    exact ix_widen (by omega) (by omega) kk
  · have h := ix_iff q_592 h
    refine ix_iconst (v := 0) X (ix_tb_at tb_law 1001 rfl) (by decide) (pc1 := 1552) rfl ?_
    cases h
set_option maxRecDepth 20000 in
theorem t_law_1553 {l : Launch} {p : Program} {e : Env} {s : State} {m : MethodId} {below : List Frame} {meth : Method} {c : Code} {K : ix_Cx} {b Ls kc ns : Nat} {xs : Nat → Int32} (hKp : ix_Kp K) (hF : ix_Fc K) (hT : ix_Tc K) (X : ix_X p s m #[Value.ref b] c K code R_law 4) (hX : va_X b Ls xs s s.heap) (hbl : b < s.heap.size) (hbN : ¬ ix_A K b) (hkc : kc + 8 ≤ 600000) (hns : ns + 400 ≤ 7302250) {n : Nat} {z z1 : ix_Z} {a1 a2 : Nat} {x3 : Int32} {d d1 : ix_D2} (h : f_law_1553 n Ls xs z a1 a2 x3 d = some (z1, d1)) (kk : ix_G p l e room_1 s m #[Value.ref b] below meth c (lw_Z below #[Value.ref b] s) K 4 (kc + 8) (ns + 400) 1718 [(0, .ref b), (1, .ref (K.2.2.1 + a1)), (2, .ref (K.2.2.1 + a2)), (3, .int x3)] [] (ix_w z1 d1)) : ix_G p l e room_1 s m #[Value.ref b] below meth c (lw_Z below #[Value.ref b] s) K 4 kc ns 1553 [(0, .ref b), (1, .ref (K.2.2.1 + a1)), (2, .ref (K.2.2.1 + a2)), (3, .int x3)] [] (ix_w z d) := by
  unfold f_law_1553 at h
  refine ix_aload_n (i := 1) (j := 1) X (ix_tb_at tb_law 1003 rfl) rfl rfl (pc1 := 1554) rfl ?_
  refine ix_aload_n (i := 0) (j := 0) X (ix_tb_at tb_law 1004 rfl) rfl rfl (pc1 := 1555) rfl ?_
  refine ix_iload_n (i := 3) (j := 3) X (ix_tb_at tb_law 1005 rfl) rfl rfl (pc1 := 1556) rfl ?_
  refine ix_iconst (v := 1) X (ix_tb_at tb_law 1006 rfl) (by decide) (pc1 := 1557) rfl ?_
  refine ix_iadd X (ix_tb_at tb_law 1007 rfl) (pc1 := 1558) rfl ?_
  obtain ⟨k_594, h⟩ := ix_ck_some h
  refine ix_sld X hX hbl hbN k_594 (ix_tb_at tb_law 1008 rfl) (pc1 := 1559) rfl ?_
  refine ix_aload_n (i := 0) (j := 0) X (ix_tb_at tb_law 1009 rfl) rfl rfl (pc1 := 1560) rfl ?_
  refine ix_iload_n (i := 3) (j := 3) X (ix_tb_at tb_law 1010 rfl) rfl rfl (pc1 := 1561) rfl ?_
  refine ix_iconst (v := 2) X (ix_tb_at tb_law 1011 rfl) (by decide) (pc1 := 1562) rfl ?_
  refine ix_iadd X (ix_tb_at tb_law 1012 rfl) (pc1 := 1563) rfl ?_
  obtain ⟨k_595, h⟩ := ix_ck_some h
  refine ix_sld X hX hbl hbN k_595 (ix_tb_at tb_law 1013 rfl) (pc1 := 1564) rfl ?_
  obtain ⟨k_598, h⟩ := ix_ck_some h
  obtain ⟨r_599, d_596, h_597, h⟩ := ix_bd2_ex h
  refine ix_callV (As := [.int (xs (ix_n (x3 + 1))), .int (xs (ix_n (x3 + 2)))]) (rest := []) (ci := 10) (T := TX11) (nf := 18) X mf_X11_count mi_X11_count ms_X11_count rfl (Nat.le_of_ble_eq_true rfl) ml_R_law_212 ⟨Nat.le_of_ble_eq_true rfl, Nat.le_of_ble_eq_true rfl⟩ ⟨Nat.le_trans (by omega) hkc, Nat.le_trans (by omega) hns⟩ rfl (Nat.le_of_ble_eq_true rfl) (ix_tb_at tb_law 1014 rfl) ⟨k_598.1, List.mem_singleton.mp k_598.2⟩ (c_X11_count hKp h_597) rfl (pc1 := 1567) rfl ?_
  refine ix_aload_n (i := 2) (j := 2) X (ix_tb_at tb_law 1015 rfl) rfl rfl (pc1 := 1568) rfl ?_
  refine ix_aload_n (i := 0) (j := 0) X (ix_tb_at tb_law 1016 rfl) rfl rfl (pc1 := 1569) rfl ?_
  refine ix_iload_n (i := 3) (j := 3) X (ix_tb_at tb_law 1017 rfl) rfl rfl (pc1 := 1570) rfl ?_
  refine ix_iconst (v := 1) X (ix_tb_at tb_law 1018 rfl) (by decide) (pc1 := 1571) rfl ?_
  refine ix_iadd X (ix_tb_at tb_law 1019 rfl) (pc1 := 1572) rfl ?_
  refine ix_sld X hX hbl hbN k_594 (ix_tb_at tb_law 1020 rfl) (pc1 := 1573) rfl ?_
  refine ix_aload_n (i := 0) (j := 0) X (ix_tb_at tb_law 1021 rfl) rfl rfl (pc1 := 1574) rfl ?_
  refine ix_iload_n (i := 3) (j := 3) X (ix_tb_at tb_law 1022 rfl) rfl rfl (pc1 := 1575) rfl ?_
  refine ix_iconst (v := 2) X (ix_tb_at tb_law 1023 rfl) (by decide) (pc1 := 1576) rfl ?_
  refine ix_iadd X (ix_tb_at tb_law 1024 rfl) (pc1 := 1577) rfl ?_
  refine ix_sld X hX hbl hbN k_595 (ix_tb_at tb_law 1025 rfl) (pc1 := 1578) rfl ?_
  obtain ⟨k_602, h⟩ := ix_ck_some h
  obtain ⟨r_603, d_600, h_601, h⟩ := ix_bd2_ex h
  refine ix_callV (As := [.int (xs (ix_n (x3 + 1))), .int (xs (ix_n (x3 + 2)))]) (rest := [.int r_599]) (ci := 11) (T := TX12) (nf := 116) X mf_X12_count mi_X12_count ms_X12_count rfl (Nat.le_of_ble_eq_true rfl) ml_R_law_215 ⟨Nat.le_of_ble_eq_true rfl, Nat.le_of_ble_eq_true rfl⟩ ⟨Nat.le_trans (by omega) hkc, Nat.le_trans (by omega) hns⟩ rfl (Nat.le_of_ble_eq_true rfl) (ix_tb_at tb_law 1026 rfl) ⟨k_602.1, List.mem_singleton.mp k_602.2⟩ (c_X12_count hKp h_601) rfl (pc1 := 1581) rfl ?_
  refine ix_icmp_eq (tgt := 1718) X (ix_tb_at tb_law 1027 rfl) (by decide) (pc1 := 1584) rfl (fun q_604 => ?_) (fun q_604 => ?_)
  · have h := ix_ift q_604 h
    obtain ⟨rfl, rfl⟩ := ix_sm h
    exact ix_widen (by omega) (by omega) kk
  · have h := ix_iff q_604 h
    refine ix_iconst (v := 0) X (ix_tb_at tb_law 1028 rfl) (by decide) (pc1 := 1585) rfl ?_
    cases h
set_option maxRecDepth 20000 in
theorem t_law_1586 {l : Launch} {p : Program} {e : Env} {s : State} {m : MethodId} {below : List Frame} {meth : Method} {c : Code} {K : ix_Cx} {b Ls kc ns : Nat} {xs : Nat → Int32} (hKp : ix_Kp K) (hF : ix_Fc K) (hT : ix_Tc K) (X : ix_X p s m #[Value.ref b] c K code R_law 4) (hX : va_X b Ls xs s s.heap) (hbl : b < s.heap.size) (hbN : ¬ ix_A K b) (hkc : kc + 8 ≤ 600000) (hns : ns + 400 ≤ 7302250) {n : Nat} {z z1 : ix_Z} {a1 a2 : Nat} {x3 : Int32} {d d1 : ix_D2} (h : f_law_1586 n Ls xs z a1 a2 x3 d = some (z1, d1)) (kk : ix_G p l e room_1 s m #[Value.ref b] below meth c (lw_Z below #[Value.ref b] s) K 4 (kc + 8) (ns + 400) 1718 [(0, .ref b), (1, .ref (K.2.2.1 + a1)), (2, .ref (K.2.2.1 + a2)), (3, .int x3)] [] (ix_w z1 d1)) : ix_G p l e room_1 s m #[Value.ref b] below meth c (lw_Z below #[Value.ref b] s) K 4 kc ns 1586 [(0, .ref b), (1, .ref (K.2.2.1 + a1)), (2, .ref (K.2.2.1 + a2)), (3, .int x3)] [] (ix_w z d) := by
  unfold f_law_1586 at h
  refine ix_aload_n (i := 1) (j := 1) X (ix_tb_at tb_law 1030 rfl) rfl rfl (pc1 := 1587) rfl ?_
  obtain ⟨k_608, h⟩ := ix_ck_some h
  obtain ⟨r_609, d_606, h_607, h⟩ := ix_bd2_ex h
  refine ix_callV (As := []) (rest := []) (ci := 10) (T := TX11) (nf := 18) X mf_X11_forced mi_X11_forced ms_X11_forced rfl (Nat.le_of_ble_eq_true rfl) ml_R_law_216 ⟨Nat.le_of_ble_eq_true rfl, Nat.le_of_ble_eq_true rfl⟩ ⟨Nat.le_trans (by omega) hkc, Nat.le_trans (by omega) hns⟩ rfl (Nat.le_of_ble_eq_true rfl) (ix_tb_at tb_law 1031 rfl) ⟨k_608.1, List.mem_singleton.mp k_608.2⟩ (c_X11_forced hKp h_607) rfl (pc1 := 1590) rfl ?_
  refine ix_aload_n (i := 2) (j := 2) X (ix_tb_at tb_law 1032 rfl) rfl rfl (pc1 := 1591) rfl ?_
  obtain ⟨k_612, h⟩ := ix_ck_some h
  obtain ⟨r_613, d_610, h_611, h⟩ := ix_bd2_ex h
  refine ix_callV (As := []) (rest := [.int r_609]) (ci := 11) (T := TX12) (nf := 116) X mf_X12_forced mi_X12_forced ms_X12_forced rfl (Nat.le_of_ble_eq_true rfl) ml_R_law_219 ⟨Nat.le_of_ble_eq_true rfl, Nat.le_of_ble_eq_true rfl⟩ ⟨Nat.le_trans (by omega) hkc, Nat.le_trans (by omega) hns⟩ rfl (Nat.le_of_ble_eq_true rfl) (ix_tb_at tb_law 1033 rfl) ⟨k_612.1, List.mem_singleton.mp k_612.2⟩ (c_X12_forced hKp h_611) rfl (pc1 := 1594) rfl ?_
  refine ix_icmp_eq (tgt := 1718) X (ix_tb_at tb_law 1034 rfl) (by decide) (pc1 := 1597) rfl (fun q_614 => ?_) (fun q_614 => ?_)
  · have h := ix_ift q_614 h
    obtain ⟨rfl, rfl⟩ := ix_sm h
    exact ix_widen (by omega) (by omega) kk
  · have h := ix_iff q_614 h
    refine ix_iconst (v := 0) X (ix_tb_at tb_law 1035 rfl) (by decide) (pc1 := 1598) rfl ?_
    cases h
set_option maxRecDepth 20000 in
theorem t_law_1599 {l : Launch} {p : Program} {e : Env} {s : State} {m : MethodId} {below : List Frame} {meth : Method} {c : Code} {K : ix_Cx} {b Ls kc ns : Nat} {xs : Nat → Int32} (hKp : ix_Kp K) (hF : ix_Fc K) (hT : ix_Tc K) (X : ix_X p s m #[Value.ref b] c K code R_law 4) (hX : va_X b Ls xs s s.heap) (hbl : b < s.heap.size) (hbN : ¬ ix_A K b) (hkc : kc + 8 ≤ 600000) (hns : ns + 400 ≤ 7302250) {n : Nat} {z z1 : ix_Z} {a1 a2 : Nat} {x3 : Int32} {d d1 : ix_D2} (h : f_law_1599 n Ls xs z a1 a2 x3 d = some (z1, d1)) (kk : ix_G p l e room_1 s m #[Value.ref b] below meth c (lw_Z below #[Value.ref b] s) K 4 (kc + 8) (ns + 400) 1718 [(0, .ref b), (1, .ref (K.2.2.1 + a1)), (2, .ref (K.2.2.1 + a2)), (3, .int x3)] [] (ix_w z1 d1)) : ix_G p l e room_1 s m #[Value.ref b] below meth c (lw_Z below #[Value.ref b] s) K 4 kc ns 1599 [(0, .ref b), (1, .ref (K.2.2.1 + a1)), (2, .ref (K.2.2.1 + a2)), (3, .int x3)] [] (ix_w z d) := by
  unfold f_law_1599 at h
  refine ix_aload_n (i := 1) (j := 1) X (ix_tb_at tb_law 1037 rfl) rfl rfl (pc1 := 1600) rfl ?_
  refine ix_aload_n (i := 0) (j := 0) X (ix_tb_at tb_law 1038 rfl) rfl rfl (pc1 := 1601) rfl ?_
  refine ix_iload_n (i := 3) (j := 3) X (ix_tb_at tb_law 1039 rfl) rfl rfl (pc1 := 1602) rfl ?_
  refine ix_iconst (v := 1) X (ix_tb_at tb_law 1040 rfl) (by decide) (pc1 := 1603) rfl ?_
  refine ix_iadd X (ix_tb_at tb_law 1041 rfl) (pc1 := 1604) rfl ?_
  obtain ⟨k_616, h⟩ := ix_ck_some h
  refine ix_sld X hX hbl hbN k_616 (ix_tb_at tb_law 1042 rfl) (pc1 := 1605) rfl ?_
  obtain ⟨k_619, h⟩ := ix_ck_some h
  obtain ⟨r_620, d_617, h_618, h⟩ := ix_bd2_ex h
  refine ix_callV (As := [.int (xs (ix_n (x3 + 1)))]) (rest := []) (ci := 10) (T := TX11) (nf := 18) X mf_X11_forcedAt mi_X11_forcedAt ms_X11_forcedAt rfl (Nat.le_of_ble_eq_true rfl) ml_R_law_220 ⟨Nat.le_of_ble_eq_true rfl, Nat.le_of_ble_eq_true rfl⟩ ⟨Nat.le_trans (by omega) hkc, Nat.le_trans (by omega) hns⟩ rfl (Nat.le_of_ble_eq_true rfl) (ix_tb_at tb_law 1043 rfl) ⟨k_619.1, List.mem_singleton.mp k_619.2⟩ (c_X11_forcedAt hKp h_618) rfl (pc1 := 1608) rfl ?_
  refine ix_aload_n (i := 2) (j := 2) X (ix_tb_at tb_law 1044 rfl) rfl rfl (pc1 := 1609) rfl ?_
  refine ix_aload_n (i := 0) (j := 0) X (ix_tb_at tb_law 1045 rfl) rfl rfl (pc1 := 1610) rfl ?_
  refine ix_iload_n (i := 3) (j := 3) X (ix_tb_at tb_law 1046 rfl) rfl rfl (pc1 := 1611) rfl ?_
  refine ix_iconst (v := 1) X (ix_tb_at tb_law 1047 rfl) (by decide) (pc1 := 1612) rfl ?_
  refine ix_iadd X (ix_tb_at tb_law 1048 rfl) (pc1 := 1613) rfl ?_
  refine ix_sld X hX hbl hbN k_616 (ix_tb_at tb_law 1049 rfl) (pc1 := 1614) rfl ?_
  obtain ⟨k_623, h⟩ := ix_ck_some h
  obtain ⟨r_624, d_621, h_622, h⟩ := ix_bd2_ex h
  refine ix_callV (As := [.int (xs (ix_n (x3 + 1)))]) (rest := [.int r_620]) (ci := 11) (T := TX12) (nf := 116) X mf_X12_forcedAt mi_X12_forcedAt ms_X12_forcedAt rfl (Nat.le_of_ble_eq_true rfl) ml_R_law_223 ⟨Nat.le_of_ble_eq_true rfl, Nat.le_of_ble_eq_true rfl⟩ ⟨Nat.le_trans (by omega) hkc, Nat.le_trans (by omega) hns⟩ rfl (Nat.le_of_ble_eq_true rfl) (ix_tb_at tb_law 1050 rfl) ⟨k_623.1, List.mem_singleton.mp k_623.2⟩ (c_X12_forcedAt hKp h_622) rfl (pc1 := 1617) rfl ?_
  refine ix_icmp_eq (tgt := 1718) X (ix_tb_at tb_law 1051 rfl) (by decide) (pc1 := 1620) rfl (fun q_625 => ?_) (fun q_625 => ?_)
  · have h := ix_ift q_625 h
    obtain ⟨rfl, rfl⟩ := ix_sm h
    exact ix_widen (by omega) (by omega) kk
  · have h := ix_iff q_625 h
    refine ix_iconst (v := 0) X (ix_tb_at tb_law 1052 rfl) (by decide) (pc1 := 1621) rfl ?_
    cases h
set_option maxRecDepth 20000 in
theorem t_law_1622 {l : Launch} {p : Program} {e : Env} {s : State} {m : MethodId} {below : List Frame} {meth : Method} {c : Code} {K : ix_Cx} {b Ls kc ns : Nat} {xs : Nat → Int32} (hKp : ix_Kp K) (hF : ix_Fc K) (hT : ix_Tc K) (X : ix_X p s m #[Value.ref b] c K code R_law 4) (hX : va_X b Ls xs s s.heap) (hbl : b < s.heap.size) (hbN : ¬ ix_A K b) (hkc : kc + 8 ≤ 600000) (hns : ns + 400 ≤ 7302250) {n : Nat} {z z1 : ix_Z} {a1 a2 : Nat} {x3 : Int32} {d d1 : ix_D2} (h : f_law_1622 n Ls xs z a1 a2 x3 d = some (z1, d1)) (kk : ix_G p l e room_1 s m #[Value.ref b] below meth c (lw_Z below #[Value.ref b] s) K 4 (kc + 8) (ns + 400) 1718 [(0, .ref b), (1, .ref (K.2.2.1 + a1)), (2, .ref (K.2.2.1 + a2)), (3, .int x3)] [] (ix_w z1 d1)) : ix_G p l e room_1 s m #[Value.ref b] below meth c (lw_Z below #[Value.ref b] s) K 4 kc ns 1622 [(0, .ref b), (1, .ref (K.2.2.1 + a1)), (2, .ref (K.2.2.1 + a2)), (3, .int x3)] [] (ix_w z d) := by
  unfold f_law_1622 at h
  refine ix_aload_n (i := 1) (j := 1) X (ix_tb_at tb_law 1054 rfl) rfl rfl (pc1 := 1623) rfl ?_
  refine ix_aload_n (i := 0) (j := 0) X (ix_tb_at tb_law 1055 rfl) rfl rfl (pc1 := 1624) rfl ?_
  refine ix_iload_n (i := 3) (j := 3) X (ix_tb_at tb_law 1056 rfl) rfl rfl (pc1 := 1625) rfl ?_
  refine ix_iconst (v := 1) X (ix_tb_at tb_law 1057 rfl) (by decide) (pc1 := 1626) rfl ?_
  refine ix_iadd X (ix_tb_at tb_law 1058 rfl) (pc1 := 1627) rfl ?_
  obtain ⟨k_627, h⟩ := ix_ck_some h
  refine ix_sld X hX hbl hbN k_627 (ix_tb_at tb_law 1059 rfl) (pc1 := 1628) rfl ?_
  obtain ⟨k_630, h⟩ := ix_ck_some h
  obtain ⟨r_631, d_628, h_629, h⟩ := ix_bd2_ex h
  refine ix_callV (As := [.int (xs (ix_n (x3 + 1)))]) (rest := []) (ci := 10) (T := TX11) (nf := 18) X mf_X11_why mi_X11_why ms_X11_why rfl (Nat.le_of_ble_eq_true rfl) ml_R_law_224 ⟨Nat.le_of_ble_eq_true rfl, Nat.le_of_ble_eq_true rfl⟩ ⟨Nat.le_trans (by omega) hkc, Nat.le_trans (by omega) hns⟩ rfl (Nat.le_of_ble_eq_true rfl) (ix_tb_at tb_law 1060 rfl) ⟨k_630.1, List.mem_singleton.mp k_630.2⟩ (c_X11_why hKp h_629) rfl (pc1 := 1631) rfl ?_
  refine ix_aload_n (i := 2) (j := 2) X (ix_tb_at tb_law 1061 rfl) rfl rfl (pc1 := 1632) rfl ?_
  refine ix_aload_n (i := 0) (j := 0) X (ix_tb_at tb_law 1062 rfl) rfl rfl (pc1 := 1633) rfl ?_
  refine ix_iload_n (i := 3) (j := 3) X (ix_tb_at tb_law 1063 rfl) rfl rfl (pc1 := 1634) rfl ?_
  refine ix_iconst (v := 1) X (ix_tb_at tb_law 1064 rfl) (by decide) (pc1 := 1635) rfl ?_
  refine ix_iadd X (ix_tb_at tb_law 1065 rfl) (pc1 := 1636) rfl ?_
  refine ix_sld X hX hbl hbN k_627 (ix_tb_at tb_law 1066 rfl) (pc1 := 1637) rfl ?_
  obtain ⟨k_634, h⟩ := ix_ck_some h
  obtain ⟨r_635, d_632, h_633, h⟩ := ix_bd2_ex h
  refine ix_callV (As := [.int (xs (ix_n (x3 + 1)))]) (rest := [.int r_631]) (ci := 11) (T := TX12) (nf := 116) X mf_X12_why mi_X12_why ms_X12_why rfl (Nat.le_of_ble_eq_true rfl) ml_R_law_227 ⟨Nat.le_of_ble_eq_true rfl, Nat.le_of_ble_eq_true rfl⟩ ⟨Nat.le_trans (by omega) hkc, Nat.le_trans (by omega) hns⟩ rfl (Nat.le_of_ble_eq_true rfl) (ix_tb_at tb_law 1067 rfl) ⟨k_634.1, List.mem_singleton.mp k_634.2⟩ (c_X12_why hKp h_633) rfl (pc1 := 1640) rfl ?_
  refine ix_icmp_eq (tgt := 1718) X (ix_tb_at tb_law 1068 rfl) (by decide) (pc1 := 1643) rfl (fun q_636 => ?_) (fun q_636 => ?_)
  · have h := ix_ift q_636 h
    obtain ⟨rfl, rfl⟩ := ix_sm h
    exact ix_widen (by omega) (by omega) kk
  · have h := ix_iff q_636 h
    refine ix_iconst (v := 0) X (ix_tb_at tb_law 1069 rfl) (by decide) (pc1 := 1644) rfl ?_
    cases h
set_option maxRecDepth 20000 in
theorem t_law_1645 {l : Launch} {p : Program} {e : Env} {s : State} {m : MethodId} {below : List Frame} {meth : Method} {c : Code} {K : ix_Cx} {b Ls kc ns : Nat} {xs : Nat → Int32} (hKp : ix_Kp K) (hF : ix_Fc K) (hT : ix_Tc K) (X : ix_X p s m #[Value.ref b] c K code R_law 4) (hX : va_X b Ls xs s s.heap) (hbl : b < s.heap.size) (hbN : ¬ ix_A K b) (hkc : kc + 8 ≤ 600000) (hns : ns + 400 ≤ 7302250) {n : Nat} {z z1 : ix_Z} {a1 a2 : Nat} {x3 : Int32} {d d1 : ix_D2} (h : f_law_1645 n Ls xs z a1 a2 x3 d = some (z1, d1)) (kk : ix_G p l e room_1 s m #[Value.ref b] below meth c (lw_Z below #[Value.ref b] s) K 4 (kc + 8) (ns + 400) 1718 [(0, .ref b), (1, .ref (K.2.2.1 + a1)), (2, .ref (K.2.2.1 + a2)), (3, .int x3)] [] (ix_w z1 d1)) : ix_G p l e room_1 s m #[Value.ref b] below meth c (lw_Z below #[Value.ref b] s) K 4 kc ns 1645 [(0, .ref b), (1, .ref (K.2.2.1 + a1)), (2, .ref (K.2.2.1 + a2)), (3, .int x3)] [] (ix_w z d) := by
  unfold f_law_1645 at h
  refine ix_aload_n (i := 1) (j := 1) X (ix_tb_at tb_law 1071 rfl) rfl rfl (pc1 := 1646) rfl ?_
  refine ix_aload_n (i := 0) (j := 0) X (ix_tb_at tb_law 1072 rfl) rfl rfl (pc1 := 1647) rfl ?_
  refine ix_iload_n (i := 3) (j := 3) X (ix_tb_at tb_law 1073 rfl) rfl rfl (pc1 := 1648) rfl ?_
  refine ix_iconst (v := 1) X (ix_tb_at tb_law 1074 rfl) (by decide) (pc1 := 1649) rfl ?_
  refine ix_iadd X (ix_tb_at tb_law 1075 rfl) (pc1 := 1650) rfl ?_
  obtain ⟨k_638, h⟩ := ix_ck_some h
  refine ix_sld X hX hbl hbN k_638 (ix_tb_at tb_law 1076 rfl) (pc1 := 1651) rfl ?_
  obtain ⟨k_641, h⟩ := ix_ck_some h
  obtain ⟨r_642, d_639, h_640, h⟩ := ix_bd2_ex h
  refine ix_callV (As := [.int (xs (ix_n (x3 + 1)))]) (rest := []) (ci := 10) (T := TX11) (nf := 18) X mf_X11_trace mi_X11_trace ms_X11_trace rfl (Nat.le_of_ble_eq_true rfl) ml_R_law_228 ⟨Nat.le_of_ble_eq_true rfl, Nat.le_of_ble_eq_true rfl⟩ ⟨Nat.le_trans (by omega) hkc, Nat.le_trans (by omega) hns⟩ rfl (Nat.le_of_ble_eq_true rfl) (ix_tb_at tb_law 1077 rfl) ⟨k_641.1, List.mem_singleton.mp k_641.2⟩ (c_X11_trace hKp h_640) rfl (pc1 := 1654) rfl ?_
  refine ix_aload_n (i := 2) (j := 2) X (ix_tb_at tb_law 1078 rfl) rfl rfl (pc1 := 1655) rfl ?_
  refine ix_aload_n (i := 0) (j := 0) X (ix_tb_at tb_law 1079 rfl) rfl rfl (pc1 := 1656) rfl ?_
  refine ix_iload_n (i := 3) (j := 3) X (ix_tb_at tb_law 1080 rfl) rfl rfl (pc1 := 1657) rfl ?_
  refine ix_iconst (v := 1) X (ix_tb_at tb_law 1081 rfl) (by decide) (pc1 := 1658) rfl ?_
  refine ix_iadd X (ix_tb_at tb_law 1082 rfl) (pc1 := 1659) rfl ?_
  refine ix_sld X hX hbl hbN k_638 (ix_tb_at tb_law 1083 rfl) (pc1 := 1660) rfl ?_
  obtain ⟨k_645, h⟩ := ix_ck_some h
  obtain ⟨r_646, d_643, h_644, h⟩ := ix_bd2_ex h
  refine ix_callV (As := [.int (xs (ix_n (x3 + 1)))]) (rest := [.int r_642]) (ci := 11) (T := TX12) (nf := 116) X mf_X12_trace mi_X12_trace ms_X12_trace rfl (Nat.le_of_ble_eq_true rfl) ml_R_law_231 ⟨Nat.le_of_ble_eq_true rfl, Nat.le_of_ble_eq_true rfl⟩ ⟨Nat.le_trans (by omega) hkc, Nat.le_trans (by omega) hns⟩ rfl (Nat.le_of_ble_eq_true rfl) (ix_tb_at tb_law 1084 rfl) ⟨k_645.1, List.mem_singleton.mp k_645.2⟩ (c_X12_trace hKp h_644) rfl (pc1 := 1663) rfl ?_
  refine ix_icmp_eq (tgt := 1718) X (ix_tb_at tb_law 1085 rfl) (by decide) (pc1 := 1666) rfl (fun q_647 => ?_) (fun q_647 => ?_)
  · have h := ix_ift q_647 h
    obtain ⟨rfl, rfl⟩ := ix_sm h
    exact ix_widen (by omega) (by omega) kk
  · have h := ix_iff q_647 h
    refine ix_iconst (v := 0) X (ix_tb_at tb_law 1086 rfl) (by decide) (pc1 := 1667) rfl ?_
    cases h
set_option maxRecDepth 20000 in
theorem t_law_1668 {l : Launch} {p : Program} {e : Env} {s : State} {m : MethodId} {below : List Frame} {meth : Method} {c : Code} {K : ix_Cx} {b Ls kc ns : Nat} {xs : Nat → Int32} (hKp : ix_Kp K) (hF : ix_Fc K) (hT : ix_Tc K) (X : ix_X p s m #[Value.ref b] c K code R_law 4) (hX : va_X b Ls xs s s.heap) (hbl : b < s.heap.size) (hbN : ¬ ix_A K b) (hkc : kc + 8 ≤ 600000) (hns : ns + 400 ≤ 7302250) {n : Nat} {z z1 : ix_Z} {a1 a2 : Nat} {x3 : Int32} {d d1 : ix_D2} (h : f_law_1668 n Ls xs z a1 a2 x3 d = some (z1, d1)) (kk : ix_G p l e room_1 s m #[Value.ref b] below meth c (lw_Z below #[Value.ref b] s) K 4 (kc + 8) (ns + 400) 1718 [(0, .ref b), (1, .ref (K.2.2.1 + a1)), (2, .ref (K.2.2.1 + a2)), (3, .int x3)] [] (ix_w z1 d1)) : ix_G p l e room_1 s m #[Value.ref b] below meth c (lw_Z below #[Value.ref b] s) K 4 kc ns 1668 [(0, .ref b), (1, .ref (K.2.2.1 + a1)), (2, .ref (K.2.2.1 + a2)), (3, .int x3)] [] (ix_w z d) := by
  unfold f_law_1668 at h
  refine ix_aload_n (i := 1) (j := 1) X (ix_tb_at tb_law 1088 rfl) rfl rfl (pc1 := 1669) rfl ?_
  obtain ⟨k_651, h⟩ := ix_ck_some h
  obtain ⟨r_652, d_649, h_650, h⟩ := ix_bd2_ex h
  refine ix_callV (As := []) (rest := []) (ci := 10) (T := TX11) (nf := 18) X mf_X11_digest mi_X11_digest ms_X11_digest rfl (Nat.le_of_ble_eq_true rfl) ml_R_law_232 ⟨Nat.le_of_ble_eq_true rfl, Nat.le_of_ble_eq_true rfl⟩ ⟨Nat.le_trans (by omega) hkc, Nat.le_trans (by omega) hns⟩ rfl (Nat.le_of_ble_eq_true rfl) (ix_tb_at tb_law 1089 rfl) ⟨k_651.1, List.mem_singleton.mp k_651.2⟩ (c_X11_digest hKp h_650) rfl (pc1 := 1672) rfl ?_
  refine ix_aload_n (i := 2) (j := 2) X (ix_tb_at tb_law 1090 rfl) rfl rfl (pc1 := 1673) rfl ?_
  obtain ⟨k_655, h⟩ := ix_ck_some h
  obtain ⟨r_656, d_653, h_654, h⟩ := ix_bd2_ex h
  refine ix_callV (As := []) (rest := [.long r_652]) (ci := 11) (T := TX12) (nf := 116) X mf_X12_digest mi_X12_digest ms_X12_digest rfl (Nat.le_of_ble_eq_true rfl) ml_R_law_236 ⟨Nat.le_of_ble_eq_true rfl, Nat.le_of_ble_eq_true rfl⟩ ⟨Nat.le_trans (by omega) hkc, Nat.le_trans (by omega) hns⟩ rfl (Nat.le_of_ble_eq_true rfl) (ix_tb_at tb_law 1091 rfl) ⟨k_655.1, List.mem_singleton.mp k_655.2⟩ (c_X12_digest hKp h_654) rfl (pc1 := 1676) rfl ?_
  refine ix_lcmp X (ix_tb_at tb_law 1092 rfl) (pc1 := 1677) rfl ?_
  refine ix_if_eq (tgt := 1718) X (ix_tb_at tb_law 1093 rfl) (by decide) (pc1 := 1680) rfl (fun q_657 => ?_) (fun q_657 => ?_)
  · have h := ix_ift q_657 h
    obtain ⟨rfl, rfl⟩ := ix_sm h
    exact ix_widen (by omega) (by omega) kk
  · have h := ix_iff q_657 h
    refine ix_iconst (v := 0) X (ix_tb_at tb_law 1094 rfl) (by decide) (pc1 := 1681) rfl ?_
    cases h
set_option maxRecDepth 20000 in
theorem t_law_1682 {l : Launch} {p : Program} {e : Env} {s : State} {m : MethodId} {below : List Frame} {meth : Method} {c : Code} {K : ix_Cx} {b Ls kc ns : Nat} {xs : Nat → Int32} (hKp : ix_Kp K) (hF : ix_Fc K) (hT : ix_Tc K) (X : ix_X p s m #[Value.ref b] c K code R_law 4) (hX : va_X b Ls xs s s.heap) (hbl : b < s.heap.size) (hbN : ¬ ix_A K b) (hkc : kc + 8 ≤ 600000) (hns : ns + 400 ≤ 7302250) {n : Nat} {z z1 : ix_Z} {a1 a2 : Nat} {x3 : Int32} {d d1 : ix_D2} (h : f_law_1682 n Ls xs z a1 a2 x3 d = some (z1, d1)) (kk : ix_G p l e room_1 s m #[Value.ref b] below meth c (lw_Z below #[Value.ref b] s) K 4 (kc + 8) (ns + 400) 1718 [(0, .ref b), (1, .ref (K.2.2.1 + a1)), (2, .ref (K.2.2.1 + a2)), (3, .int x3)] [] (ix_w z1 d1)) : ix_G p l e room_1 s m #[Value.ref b] below meth c (lw_Z below #[Value.ref b] s) K 4 kc ns 1682 [(0, .ref b), (1, .ref (K.2.2.1 + a1)), (2, .ref (K.2.2.1 + a2)), (3, .int x3)] [] (ix_w z d) := by
  unfold f_law_1682 at h
  refine ix_aload_n (i := 1) (j := 1) X (ix_tb_at tb_law 1096 rfl) rfl rfl (pc1 := 1683) rfl ?_
  obtain ⟨k_661, h⟩ := ix_ck_some h
  obtain ⟨r_662, d_659, h_660, h⟩ := ix_bd2_ex h
  refine ix_callV (As := []) (rest := []) (ci := 10) (T := TX11) (nf := 18) X mf_X11_status mi_X11_status ms_X11_status rfl (Nat.le_of_ble_eq_true rfl) ml_R_law_237 ⟨Nat.le_of_ble_eq_true rfl, Nat.le_of_ble_eq_true rfl⟩ ⟨Nat.le_trans (by omega) hkc, Nat.le_trans (by omega) hns⟩ rfl (Nat.le_of_ble_eq_true rfl) (ix_tb_at tb_law 1097 rfl) ⟨k_661.1, List.mem_singleton.mp k_661.2⟩ (c_X11_status hKp h_660) rfl (pc1 := 1686) rfl ?_
  refine ix_aload_n (i := 2) (j := 2) X (ix_tb_at tb_law 1098 rfl) rfl rfl (pc1 := 1687) rfl ?_
  obtain ⟨k_665, h⟩ := ix_ck_some h
  obtain ⟨r_666, d_663, h_664, h⟩ := ix_bd2_ex h
  refine ix_callV (As := []) (rest := [.int r_662]) (ci := 11) (T := TX12) (nf := 116) X mf_X12_status mi_X12_status ms_X12_status rfl (Nat.le_of_ble_eq_true rfl) ml_R_law_240 ⟨Nat.le_of_ble_eq_true rfl, Nat.le_of_ble_eq_true rfl⟩ ⟨Nat.le_trans (by omega) hkc, Nat.le_trans (by omega) hns⟩ rfl (Nat.le_of_ble_eq_true rfl) (ix_tb_at tb_law 1099 rfl) ⟨k_665.1, List.mem_singleton.mp k_665.2⟩ (c_X12_status hKp h_664) rfl (pc1 := 1690) rfl ?_
  refine ix_icmp_eq (tgt := 1718) X (ix_tb_at tb_law 1100 rfl) (by decide) (pc1 := 1693) rfl (fun q_667 => ?_) (fun q_667 => ?_)
  · have h := ix_ift q_667 h
    obtain ⟨rfl, rfl⟩ := ix_sm h
    exact ix_widen (by omega) (by omega) kk
  · have h := ix_iff q_667 h
    refine ix_iconst (v := 0) X (ix_tb_at tb_law 1101 rfl) (by decide) (pc1 := 1694) rfl ?_
    cases h
set_option maxRecDepth 20000 in
theorem t_law_1695 {l : Launch} {p : Program} {e : Env} {s : State} {m : MethodId} {below : List Frame} {meth : Method} {c : Code} {K : ix_Cx} {b Ls kc ns : Nat} {xs : Nat → Int32} (hKp : ix_Kp K) (hF : ix_Fc K) (hT : ix_Tc K) (X : ix_X p s m #[Value.ref b] c K code R_law 4) (hX : va_X b Ls xs s s.heap) (hbl : b < s.heap.size) (hbN : ¬ ix_A K b) (hkc : kc + 8 ≤ 600000) (hns : ns + 400 ≤ 7302250) {n : Nat} {z z1 : ix_Z} {a1 a2 : Nat} {x3 : Int32} {d d1 : ix_D2} (h : f_law_1695 n Ls xs z a1 a2 x3 d = some (z1, d1)) (kk : ix_G p l e room_1 s m #[Value.ref b] below meth c (lw_Z below #[Value.ref b] s) K 4 (kc + 8) (ns + 400) 1718 [(0, .ref b), (1, .ref (K.2.2.1 + a1)), (2, .ref (K.2.2.1 + a2)), (3, .int x3)] [] (ix_w z1 d1)) : ix_G p l e room_1 s m #[Value.ref b] below meth c (lw_Z below #[Value.ref b] s) K 4 kc ns 1695 [(0, .ref b), (1, .ref (K.2.2.1 + a1)), (2, .ref (K.2.2.1 + a2)), (3, .int x3)] [] (ix_w z d) := by
  unfold f_law_1695 at h
  refine ix_aload_n (i := 1) (j := 1) X (ix_tb_at tb_law 1103 rfl) rfl rfl (pc1 := 1696) rfl ?_
  refine ix_aload_n (i := 0) (j := 0) X (ix_tb_at tb_law 1104 rfl) rfl rfl (pc1 := 1697) rfl ?_
  refine ix_iload_n (i := 3) (j := 3) X (ix_tb_at tb_law 1105 rfl) rfl rfl (pc1 := 1698) rfl ?_
  refine ix_iconst (v := 1) X (ix_tb_at tb_law 1106 rfl) (by decide) (pc1 := 1699) rfl ?_
  refine ix_iadd X (ix_tb_at tb_law 1107 rfl) (pc1 := 1700) rfl ?_
  obtain ⟨k_669, h⟩ := ix_ck_some h
  refine ix_sld X hX hbl hbN k_669 (ix_tb_at tb_law 1108 rfl) (pc1 := 1701) rfl ?_
  obtain ⟨k_672, h⟩ := ix_ck_some h
  obtain ⟨r_673, d_670, h_671, h⟩ := ix_bd2_ex h
  refine ix_callV (As := [.int (xs (ix_n (x3 + 1)))]) (rest := []) (ci := 10) (T := TX11) (nf := 18) X mf_X11_about mi_X11_about ms_X11_about rfl (Nat.le_of_ble_eq_true rfl) ml_R_law_241 ⟨Nat.le_of_ble_eq_true rfl, Nat.le_of_ble_eq_true rfl⟩ ⟨Nat.le_trans (by omega) hkc, Nat.le_trans (by omega) hns⟩ rfl (Nat.le_of_ble_eq_true rfl) (ix_tb_at tb_law 1109 rfl) ⟨k_672.1, List.mem_singleton.mp k_672.2⟩ (c_X11_about hKp h_671) rfl (pc1 := 1704) rfl ?_
  refine ix_aload_n (i := 2) (j := 2) X (ix_tb_at tb_law 1110 rfl) rfl rfl (pc1 := 1705) rfl ?_
  refine ix_aload_n (i := 0) (j := 0) X (ix_tb_at tb_law 1111 rfl) rfl rfl (pc1 := 1706) rfl ?_
  refine ix_iload_n (i := 3) (j := 3) X (ix_tb_at tb_law 1112 rfl) rfl rfl (pc1 := 1707) rfl ?_
  refine ix_iconst (v := 1) X (ix_tb_at tb_law 1113 rfl) (by decide) (pc1 := 1708) rfl ?_
  refine ix_iadd X (ix_tb_at tb_law 1114 rfl) (pc1 := 1709) rfl ?_
  refine ix_sld X hX hbl hbN k_669 (ix_tb_at tb_law 1115 rfl) (pc1 := 1710) rfl ?_
  obtain ⟨k_676, h⟩ := ix_ck_some h
  obtain ⟨r_677, d_674, h_675, h⟩ := ix_bd2_ex h
  refine ix_callV (As := [.int (xs (ix_n (x3 + 1)))]) (rest := [.int r_673]) (ci := 11) (T := TX12) (nf := 116) X mf_X12_about mi_X12_about ms_X12_about rfl (Nat.le_of_ble_eq_true rfl) ml_R_law_244 ⟨Nat.le_of_ble_eq_true rfl, Nat.le_of_ble_eq_true rfl⟩ ⟨Nat.le_trans (by omega) hkc, Nat.le_trans (by omega) hns⟩ rfl (Nat.le_of_ble_eq_true rfl) (ix_tb_at tb_law 1116 rfl) ⟨k_676.1, List.mem_singleton.mp k_676.2⟩ (c_X12_about hKp h_675) rfl (pc1 := 1713) rfl ?_
  refine ix_icmp_eq (tgt := 1718) X (ix_tb_at tb_law 1117 rfl) (by decide) (pc1 := 1716) rfl (fun q_678 => ?_) (fun q_678 => ?_)
  · have h := ix_ift q_678 h
    obtain ⟨rfl, rfl⟩ := ix_sm h
    exact ix_widen (by omega) (by omega) kk
  · have h := ix_iff q_678 h
    refine ix_iconst (v := 0) X (ix_tb_at tb_law 1118 rfl) (by decide) (pc1 := 1717) rfl ?_
    cases h
set_option maxRecDepth 20000 in
set_option maxHeartbeats 4000000 in
theorem t_law_body {l : Launch} {p : Program} {e : Env} {s : State} {m : MethodId} {below : List Frame} {meth : Method} {c : Code} {K : ix_Cx} {b Ls kc ns : Nat} {xs : Nat → Int32} (hKp : ix_Kp K) (hF : ix_Fc K) (hT : ix_Tc K) (X : ix_X p s m #[Value.ref b] c K code R_law 4) (hX : va_X b Ls xs s s.heap) (hbl : b < s.heap.size) (hbN : ¬ ix_A K b) (hkc : kc + 8 ≤ 600000) (hns : ns + 400 ≤ 7302250) {n : Nat} {z z1 : ix_Z} {a1 a2 : Nat} {x3 : Int32} {d d1 : ix_D2} (h : f_law_body n Ls xs z a1 a2 x3 d = some (z1, d1)) (kk : ix_G p l e room_1 s m #[Value.ref b] below meth c (lw_Z below #[Value.ref b] s) K 4 (kc + 8) (ns + 400) 1718 [(0, .ref b), (1, .ref (K.2.2.1 + a1)), (2, .ref (K.2.2.1 + a2)), (3, .int x3)] [] (ix_w z1 d1)) : ix_G p l e room_1 s m #[Value.ref b] below meth c (lw_Z below #[Value.ref b] s) K 4 kc ns 27 [(0, .ref b), (1, .ref (K.2.2.1 + a1)), (2, .ref (K.2.2.1 + a2)), (3, .int x3)] [] (ix_w z d) := by
  unfold f_law_body at h
  refine ix_aload_n (i := 0) (j := 0) X (ix_tb_at tb_law 16 rfl) rfl rfl (pc1 := 28) rfl ?_
  refine ix_iload_n (i := 3) (j := 3) X (ix_tb_at tb_law 17 rfl) rfl rfl (pc1 := 29) rfl ?_
  obtain ⟨k_1, h⟩ := ix_ck_some h
  refine ix_sld X hX hbl hbN k_1 (ix_tb_at tb_law 18 rfl) (pc1 := 30) rfl ?_
  refine ix_bipush (v := 63) X (ix_tb_at tb_law 19 rfl) (by decide) (pc1 := 32) rfl ?_
  refine ix_iand X (ix_tb_at tb_law 20 rfl) (pc1 := 33) rfl ?_
  rcases Classical.em ((xs (ix_n x3)) &&& 63 = 0) with q_2 | q_2
  · have h := ix_ift q_2 h
    refine ix_swin (tgt := 268) X (ix_tb_at tb_law 21 rfl) (by rw [q_2]; decide) (by rw [q_2]; decide) (by rw [q_2]; rfl) (by decide) ?_
    exact t_law_268 hKp hF hT X hX hbl hbN hkc hns h kk
  · have h := ix_iff q_2 h
    rcases Classical.em ((xs (ix_n x3)) &&& 63 = 1) with q_13 | q_13
    · have h := ix_ift q_13 h
      refine ix_swin (tgt := 291) X (ix_tb_at tb_law 21 rfl) (by rw [q_13]; decide) (by rw [q_13]; decide) (by rw [q_13]; rfl) (by decide) ?_
      exact t_law_291 hKp hF hT X hX hbl hbN hkc hns h kk
    · have h := ix_iff q_13 h
      rcases Classical.em ((xs (ix_n x3)) &&& 63 = 2) with q_25 | q_25
      · have h := ix_ift q_25 h
        refine ix_swin (tgt := 324) X (ix_tb_at tb_law 21 rfl) (by rw [q_25]; decide) (by rw [q_25]; decide) (by rw [q_25]; rfl) (by decide) ?_
        exact t_law_324 hKp hF hT X hX hbl hbN hkc hns h kk
      · have h := ix_iff q_25 h
        rcases Classical.em ((xs (ix_n x3)) &&& 63 = 3) with q_36 | q_36
        · have h := ix_ift q_36 h
          refine ix_swin (tgt := 347) X (ix_tb_at tb_law 21 rfl) (by rw [q_36]; decide) (by rw [q_36]; decide) (by rw [q_36]; rfl) (by decide) ?_
          exact t_law_347 hKp hF hT X hX hbl hbN hkc hns h kk
        · have h := ix_iff q_36 h
          rcases Classical.em ((xs (ix_n x3)) &&& 63 = 4) with q_49 | q_49
          · have h := ix_ift q_49 h
            refine ix_swin (tgt := 390) X (ix_tb_at tb_law 21 rfl) (by rw [q_49]; decide) (by rw [q_49]; decide) (by rw [q_49]; rfl) (by decide) ?_
            exact t_law_390 hKp hF hT X hX hbl hbN hkc hns h kk
          · have h := ix_iff q_49 h
            rcases Classical.em ((xs (ix_n x3)) &&& 63 = 5) with q_61 | q_61
            · have h := ix_ift q_61 h
              refine ix_swin (tgt := 424) X (ix_tb_at tb_law 21 rfl) (by rw [q_61]; decide) (by rw [q_61]; decide) (by rw [q_61]; rfl) (by decide) ?_
              exact t_law_424 hKp hF hT X hX hbl hbN hkc hns h kk
            · have h := ix_iff q_61 h
              rcases Classical.em ((xs (ix_n x3)) &&& 63 = 6) with q_76 | q_76
              · have h := ix_ift q_76 h
                refine ix_swin (tgt := 487) X (ix_tb_at tb_law 21 rfl) (by rw [q_76]; decide) (by rw [q_76]; decide) (by rw [q_76]; rfl) (by decide) ?_
                exact t_law_487 hKp hF hT X hX hbl hbN hkc hns h kk
              · have h := ix_iff q_76 h
                rcases Classical.em ((xs (ix_n x3)) &&& 63 = 7) with q_88 | q_88
                · have h := ix_ift q_88 h
                  refine ix_swin (tgt := 520) X (ix_tb_at tb_law 21 rfl) (by rw [q_88]; decide) (by rw [q_88]; decide) (by rw [q_88]; rfl) (by decide) ?_
                  exact t_law_520 hKp hF hT X hX hbl hbN hkc hns h kk
                · have h := ix_iff q_88 h
                  rcases Classical.em ((xs (ix_n x3)) &&& 63 = 8) with q_101 | q_101
                  · have h := ix_ift q_101 h
                    refine ix_swin (tgt := 583) X (ix_tb_at tb_law 21 rfl) (by rw [q_101]; decide) (by rw [q_101]; decide) (by rw [q_101]; rfl) (by decide) ?_
                    exact t_law_583 hKp hF hT X hX hbl hbN hkc hns h kk
                  · have h := ix_iff q_101 h
                    rcases Classical.em ((xs (ix_n x3)) &&& 63 = 9) with q_111 | q_111
                    · have h := ix_ift q_111 h
                      refine ix_swin (tgt := 596) X (ix_tb_at tb_law 21 rfl) (by rw [q_111]; decide) (by rw [q_111]; decide) (by rw [q_111]; rfl) (by decide) ?_
                      exact t_law_596 hKp hF hT X hX hbl hbN hkc hns h kk
                    · have h := ix_iff q_111 h
                      rcases Classical.em ((xs (ix_n x3)) &&& 63 = 10) with q_124 | q_124
                      · have h := ix_ift q_124 h
                        refine ix_swin (tgt := 619) X (ix_tb_at tb_law 21 rfl) (by rw [q_124]; decide) (by rw [q_124]; decide) (by rw [q_124]; rfl) (by decide) ?_
                        exact t_law_619 hKp hF hT X hX hbl hbN hkc hns h kk
                      · have h := ix_iff q_124 h
                        rcases Classical.em ((xs (ix_n x3)) &&& 63 = 11) with q_139 | q_139
                        · have h := ix_ift q_139 h
                          refine ix_swin (tgt := 652) X (ix_tb_at tb_law 21 rfl) (by rw [q_139]; decide) (by rw [q_139]; decide) (by rw [q_139]; rfl) (by decide) ?_
                          exact t_law_652 hKp hF hT X hX hbl hbN hkc hns h kk
                        · have h := ix_iff q_139 h
                          rcases Classical.em ((xs (ix_n x3)) &&& 63 = 12) with q_154 | q_154
                          · have h := ix_ift q_154 h
                            refine ix_swin (tgt := 685) X (ix_tb_at tb_law 21 rfl) (by rw [q_154]; decide) (by rw [q_154]; decide) (by rw [q_154]; rfl) (by decide) ?_
                            exact t_law_685 hKp hF hT X hX hbl hbN hkc hns h kk
                          · have h := ix_iff q_154 h
                            rcases Classical.em ((xs (ix_n x3)) &&& 63 = 13) with q_194 | q_194
                            · have h := ix_ift q_194 h
                              refine ix_swin (tgt := 734) X (ix_tb_at tb_law 21 rfl) (by rw [q_194]; decide) (by rw [q_194]; decide) (by rw [q_194]; rfl) (by decide) ?_
                              exact t_law_734 hKp hF hT X hX hbl hbN hkc hns h kk
                            · have h := ix_iff q_194 h
                              rcases Classical.em ((xs (ix_n x3)) &&& 63 = 14) with q_205 | q_205
                              · have h := ix_ift q_205 h
                                refine ix_swin (tgt := 747) X (ix_tb_at tb_law 21 rfl) (by rw [q_205]; decide) (by rw [q_205]; decide) (by rw [q_205]; rfl) (by decide) ?_
                                exact t_law_747 hKp hF hT X hX hbl hbN hkc hns h kk
                              · have h := ix_iff q_205 h
                                rcases Classical.em ((xs (ix_n x3)) &&& 63 = 15) with q_216 | q_216
                                · have h := ix_ift q_216 h
                                  refine ix_swin (tgt := 770) X (ix_tb_at tb_law 21 rfl) (by rw [q_216]; decide) (by rw [q_216]; decide) (by rw [q_216]; rfl) (by decide) ?_
                                  exact t_law_770 hKp hF hT X hX hbl hbN hkc hns h kk
                                · have h := ix_iff q_216 h
                                  rcases Classical.em ((xs (ix_n x3)) &&& 63 = 16) with q_228 | q_228
                                  · have h := ix_ift q_228 h
                                    refine ix_swin (tgt := 803) X (ix_tb_at tb_law 21 rfl) (by rw [q_228]; decide) (by rw [q_228]; decide) (by rw [q_228]; rfl) (by decide) ?_
                                    exact t_law_803 hKp hF hT X hX hbl hbN hkc hns h kk
                                  · have h := ix_iff q_228 h
                                    rcases Classical.em ((xs (ix_n x3)) &&& 63 = 17) with q_240 | q_240
                                    · have h := ix_ift q_240 h
                                      refine ix_swin (tgt := 836) X (ix_tb_at tb_law 21 rfl) (by rw [q_240]; decide) (by rw [q_240]; decide) (by rw [q_240]; rfl) (by decide) ?_
                                      exact t_law_836 hKp hF hT X hX hbl hbN hkc hns h kk
                                    · have h := ix_iff q_240 h
                                      rcases Classical.em ((xs (ix_n x3)) &&& 63 = 18) with q_252 | q_252
                                      · have h := ix_ift q_252 h
                                        refine ix_swin (tgt := 869) X (ix_tb_at tb_law 21 rfl) (by rw [q_252]; decide) (by rw [q_252]; decide) (by rw [q_252]; rfl) (by decide) ?_
                                        exact t_law_869 hKp hF hT X hX hbl hbN hkc hns h kk
                                      · have h := ix_iff q_252 h
                                        rcases Classical.em ((xs (ix_n x3)) &&& 63 = 19) with q_264 | q_264
                                        · have h := ix_ift q_264 h
                                          refine ix_swin (tgt := 902) X (ix_tb_at tb_law 21 rfl) (by rw [q_264]; decide) (by rw [q_264]; decide) (by rw [q_264]; rfl) (by decide) ?_
                                          exact t_law_902 hKp hF hT X hX hbl hbN hkc hns h kk
                                        · have h := ix_iff q_264 h
                                          rcases Classical.em ((xs (ix_n x3)) &&& 63 = 20) with q_276 | q_276
                                          · have h := ix_ift q_276 h
                                            refine ix_swin (tgt := 935) X (ix_tb_at tb_law 21 rfl) (by rw [q_276]; decide) (by rw [q_276]; decide) (by rw [q_276]; rfl) (by decide) ?_
                                            exact t_law_935 hKp hF hT X hX hbl hbN hkc hns h kk
                                          · have h := ix_iff q_276 h
                                            rcases Classical.em ((xs (ix_n x3)) &&& 63 = 21) with q_287 | q_287
                                            · have h := ix_ift q_287 h
                                              refine ix_swin (tgt := 958) X (ix_tb_at tb_law 21 rfl) (by rw [q_287]; decide) (by rw [q_287]; decide) (by rw [q_287]; rfl) (by decide) ?_
                                              exact t_law_958 hKp hF hT X hX hbl hbN hkc hns h kk
                                            · have h := ix_iff q_287 h
                                              rcases Classical.em ((xs (ix_n x3)) &&& 63 = 22) with q_297 | q_297
                                              · have h := ix_ift q_297 h
                                                refine ix_swin (tgt := 971) X (ix_tb_at tb_law 21 rfl) (by rw [q_297]; decide) (by rw [q_297]; decide) (by rw [q_297]; rfl) (by decide) ?_
                                                exact t_law_971 hKp hF hT X hX hbl hbN hkc hns h kk
                                              · have h := ix_iff q_297 h
                                                rcases Classical.em ((xs (ix_n x3)) &&& 63 = 23) with q_308 | q_308
                                                · have h := ix_ift q_308 h
                                                  refine ix_swin (tgt := 994) X (ix_tb_at tb_law 21 rfl) (by rw [q_308]; decide) (by rw [q_308]; decide) (by rw [q_308]; rfl) (by decide) ?_
                                                  exact t_law_994 hKp hF hT X hX hbl hbN hkc hns h kk
                                                · have h := ix_iff q_308 h
                                                  rcases Classical.em ((xs (ix_n x3)) &&& 63 = 24) with q_319 | q_319
                                                  · have h := ix_ift q_319 h
                                                    refine ix_swin (tgt := 1017) X (ix_tb_at tb_law 21 rfl) (by rw [q_319]; decide) (by rw [q_319]; decide) (by rw [q_319]; rfl) (by decide) ?_
                                                    exact t_law_1017 hKp hF hT X hX hbl hbN hkc hns h kk
                                                  · have h := ix_iff q_319 h
                                                    rcases Classical.em ((xs (ix_n x3)) &&& 63 = 25) with q_329 | q_329
                                                    · have h := ix_ift q_329 h
                                                      refine ix_swin (tgt := 1030) X (ix_tb_at tb_law 21 rfl) (by rw [q_329]; decide) (by rw [q_329]; decide) (by rw [q_329]; rfl) (by decide) ?_
                                                      exact t_law_1030 hKp hF hT X hX hbl hbN hkc hns h kk
                                                    · have h := ix_iff q_329 h
                                                      rcases Classical.em ((xs (ix_n x3)) &&& 63 = 26) with q_341 | q_341
                                                      · have h := ix_ift q_341 h
                                                        refine ix_swin (tgt := 1063) X (ix_tb_at tb_law 21 rfl) (by rw [q_341]; decide) (by rw [q_341]; decide) (by rw [q_341]; rfl) (by decide) ?_
                                                        exact t_law_1063 hKp hF hT X hX hbl hbN hkc hns h kk
                                                      · have h := ix_iff q_341 h
                                                        rcases Classical.em ((xs (ix_n x3)) &&& 63 = 27) with q_352 | q_352
                                                        · have h := ix_ift q_352 h
                                                          refine ix_swin (tgt := 1087) X (ix_tb_at tb_law 21 rfl) (by rw [q_352]; decide) (by rw [q_352]; decide) (by rw [q_352]; rfl) (by decide) ?_
                                                          exact t_law_1087 hKp hF hT X hX hbl hbN hkc hns h kk
                                                        · have h := ix_iff q_352 h
                                                          rcases Classical.em ((xs (ix_n x3)) &&& 63 = 28) with q_363 | q_363
                                                          · have h := ix_ift q_363 h
                                                            refine ix_swin (tgt := 1110) X (ix_tb_at tb_law 21 rfl) (by rw [q_363]; decide) (by rw [q_363]; decide) (by rw [q_363]; rfl) (by decide) ?_
                                                            exact t_law_1110 hKp hF hT X hX hbl hbN hkc hns h kk
                                                          · have h := ix_iff q_363 h
                                                            rcases Classical.em ((xs (ix_n x3)) &&& 63 = 29) with q_374 | q_374
                                                            · have h := ix_ift q_374 h
                                                              refine ix_swin (tgt := 1133) X (ix_tb_at tb_law 21 rfl) (by rw [q_374]; decide) (by rw [q_374]; decide) (by rw [q_374]; rfl) (by decide) ?_
                                                              exact t_law_1133 hKp hF hT X hX hbl hbN hkc hns h kk
                                                            · have h := ix_iff q_374 h
                                                              rcases Classical.em ((xs (ix_n x3)) &&& 63 = 30) with q_385 | q_385
                                                              · have h := ix_ift q_385 h
                                                                refine ix_swin (tgt := 1156) X (ix_tb_at tb_law 21 rfl) (by rw [q_385]; decide) (by rw [q_385]; decide) (by rw [q_385]; rfl) (by decide) ?_
                                                                exact t_law_1156 hKp hF hT X hX hbl hbN hkc hns h kk
                                                              · have h := ix_iff q_385 h
                                                                rcases Classical.em ((xs (ix_n x3)) &&& 63 = 31) with q_396 | q_396
                                                                · have h := ix_ift q_396 h
                                                                  refine ix_swin (tgt := 1179) X (ix_tb_at tb_law 21 rfl) (by rw [q_396]; decide) (by rw [q_396]; decide) (by rw [q_396]; rfl) (by decide) ?_
                                                                  exact t_law_1179 hKp hF hT X hX hbl hbN hkc hns h kk
                                                                · have h := ix_iff q_396 h
                                                                  rcases Classical.em ((xs (ix_n x3)) &&& 63 = 32) with q_407 | q_407
                                                                  · have h := ix_ift q_407 h
                                                                    refine ix_swin (tgt := 1202) X (ix_tb_at tb_law 21 rfl) (by rw [q_407]; decide) (by rw [q_407]; decide) (by rw [q_407]; rfl) (by decide) ?_
                                                                    exact t_law_1202 hKp hF hT X hX hbl hbN hkc hns h kk
                                                                  · have h := ix_iff q_407 h
                                                                    rcases Classical.em ((xs (ix_n x3)) &&& 63 = 33) with q_418 | q_418
                                                                    · have h := ix_ift q_418 h
                                                                      refine ix_swin (tgt := 1225) X (ix_tb_at tb_law 21 rfl) (by rw [q_418]; decide) (by rw [q_418]; decide) (by rw [q_418]; rfl) (by decide) ?_
                                                                      exact t_law_1225 hKp hF hT X hX hbl hbN hkc hns h kk
                                                                    · have h := ix_iff q_418 h
                                                                      rcases Classical.em ((xs (ix_n x3)) &&& 63 = 34) with q_429 | q_429
                                                                      · have h := ix_ift q_429 h
                                                                        refine ix_swin (tgt := 1248) X (ix_tb_at tb_law 21 rfl) (by rw [q_429]; decide) (by rw [q_429]; decide) (by rw [q_429]; rfl) (by decide) ?_
                                                                        exact t_law_1248 hKp hF hT X hX hbl hbN hkc hns h kk
                                                                      · have h := ix_iff q_429 h
                                                                        rcases Classical.em ((xs (ix_n x3)) &&& 63 = 35) with q_440 | q_440
                                                                        · have h := ix_ift q_440 h
                                                                          refine ix_swin (tgt := 1271) X (ix_tb_at tb_law 21 rfl) (by rw [q_440]; decide) (by rw [q_440]; decide) (by rw [q_440]; rfl) (by decide) ?_
                                                                          exact t_law_1271 hKp hF hT X hX hbl hbN hkc hns h kk
                                                                        · have h := ix_iff q_440 h
                                                                          rcases Classical.em ((xs (ix_n x3)) &&& 63 = 36) with q_452 | q_452
                                                                          · have h := ix_ift q_452 h
                                                                            refine ix_swin (tgt := 1304) X (ix_tb_at tb_law 21 rfl) (by rw [q_452]; decide) (by rw [q_452]; decide) (by rw [q_452]; rfl) (by decide) ?_
                                                                            exact t_law_1304 hKp hF hT X hX hbl hbN hkc hns h kk
                                                                          · have h := ix_iff q_452 h
                                                                            rcases Classical.em ((xs (ix_n x3)) &&& 63 = 37) with q_463 | q_463
                                                                            · have h := ix_ift q_463 h
                                                                              refine ix_swin (tgt := 1327) X (ix_tb_at tb_law 21 rfl) (by rw [q_463]; decide) (by rw [q_463]; decide) (by rw [q_463]; rfl) (by decide) ?_
                                                                              exact t_law_1327 hKp hF hT X hX hbl hbN hkc hns h kk
                                                                            · have h := ix_iff q_463 h
                                                                              rcases Classical.em ((xs (ix_n x3)) &&& 63 = 38) with q_474 | q_474
                                                                              · have h := ix_ift q_474 h
                                                                                refine ix_swin (tgt := 1350) X (ix_tb_at tb_law 21 rfl) (by rw [q_474]; decide) (by rw [q_474]; decide) (by rw [q_474]; rfl) (by decide) ?_
                                                                                exact t_law_1350 hKp hF hT X hX hbl hbN hkc hns h kk
                                                                              · have h := ix_iff q_474 h
                                                                                rcases Classical.em ((xs (ix_n x3)) &&& 63 = 39) with q_484 | q_484
                                                                                · have h := ix_ift q_484 h
                                                                                  refine ix_swin (tgt := 1363) X (ix_tb_at tb_law 21 rfl) (by rw [q_484]; decide) (by rw [q_484]; decide) (by rw [q_484]; rfl) (by decide) ?_
                                                                                  exact t_law_1363 hKp hF hT X hX hbl hbN hkc hns h kk
                                                                                · have h := ix_iff q_484 h
                                                                                  rcases Classical.em ((xs (ix_n x3)) &&& 63 = 40) with q_495 | q_495
                                                                                  · have h := ix_ift q_495 h
                                                                                    refine ix_swin (tgt := 1386) X (ix_tb_at tb_law 21 rfl) (by rw [q_495]; decide) (by rw [q_495]; decide) (by rw [q_495]; rfl) (by decide) ?_
                                                                                    exact t_law_1386 hKp hF hT X hX hbl hbN hkc hns h kk
                                                                                  · have h := ix_iff q_495 h
                                                                                    rcases Classical.em ((xs (ix_n x3)) &&& 63 = 41) with q_506 | q_506
                                                                                    · have h := ix_ift q_506 h
                                                                                      refine ix_swin (tgt := 1409) X (ix_tb_at tb_law 21 rfl) (by rw [q_506]; decide) (by rw [q_506]; decide) (by rw [q_506]; rfl) (by decide) ?_
                                                                                      exact t_law_1409 hKp hF hT X hX hbl hbN hkc hns h kk
                                                                                    · have h := ix_iff q_506 h
                                                                                      rcases Classical.em ((xs (ix_n x3)) &&& 63 = 42) with q_518 | q_518
                                                                                      · have h := ix_ift q_518 h
                                                                                        refine ix_swin (tgt := 1442) X (ix_tb_at tb_law 21 rfl) (by rw [q_518]; decide) (by rw [q_518]; decide) (by rw [q_518]; rfl) (by decide) ?_
                                                                                        exact t_law_1442 hKp hF hT X hX hbl hbN hkc hns h kk
                                                                                      · have h := ix_iff q_518 h
                                                                                        rcases Classical.em ((xs (ix_n x3)) &&& 63 = 43) with q_528 | q_528
                                                                                        · have h := ix_ift q_528 h
                                                                                          refine ix_swin (tgt := 1455) X (ix_tb_at tb_law 21 rfl) (by rw [q_528]; decide) (by rw [q_528]; decide) (by rw [q_528]; rfl) (by decide) ?_
                                                                                          exact t_law_1455 hKp hF hT X hX hbl hbN hkc hns h kk
                                                                                        · have h := ix_iff q_528 h
                                                                                          rcases Classical.em ((xs (ix_n x3)) &&& 63 = 44) with q_538 | q_538
                                                                                          · have h := ix_ift q_538 h
                                                                                            refine ix_swin (tgt := 1468) X (ix_tb_at tb_law 21 rfl) (by rw [q_538]; decide) (by rw [q_538]; decide) (by rw [q_538]; rfl) (by decide) ?_
                                                                                            exact t_law_1468 hKp hF hT X hX hbl hbN hkc hns h kk
                                                                                          · have h := ix_iff q_538 h
                                                                                            rcases Classical.em ((xs (ix_n x3)) &&& 63 = 45) with q_572 | q_572
                                                                                            · have h := ix_ift q_572 h
                                                                                              refine ix_swin (tgt := 1517) X (ix_tb_at tb_law 21 rfl) (by rw [q_572]; decide) (by rw [q_572]; decide) (by rw [q_572]; rfl) (by decide) ?_
                                                                                              exact t_law_1517 hKp hF hT X hX hbl hbN hkc hns h kk
                                                                                            · have h := ix_iff q_572 h
                                                                                              rcases Classical.em ((xs (ix_n x3)) &&& 63 = 46) with q_583 | q_583
                                                                                              · have h := ix_ift q_583 h
                                                                                                refine ix_swin (tgt := 1540) X (ix_tb_at tb_law 21 rfl) (by rw [q_583]; decide) (by rw [q_583]; decide) (by rw [q_583]; rfl) (by decide) ?_
                                                                                                exact t_law_1540 hKp hF hT X hX hbl hbN hkc hns h kk
                                                                                              · have h := ix_iff q_583 h
                                                                                                rcases Classical.em ((xs (ix_n x3)) &&& 63 = 47) with q_593 | q_593
                                                                                                · have h := ix_ift q_593 h
                                                                                                  refine ix_swin (tgt := 1553) X (ix_tb_at tb_law 21 rfl) (by rw [q_593]; decide) (by rw [q_593]; decide) (by rw [q_593]; rfl) (by decide) ?_
                                                                                                  exact t_law_1553 hKp hF hT X hX hbl hbN hkc hns h kk
                                                                                                · have h := ix_iff q_593 h
                                                                                                  rcases Classical.em ((xs (ix_n x3)) &&& 63 = 48) with q_605 | q_605
                                                                                                  · have h := ix_ift q_605 h
                                                                                                    refine ix_swin (tgt := 1586) X (ix_tb_at tb_law 21 rfl) (by rw [q_605]; decide) (by rw [q_605]; decide) (by rw [q_605]; rfl) (by decide) ?_
                                                                                                    exact t_law_1586 hKp hF hT X hX hbl hbN hkc hns h kk
                                                                                                  · have h := ix_iff q_605 h
                                                                                                    rcases Classical.em ((xs (ix_n x3)) &&& 63 = 49) with q_615 | q_615
                                                                                                    · have h := ix_ift q_615 h
                                                                                                      refine ix_swin (tgt := 1599) X (ix_tb_at tb_law 21 rfl) (by rw [q_615]; decide) (by rw [q_615]; decide) (by rw [q_615]; rfl) (by decide) ?_
                                                                                                      exact t_law_1599 hKp hF hT X hX hbl hbN hkc hns h kk
                                                                                                    · have h := ix_iff q_615 h
                                                                                                      rcases Classical.em ((xs (ix_n x3)) &&& 63 = 50) with q_626 | q_626
                                                                                                      · have h := ix_ift q_626 h
                                                                                                        refine ix_swin (tgt := 1622) X (ix_tb_at tb_law 21 rfl) (by rw [q_626]; decide) (by rw [q_626]; decide) (by rw [q_626]; rfl) (by decide) ?_
                                                                                                        exact t_law_1622 hKp hF hT X hX hbl hbN hkc hns h kk
                                                                                                      · have h := ix_iff q_626 h
                                                                                                        rcases Classical.em ((xs (ix_n x3)) &&& 63 = 51) with q_637 | q_637
                                                                                                        · have h := ix_ift q_637 h
                                                                                                          refine ix_swin (tgt := 1645) X (ix_tb_at tb_law 21 rfl) (by rw [q_637]; decide) (by rw [q_637]; decide) (by rw [q_637]; rfl) (by decide) ?_
                                                                                                          exact t_law_1645 hKp hF hT X hX hbl hbN hkc hns h kk
                                                                                                        · have h := ix_iff q_637 h
                                                                                                          rcases Classical.em ((xs (ix_n x3)) &&& 63 = 52) with q_648 | q_648
                                                                                                          · have h := ix_ift q_648 h
                                                                                                            refine ix_swin (tgt := 1668) X (ix_tb_at tb_law 21 rfl) (by rw [q_648]; decide) (by rw [q_648]; decide) (by rw [q_648]; rfl) (by decide) ?_
                                                                                                            exact t_law_1668 hKp hF hT X hX hbl hbN hkc hns h kk
                                                                                                          · have h := ix_iff q_648 h
                                                                                                            rcases Classical.em ((xs (ix_n x3)) &&& 63 = 53) with q_658 | q_658
                                                                                                            · have h := ix_ift q_658 h
                                                                                                              refine ix_swin (tgt := 1682) X (ix_tb_at tb_law 21 rfl) (by rw [q_658]; decide) (by rw [q_658]; decide) (by rw [q_658]; rfl) (by decide) ?_
                                                                                                              exact t_law_1682 hKp hF hT X hX hbl hbN hkc hns h kk
                                                                                                            · have h := ix_iff q_658 h
                                                                                                              rcases Classical.em ((xs (ix_n x3)) &&& 63 = 54) with q_668 | q_668
                                                                                                              · have h := ix_ift q_668 h
                                                                                                                refine ix_swin (tgt := 1695) X (ix_tb_at tb_law 21 rfl) (by rw [q_668]; decide) (by rw [q_668]; decide) (by rw [q_668]; rfl) (by decide) ?_
                                                                                                                exact t_law_1695 hKp hF hT X hX hbl hbN hkc hns h kk
                                                                                                              · have h := ix_iff q_668 h
                                                                                                                refine ix_swout (tgt := 1718) X (ix_tb_at tb_law 21 rfl) (by have wq_2 := ix_ne (a := 0) (by decide) q_2; have wq_13 := ix_ne (a := 1) (by decide) q_13; have wq_25 := ix_ne (a := 2) (by decide) q_25; have wq_36 := ix_ne (a := 3) (by decide) q_36; have wq_49 := ix_ne (a := 4) (by decide) q_49; have wq_61 := ix_ne (a := 5) (by decide) q_61; have wq_76 := ix_ne (a := 6) (by decide) q_76; have wq_88 := ix_ne (a := 7) (by decide) q_88; have wq_101 := ix_ne (a := 8) (by decide) q_101; have wq_111 := ix_ne (a := 9) (by decide) q_111; have wq_124 := ix_ne (a := 10) (by decide) q_124; have wq_139 := ix_ne (a := 11) (by decide) q_139; have wq_154 := ix_ne (a := 12) (by decide) q_154; have wq_194 := ix_ne (a := 13) (by decide) q_194; have wq_205 := ix_ne (a := 14) (by decide) q_205; have wq_216 := ix_ne (a := 15) (by decide) q_216; have wq_228 := ix_ne (a := 16) (by decide) q_228; have wq_240 := ix_ne (a := 17) (by decide) q_240; have wq_252 := ix_ne (a := 18) (by decide) q_252; have wq_264 := ix_ne (a := 19) (by decide) q_264; have wq_276 := ix_ne (a := 20) (by decide) q_276; have wq_287 := ix_ne (a := 21) (by decide) q_287; have wq_297 := ix_ne (a := 22) (by decide) q_297; have wq_308 := ix_ne (a := 23) (by decide) q_308; have wq_319 := ix_ne (a := 24) (by decide) q_319; have wq_329 := ix_ne (a := 25) (by decide) q_329; have wq_341 := ix_ne (a := 26) (by decide) q_341; have wq_352 := ix_ne (a := 27) (by decide) q_352; have wq_363 := ix_ne (a := 28) (by decide) q_363; have wq_374 := ix_ne (a := 29) (by decide) q_374; have wq_385 := ix_ne (a := 30) (by decide) q_385; have wq_396 := ix_ne (a := 31) (by decide) q_396; have wq_407 := ix_ne (a := 32) (by decide) q_407; have wq_418 := ix_ne (a := 33) (by decide) q_418; have wq_429 := ix_ne (a := 34) (by decide) q_429; have wq_440 := ix_ne (a := 35) (by decide) q_440; have wq_452 := ix_ne (a := 36) (by decide) q_452; have wq_463 := ix_ne (a := 37) (by decide) q_463; have wq_474 := ix_ne (a := 38) (by decide) q_474; have wq_484 := ix_ne (a := 39) (by decide) q_484; have wq_495 := ix_ne (a := 40) (by decide) q_495; have wq_506 := ix_ne (a := 41) (by decide) q_506; have wq_518 := ix_ne (a := 42) (by decide) q_518; have wq_528 := ix_ne (a := 43) (by decide) q_528; have wq_538 := ix_ne (a := 44) (by decide) q_538; have wq_572 := ix_ne (a := 45) (by decide) q_572; have wq_583 := ix_ne (a := 46) (by decide) q_583; have wq_593 := ix_ne (a := 47) (by decide) q_593; have wq_605 := ix_ne (a := 48) (by decide) q_605; have wq_615 := ix_ne (a := 49) (by decide) q_615; have wq_626 := ix_ne (a := 50) (by decide) q_626; have wq_637 := ix_ne (a := 51) (by decide) q_637; have wq_648 := ix_ne (a := 52) (by decide) q_648; have wq_658 := ix_ne (a := 53) (by decide) q_658; have wq_668 := ix_ne (a := 54) (by decide) q_668; omega) (by decide) ?_
                                                                                                                obtain ⟨rfl, rfl⟩ := ix_sm h
                                                                                                                exact ix_widen (by omega) (by omega) kk

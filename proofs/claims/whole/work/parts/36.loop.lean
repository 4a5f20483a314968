/-! THE LAW'S OWN LOOP -/
theorem lw_ret {p : Program} {l : Launch} {e : Env} {s : State} {m : MethodId} {below : List Frame} {meth : Method} {c : Code} {b : Nat} (hx : p.tables.exec = Jvm.exec) (hb : c.code = code) (hr : meth.sig.returnType = ret) (hlocks : meth.locks = false) {pc : Nat} {H : Heap} {ls : Array Slot} (hdg : decode code pc = .ok (.ireturn, 1)) : W p l e room_1 s m #[Value.ref b] below meth c H [] 600000 7302250 (lw_Z below #[Value.ref b] s) (F0 m pc ls [.int 1]) := by
  intro T hT X
  obtain ⟨fs, hret, hrun, hended, hW, hframe⟩ := X.leave (v := some (.int 1)) (hlocks := hlocks) (fun h => by rw [hr] at h; cases h)
  have hmeth' : T.vm.method? m = some meth := X.method'
  refine ⟨T.setFrames fs, ?_, .returned (some (.int 1)), hrun, hended, rfl, ⟨_, rfl⟩, hW, hframe⟩
  jvm_step X.here [X.here.top, hx, hb, hdg, hmeth', hr, ret, narrow_b1]
  (try refine ⟨rfl, ?_⟩); (try refine ⟨rfl, ?_⟩)
  first | (intro acts; rw [hret _ acts rfl rfl rfl]) | rw [hret _ _ rfl rfl rfl]
  exact Steps.refl _
section LWL
variable {p : Program} {l : Launch} {e : Env} {s : State} {m : MethodId} {below : List Frame} {meth : Method} {c : Code} {K : ix_Cx} {b Ls : Nat} {xs : Nat → Int32}
set_option maxRecDepth 20000 in
theorem lw_end (X : ix_X p s m #[Value.ref b] c K code R_law 4) (hr : meth.sig.returnType = ret) (hlk : meth.locks = false) (hKN : K.2.2.1 = s.heap.size) {k n : Nat} (hk : k ≤ 600000) (hn : n ≤ 7302250) {L : List (Nat × Value)} {w : ix_W} : ix_G p l e room_1 s m #[Value.ref b] below meth c (lw_Z below #[Value.ref b] s) K 4 k n 1724 L [] w := by
  refine ix_iconst (v := 1) X (ix_tb_at tb_law 1122 rfl) (by decide) (pc1 := 1725) rfl ?_
  intro H locs ls hP hz hS hl
  refine va_forget (fun q hq => by rw [← hKN]; exact hS.2.2 q hq) ?_
  refine W.widen hk hn ?_
  exact lw_ret X.1 X.2.1 hr hlk (ix_tb_at tb_law 1123 rfl)
theorem lw_gt {L j : Nat} (hL : L ≤ 3072) (hj : 6 * j ≤ L) (h : ¬ nI L - 6 < nI (6 * j)) : 6 * j + 6 ≤ L := by
  have e1 : (nI L).toInt = (L : Int) := nI_toInt (by omega)
  have e2 : (nI (6 * j)).toInt = ((6 * j : Nat) : Int) := nI_toInt (by omega)
  have e3 : (nI L - 6).toInt = (L : Int) - 6 := by
    rw [Int32.toInt_sub, e1, show (6 : Int32).toInt = 6 from rfl]
    exact Int.bmod_eq_of_le (by omega) (by omega)
  rw [Int32.lt_iff_toInt_lt, e2, e3] at h
  omega
set_option maxRecDepth 20000 in
theorem lw_loop (hKp : ix_Kp K) (hF : ix_Fc K) (hT : ix_Tc K) (X : ix_X p s m #[Value.ref b] c K code R_law 4) (hX : va_X b Ls xs s s.heap) (hbl : b < s.heap.size) (hbN : ¬ ix_A K b) (hr : meth.sig.returnType = ret) (hlk : meth.locks = false) (hKN : K.2.2.1 = s.heap.size) (hLs : Ls ≤ 3072) {n a1 a2 k0 n0 : Nat} (hk : k0 + 4200 ≤ 600000) (hn : n0 + 210000 ≤ 7302250) (J : Nat → ix_Z → ix_D2 → Prop) (hJ : ∀ j z d, 6 * j + 6 ≤ Ls → J j z d → ∃ z1 d1, f_law_body n Ls xs z a1 a2 (nI (6 * j)) d = some (z1, d1) ∧ J (j + 1) z1 d1) :
    ∀ (r j : Nat) (z : ix_Z) (d : ix_D2), 6 * j ≤ Ls → Ls < 6 * j + 6 * r → J j z d → ix_G p l e room_1 s m #[Value.ref b] below meth c (lw_Z below #[Value.ref b] s) K 4 (k0 + 8 * j) (n0 + 400 * j) 18 [(0, .ref b), (1, .ref (K.2.2.1 + a1)), (2, .ref (K.2.2.1 + a2)), (3, .int (nI (6 * j)))] [] (ix_w z d) := by
  intro r
  induction r with
  | zero => intro j z d h1 h2; exact absurd h2 (by omega)
  | succ r ih =>
    intro j z d h1 h2 hj
    refine ix_iload_n (i := 3) (j := 3) X (ix_tb_at tb_law 10 rfl) rfl rfl (pc1 := 19) rfl ?_
    refine ix_aload_n (i := 0) (j := 0) X (ix_tb_at tb_law 11 rfl) rfl rfl (pc1 := 20) rfl ?_
    refine ix_slen1 X hX hbl hbN (ix_tb_at tb_law 12 rfl) (pc1 := 21) rfl ?_
    refine ix_bipush (v := 6) X (ix_tb_at tb_law 13 rfl) (by decide) (pc1 := 23) rfl ?_
    refine ix_isub X (ix_tb_at tb_law 14 rfl) (pc1 := 24) rfl ?_
    refine ix_icmp_gt (tgt := 1724) X (ix_tb_at tb_law 15 rfl) (by decide) (pc1 := 27) rfl (fun q => ?_) (fun q => ?_)
    · exact lw_end X hr hlk hKN (by omega) (by omega)
    · have h3 := lw_gt hLs h1 q
      obtain ⟨z1, d1, hb, hj1⟩ := hJ j z d h3 hj
      refine t_law_body hKp hF hT X hX hbl hbN (by omega) (by omega) hb ?_
      refine ix_iinc (i := 3) (j := 3) (v := nI (6 * (j + 1))) (L1 := [(3, .int (nI (6 * (j + 1)))), (0, .ref b), (1, .ref (K.2.2.1 + a1)), (2, .ref (K.2.2.1 + a2))]) X (ix_tb_at tb_law 1120 rfl) rfl (show nI (6 * j) + nI 6 = _ by rw [nI_add]; rfl) (Nat.le_of_ble_eq_true rfl) rfl (pc1 := 1721) rfl ?_
      refine ix_goto (tgt := 18) X (ix_tb_at tb_law 1121 rfl) (by decide) ?_
      refine ix_sub (L1 := [(0, .ref b), (1, .ref (K.2.2.1 + a1)), (2, .ref (K.2.2.1 + a2)), (3, .int (nI (6 * (j + 1))))]) [1, 2, 3, 0] rfl ?_
      exact ih (j + 1) z1 d1 h3 (by omega) hj1
theorem ml_law_9 : tables_1[26]? = some (Cond.methodLink R_law 9 yX11_init) := by decide +kernel
theorem ml_law_12 : tables_1[1560]? = some (Cond.methodLink R_law 12 yX12_init) := by decide +kernel
set_option maxRecDepth 20000 in
/-- the two constructors -/
theorem lw_init (hKp : ix_Kp K) (hF : ix_Fc K) (X : ix_X p s m #[Value.ref b] c K code R_law 4) {n : Nat} {z z2 z1 : ix_Z} {d d2 d1 : ix_D2} (h1 : f_X11_init n (ix_zn z 10 18) z.2.2 (ix_dn d z.2.2) = some (z2, d2)) (h2 : f_X12_init n (ix_zn z2 11 116) z2.2.2 (ix_dn d2 z2.2.2) = some (z1, d1)) (kk : ix_G p l e room_1 s m #[Value.ref b] below meth c (lw_Z below #[Value.ref b] s) K 4 300 300000 18 [(0, .ref b), (1, .ref (K.2.2.1 + z.2.2)), (2, .ref (K.2.2.1 + z2.2.2)), (3, .int (nI (6 * 0)))] [] (ix_w z1 d1)) : ix_G p l e room_1 s m #[Value.ref b] below meth c (lw_Z below #[Value.ref b] s) K 4 0 0 0 [(0, .ref b)] [] (ix_w z d) := by
  refine iz_new (ci := 10) (pl := 24) (pi := 25) (pj := 1) (N := 18) (C := RX11) (T := TX11) X rfl (by decide) (by decide +kernel) (by decide +kernel) (by decide +kernel) (Nat.le_of_ble_eq_true rfl) (Nat.le_of_ble_eq_true rfl) (ix_tb_at tb_law 0 rfl) rfl rfl (pc1 := 3) rfl ?_
  refine ix_dup X (ix_tb_at tb_law 1 rfl) rfl (pc1 := 4) rfl ?_
  refine ix_callI (As := []) (rest := [.ref (K.2.2.1 + z.2.2)]) X mf_X11_init mi_X11_init rfl ml_law_9 ⟨Nat.le_of_ble_eq_true rfl, Nat.le_of_ble_eq_true rfl⟩ ⟨Nat.le_of_ble_eq_true rfl, Nat.le_of_ble_eq_true rfl⟩ rfl (Nat.le_of_ble_eq_true rfl) (ix_tb_at tb_law 2 rfl) (c_X11_init hKp hF h1) rfl (pc1 := 7) rfl ?_
  refine ix_astore_n (i := 1) (L1 := [(1, .ref (K.2.2.1 + z.2.2)), (0, .ref b)]) X (ix_tb_at tb_law 3 rfl) rfl (Nat.le_of_ble_eq_true rfl) rfl (pc1 := 8) rfl ?_
  refine iz_new (ci := 11) (pl := 1558) (pi := 1559) (pj := 8) (N := 116) (C := RX12) (T := TX12) X rfl (by decide) (by decide +kernel) (by decide +kernel) (by decide +kernel) (Nat.le_of_ble_eq_true rfl) (Nat.le_of_ble_eq_true rfl) (ix_tb_at tb_law 4 rfl) rfl rfl (pc1 := 11) rfl ?_
  refine ix_dup X (ix_tb_at tb_law 5 rfl) rfl (pc1 := 12) rfl ?_
  refine ix_callI (As := []) (rest := [.ref (K.2.2.1 + z2.2.2)]) X mf_X12_init mi_X12_init rfl ml_law_12 ⟨Nat.le_of_ble_eq_true rfl, Nat.le_of_ble_eq_true rfl⟩ ⟨Nat.le_of_ble_eq_true rfl, Nat.le_of_ble_eq_true rfl⟩ rfl (Nat.le_of_ble_eq_true rfl) (ix_tb_at tb_law 6 rfl) (c_X12_init hKp h2) rfl (pc1 := 15) rfl ?_
  refine ix_astore_n (i := 2) (L1 := [(2, .ref (K.2.2.1 + z2.2.2)), (1, .ref (K.2.2.1 + z.2.2)), (0, .ref b)]) X (ix_tb_at tb_law 7 rfl) rfl (Nat.le_of_ble_eq_true rfl) rfl (pc1 := 16) rfl ?_
  refine ix_iconst (v := 0) X (ix_tb_at tb_law 8 rfl) (by decide) (pc1 := 17) rfl ?_
  refine ix_istore_n (i := 3) (L1 := [(3, .int 0), (2, .ref (K.2.2.1 + z2.2.2)), (1, .ref (K.2.2.1 + z.2.2)), (0, .ref b)]) X (ix_tb_at tb_law 9 rfl) rfl (Nat.le_of_ble_eq_true rfl) rfl (pc1 := 18) rfl ?_
  refine ix_widen (k1 := 300) (n1 := 300000) (Nat.le_of_ble_eq_true rfl) (Nat.le_of_ble_eq_true rfl) ?_
  refine ix_sub (L1 := [(0, .ref b), (1, .ref (K.2.2.1 + z.2.2)), (2, .ref (K.2.2.1 + z2.2.2)), (3, .int 0)]) [3, 2, 1, 0] rfl ?_
  exact kk
end LWL

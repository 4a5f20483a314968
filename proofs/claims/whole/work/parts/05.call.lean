/-! CONTRACTS BY MODELS: a method at a world w and arguments av returns rv and leaves the world w1 -/
def ix_Pre (K : ix_Cx) (av : List Value) (w : ix_W) : Array Value → State → Prop := va_Pc av (fun U => va_P K.1 ix_cl (ix_ws K w) U.heap ∧ U.heap.size = K.2.2.1 + ix_N w ∧ ix_O K U)
def ix_Post (K : ix_Cx) (rv : Option Value) (w1 : ix_W) : Array Value → State → Outcome → State → Prop := fun _ st oc t => oc = .returned rv ∧ va_P K.1 ix_cl (ix_ws K w1) t.heap ∧ t.heap.size = K.2.2.1 + ix_N w1 ∧ va_F (ix_A K) st t
abbrev ix_rm (fr lo mc ms : Nat) : Room := { frames := fr, cells := mc, slots := ms, locals := lo }
def ix_M (l : Launch) (K : ix_Cx) (y : MethodName) (cc : ByteArray) (maxL : Nat) (ret : Option FieldType) (fr lo mc ms : Nat) (av : List Value) (w : ix_W) (rv : Option Value) (w1 : ix_W) : Prop :=
  Met l y (.code y cc maxL ret :: ix_tb) (ix_rm fr lo mc ms) (ix_Pre K av w) (ix_Post K rv w1) mc ms (ix_A K)
def ix_mf (y : MethodName) (cc : ByteArray) (maxL : Nat) (ret : Option FieldType) (n : Nat) : Prop := Cond.code y cc maxL ret ∈ lw_tbl ∧ Cond.initialized y.cls ∈ lw_tbl ∧ (y.cls ≠ "java/lang/invoke/MethodHandle" ∧ y.cls ≠ "java/lang/invoke/VarHandle") ∧ (parseMethodDescriptor y.desc).map (fun d => d.parameters.length) = some n ∧ plainName y.cls = true
theorem ix_met {l : Launch} {K : ix_Cx} {y : MethodName} {cc : ByteArray} {maxL : Nat} {ret : Option FieldType} {fr lo mc ms n : Nat} {av : List Value} {w w1 : ix_W} {rv : Option Value} (hm : ix_mf y cc maxL ret n) (hKp : ix_Kp K) (hle : (lg_sl av).length ≤ maxL)
    (body : ∀ (p : Program) (e : Env) (s : State) (m : MethodId) (args : Array Value) (below : List Frame) (meth : Method) (c : Code), meth.sig.returnType = ret → meth.locks = false → meth.name = y.name → ix_X p s m args c K cc y.cls maxL →
      ix_G p l e (ix_rm fr lo mc ms) s m args below meth c (MQ below (ix_Post K rv w1) args s mc ms (ix_A K)) K maxL 0 0 0 (lv_args 0 av) [] w) : ix_M l K y cc maxL ret fr lo mc ms av w rv w1 := by
  refine Met.ofW (cc := cc) (maxL := maxL) (ret := ret) hm.2.2.2.2 rfl ?_
  intro p e s m args below meth c s₁ B hml hv
  obtain ⟨rfl, hP, hz, hO⟩ := hv
  have hts := atoms_spec (ws := .code y cc maxL ret :: ix_tb) B.pre
  rw [lg_entry_eq]
  exact body p e s m _ below meth c B.returns B.notSynchronized (name_of_methodNamed B.named B.method).1 ⟨B.exec, B.bytes, hml, findClass_of_methodNamed B.named, fun w hw => hts w (List.mem_cons_of_mem _ hw), hO, by rw [hz]; exact Nat.le_add_right _ _, hKp⟩ s.heap [] _ hP hz va_S.rf (lv_entry av hle)
section IXC
variable {p : Program} {l : Launch} {e : Env} {R : Room} {s : State} {m : MethodId} {args : Array Value} {below : List Frame} {meth : Method} {c : Code} {Q : State → Prop} {K : ix_Cx} {nL k n : Nat} {cc : ByteArray} {own : String} {pc : Nat} {L : List (Nat × Value)} {S : List Value} {w : ix_W}
theorem ix_iret (X : ix_X p s m args c K cc own nL) (hr : meth.sig.returnType = some .int) (hlocks : meth.locks = false) {v : Int32} {rv : Option Value} {w1 : ix_W} (he : rv = some (.int v) ∧ w1 = w) (hd : decode cc pc = .ok (.ireturn, 1)) : ix_G p l e R s m args below meth c (MQ below (ix_Post K rv w1) args s k n (ix_A K)) K nL k n pc L [.int v] w := by
  obtain ⟨rfl, rfl⟩ := he
  exact fun H locs ls hP hz hS hl => W.iret X.1 X.2.1 hr (fun t ht _ => ⟨rfl, by rw [ht]; exact hP, by rw [ht]; exact hz, hS.F ht⟩) hS.2.2 hd
theorem ix_zret (X : ix_X p s m args c K cc own nL) (hr : meth.sig.returnType = some .boolean) (hlocks : meth.locks = false) {v : Int32} {rv : Option Value} {w1 : ix_W} (hv : v = 0 ∨ v = 1) (he : rv = some (.int v) ∧ w1 = w) (hd : decode cc pc = .ok (.ireturn, 1)) : ix_G p l e R s m args below meth c (MQ below (ix_Post K rv w1) args s k n (ix_A K)) K nL k n pc L [.int v] w := by
  obtain ⟨rfl, rfl⟩ := he
  exact fun H locs ls hP hz hS hl => W.zret X.1 X.2.1 hr (by rcases hv with rfl | rfl <;> rfl) (fun t ht _ => ⟨rfl, by rw [ht]; exact hP, by rw [ht]; exact hz, hS.F ht⟩) hS.2.2 hd
theorem ix_lret (X : ix_X p s m args c K cc own nL) (hr : meth.sig.returnType = some .long) (hlocks : meth.locks = false) {v : Int64} {rv : Option Value} {w1 : ix_W} (he : rv = some (.long v) ∧ w1 = w) (hd : decode cc pc = .ok (.lreturn, 1)) : ix_G p l e R s m args below meth c (MQ below (ix_Post K rv w1) args s k n (ix_A K)) K nL k n pc L [.long v] w := by
  obtain ⟨rfl, rfl⟩ := he
  exact fun H locs ls hP hz hS hl => W.lret X.1 X.2.1 hr (fun t ht _ => ⟨rfl, by rw [ht]; exact hP, by rw [ht]; exact hz, hS.F ht⟩) hS.2.2 hd
theorem ix_vret (X : ix_X p s m args c K cc own nL) (hr : meth.sig.returnType = none) (hlocks : meth.locks = false) {rv : Option Value} {w1 : ix_W} (he : rv = none ∧ w1 = w) (hd : decode cc pc = .ok (.return_, 1)) : ix_G p l e R s m args below meth c (MQ below (ix_Post K rv w1) args s k n (ix_A K)) K nL k n pc L [] w := by
  obtain ⟨rfl, rfl⟩ := he
  exact fun H locs ls hP hz hS hl => W.vret X.1 X.2.1 hr (fun t ht _ => ⟨rfl, by rw [ht]; exact hP, by rw [ht]; exact hz, hS.F ht⟩) hS.2.2 hd
theorem ix_aret (X : ix_X p s m args c K cc own nL) {rt : FieldType} (hr : meth.sig.returnType = some rt) (hrt : (∃ n, rt = .object n) ∨ ∃ t, rt = .array t) (hlocks : meth.locks = false) {v : Option Nat} {rv : Option Value} {w1 : ix_W} (he : rv = some (ix_rv K v) ∧ w1 = w) (hd : decode cc pc = .ok (.areturn, 1)) : ix_G p l e R s m args below meth c (MQ below (ix_Post K rv w1) args s k n (ix_A K)) K nL k n pc L [ix_rv K v] w := by
  obtain ⟨rfl, rfl⟩ := he
  exact fun H locs ls hP hz hS hl => W.aret X.1 X.2.1 hr hrt (by cases v with
    | none => exact Or.inl rfl
    | some a => exact Or.inr ⟨_, rfl⟩) (fun t ht _ => ⟨rfl, by rw [ht]; exact hP, by rw [ht]; exact hz, hS.F ht⟩) hS.2.2 hd
theorem ix_widen {k1 n1 : Nat} (h1 : k ≤ k1) (h2 : n ≤ n1) (kk : ix_G p l e R s m args below meth c Q K nL k1 n1 pc L S w) : ix_G p l e R s m args below meth c Q K nL k n pc L S w :=
  fun H locs ls hP hz hS hl => W.widen h1 h2 (kk H locs ls hP hz hS hl)
/-- behind a call -/
theorem ix_call0 {mc ms : Nat} {rv : Option Value} {w1 : ix_W} {rest st0 : List Value} {a : Array Value}
    (hr : ∀ (H : Heap) (locs : List Loc) (ls : Array Slot), va_P K.1 ix_cl (ix_ws K w) H → H.size = K.2.2.1 + ix_N w → va_S (ix_A K) s.heap H locs → ls.size = nL → va_Run p l e R s m args below meth c H locs k n mc ms (F0 m pc ls st0) rest (ix_Post K rv w1 a) (ix_A K))
    {pc1 : Nat} (hp : pc + 3 = pc1) (kk : ix_G p l e R s m args below meth c Q K nL (k + mc) (n + ms) pc1 L (rv.toList ++ rest) w1) : ix_G p l e R s m args below meth c Q K nL k n pc L st0 w := by
  subst hp
  intro H locs ls hP hz hS hl T hT X
  obtain ⟨v, st₀, t, T', L', h0, X', hL, e1, e2, ⟨hv, hP1, hz1, hF⟩, st⟩ := hr H locs ls hP hz hS hl.1 T hT X
  cases hv
  obtain ⟨t2, a1, b1⟩ := kk T'.heap (locs ++ L') ls (by rw [e1]; exact hP1) (by rw [e1]; exact hz1) ⟨Nat.le_trans hS.1 (by rw [e1, ← h0]; exact hF.1), fun q h1 h2 => by rw [e1, hF.2 q (by rw [h0]; exact Nat.lt_of_lt_of_le h1 hS.1) h2, h0]; exact hS.2.1 q h1 h2, fun q hq => by
      rcases List.mem_append.mp hq with h | h
      · exact hS.2.2 q h
      · exact hL q h⟩ hl T' rfl X'
  exact ⟨t2, st t2 a1, b1⟩
theorem ix_blind (hKp : ix_Kp K) {av : List Value} : FrameBlind (ix_Pre K av w) := by
  intro a U g mk h
  obtain ⟨h1, h2, h3, h4, h5, h6⟩ := h
  refine ⟨h1, h2, h3, va_K.moved (u := U) (U := U.calling g mk a) (Vm.Alike.refl U.vm) h4, fun w hw => ?_, ?_⟩
  · exact va_Nw.same (u := U) (U := U.calling g mk a) (ix_isn_on (List.mem_filter.mp hw).2) rfl (h5 w hw)
  · exact hKp U (U.calling g mk a) (State.WarmedH.refl U) (fun _ _ => rfl) h6
/-- what a call needs of its callee's words -/
theorem ix_words (X : ix_X p s m args c K cc own nL) {y : MethodName} {cc2 : ByteArray} {maxL : Nat} {ret : Option FieldType} (hc : Cond.code y cc2 maxL ret ∈ lw_tbl) : ∀ w ∈ (Cond.code y cc2 maxL ret :: ix_tb), ∀ (a' : Array Value) (U : State), s.WarmedH U.vm → w.before a' U = true := by
  intro w hw a' U hW
  have h1 : w ∈ ix_tb := by
    rcases List.mem_cons.mp hw with rfl | h
    · exact ix_tbm hc rfl
    · exact h
  exact word_at hW (good_of_word (List.mem_filter.mp h1).2) (X.2.2.2.2.1 w h1)
theorem ix_pre (X : ix_X p s m args c K cc own nL) {H : Heap} {locs : List Loc} (hP : va_P K.1 ix_cl (ix_ws K w) H) (hz : H.size = K.2.2.1 + ix_N w) (hS : va_S (ix_A K) s.heap H locs) (av : List Value) : ∀ U : State, U.heap = H → s.WarmedH U.vm → ix_Pre K av w av.toArray U := by
  intro U hU hW
  refine ⟨rfl, by rw [hU]; exact hP, by rw [hU]; exact hz, ix_O_moved X.2.2.2.2.2.2.2 hW (fun q hq => ?_) X.2.2.2.2.2.1⟩
  rw [hU]
  exact hS.2.1 q (Nat.lt_of_lt_of_le hq X.2.2.2.2.2.2.1) (Nat.not_le.mpr hq)
theorem ix_cb (X : ix_X p s m args c K cc own nL) {y : MethodName} {cc2 : ByteArray} {maxL idx N : Nat} {ret : Option FieldType} {fr lo mc ms : Nat} (hm : ix_mf y cc2 maxL ret N) (hl : Cond.methodLink own idx y ∈ lw_tbl) (hR : fr + 1 ≤ R.frames ∧ 8 + (maxL + 11) + lo ≤ R.locals) : CallB R s args own idx y cc2 maxL ret (Cond.code y cc2 maxL ret :: ix_tb) (ix_rm fr lo mc ms) mc ms N := by
  refine ⟨rfl, rfl, hR.1, hR.2, ix_words X hm.1, List.mem_cons_self, X.2.2.2.2.1 _ (ix_tbm hm.1 rfl), X.2.2.2.2.1 _ (ix_tbm hm.2.1 rfl), hm.2.2.1, fun sig h => ?_, X.2.2.2.2.1 _ (ix_tbm hl rfl)⟩
  have h2 := hm.2.2.2.1
  rw [h] at h2
  exact (Option.some.inj h2).symm
/-- invokestatic -/
theorem ix_callS (X : ix_X p s m args c K cc own nL) {y : MethodName} {cc2 : ByteArray} {maxL idx N pl : Nat} {ret : Option FieldType} {fr lo mc ms : Nat} {rv : Option Value} {w1 : ix_W} {As rest : List Value} (hm : ix_mf y cc2 maxL ret N) (hst : Cond.static y ∈ lw_tbl) (hl : tables_1[pl]? = some (Cond.methodLink own idx y)) (hR : fr + 1 ≤ R.frames ∧ 8 + (maxL + 11) + lo ≤ R.locals) (hf : k + mc ≤ R.cells ∧ n + ms ≤ R.slots) (hN : As.length = N) (hrm : (rest.map fun v => v.category).sum ≤ 8) (hd : decode cc pc = .ok (.invokestatic idx, 3)) (hM : ix_M l K y cc2 maxL ret fr lo mc ms As w rv w1)
    (hS : As.reverse ++ rest = S) {pc1 : Nat} (hp : pc + 3 = pc1) (kk : ix_G p l e R s m args below meth c Q K nL (k + mc) (n + ms) pc1 L (rv.toList ++ rest) w1) : ix_G p l e R s m args below meth c Q K nL k n pc L S w := by
  subst hp
  subst hS
  refine ix_call0 (a := As.toArray) (fun H locs ls hP hz hS hls => ?_) rfl kk
  exact va_runS ⟨X.1, X.2.1, X.2.2.1, X.2.2.2.1, X.2.2.2.2.1⟩ hM ⟨ix_cb X hm (ix_wm hl) hR, X.2.2.2.2.1 _ (ix_tbm hst rfl)⟩ ⟨ix_blind X.2.2.2.2.2.2.2, ix_pre X hP hz hS As⟩ rfl hN hls rfl (lv_room hrm) hd hf
/-- invokevirtual of a method that the receiver's own class has -/
theorem ix_callV (X : ix_X p s m args c K cc own nL) {y : MethodName} {cc2 : ByteArray} {maxL idx N pl b ci : Nat} {ret : Option FieldType} {fr lo mc ms : Nat} {rv : Option Value} {w1 : ix_W} {As rest : List Value} {T : u_T} {nf : Nat} (hm : ix_mf y cc2 maxL ret N) (hi : Cond.instanceMethod y ∈ lw_tbl) (hs : Cond.selects y.cls y y ∈ lw_tbl) (hcl : ix_cl[ci]? = some (y.cls, T, nf)) (hci : ci < 20) (hl : tables_1[pl]? = some (Cond.methodLink own idx y)) (hR : fr + 1 ≤ R.frames ∧ 8 + (maxL + 11) + lo ≤ R.locals) (hf : k + mc ≤ R.cells ∧ n + ms ≤ R.slots) (hN : As.length = N) (hrm : (rest.map fun v => v.category).sum ≤ 8) (hd : decode cc pc = .ok (.invokevirtual idx, 3)) (hb : b < ix_N w ∧ (ix_T w b).1 = ci) (hM : ix_M l K y cc2 maxL ret fr lo mc ms (.ref (K.2.2.1 + b) :: As) w rv w1)
    (hS : As.reverse ++ .ref (K.2.2.1 + b) :: rest = S) {pc1 : Nat} (hp : pc + 3 = pc1) (kk : ix_G p l e R s m args below meth c Q K nL (k + mc) (n + ms) pc1 L (rv.toList ++ rest) w1) : ix_G p l e R s m args below meth c Q K nL k n pc L S w := by
  subst hp
  subst hS
  refine ix_call0 (a := (Value.ref (K.2.2.1 + b) :: As).toArray) (fun H locs ls hP hz hS hls => ?_) rfl kk
  have he : (ix_ws K w)[b]? = some (K.2.2.1 + b, .inr (ci, (List.range nf).map (fun k => ix_fv K w b (T k).2.2.1 k))) := by rw [ix_at hb.1, ix_eo hb.2 hci hcl]
  exact va_runV (C := y.cls) ⟨X.1, X.2.1, X.2.2.1, X.2.2.2.1, X.2.2.2.2.1⟩ hM ⟨ix_cb X hm (ix_wm hl) hR, X.2.2.2.2.1 _ (ix_tbm hi rfl), X.2.2.2.2.1 _ (ix_tbm hs rfl)⟩ ⟨ix_blind X.2.2.2.2.2.2.2, va_recv X.2.2.2.2.2.1.1 hP hcl he, ix_pre X hP hz hS _⟩ rfl hN hls rfl (lv_room hrm) hd hf
/-- invokespecial of a constructor -/
theorem ix_callI (X : ix_X p s m args c K cc own nL) {y : MethodName} {cc2 : ByteArray} {maxL idx N pl b : Nat} {fr lo mc ms : Nat} {rv : Option Value} {w1 : ix_W} {As rest : List Value} (hm : ix_mf y cc2 maxL none N) (hi : Cond.instanceMethod y ∈ lw_tbl) (hy : y.name = "<init>") (hl : tables_1[pl]? = some (Cond.methodLink own idx y)) (hR : fr + 1 ≤ R.frames ∧ 8 + (maxL + 11) + lo ≤ R.locals) (hf : k + mc ≤ R.cells ∧ n + ms ≤ R.slots) (hN : As.length = N) (hrm : (rest.map fun v => v.category).sum ≤ 8) (hd : decode cc pc = .ok (.invokespecial idx, 3)) (hM : ix_M l K y cc2 maxL none fr lo mc ms (.ref (K.2.2.1 + b) :: As) w rv w1)
    (hS : As.reverse ++ .ref (K.2.2.1 + b) :: rest = S) {pc1 : Nat} (hp : pc + 3 = pc1) (kk : ix_G p l e R s m args below meth c Q K nL (k + mc) (n + ms) pc1 L (rv.toList ++ rest) w1) : ix_G p l e R s m args below meth c Q K nL k n pc L S w := by
  subst hp
  subst hS
  refine ix_call0 (a := (Value.ref (K.2.2.1 + b) :: As).toArray) (fun H locs ls hP hz hS hls => ?_) rfl kk
  exact va_runI ⟨X.1, X.2.1, X.2.2.1, X.2.2.2.1, X.2.2.2.2.1⟩ hM ⟨ix_cb X hm (ix_wm hl) hR, hy, X.2.2.2.2.1 _ (ix_tbm hi rfl)⟩ ⟨ix_blind X.2.2.2.2.2.2.2, ix_pre X hP hz hS _⟩ rfl hN hls rfl (lv_room hrm) hd hf
end IXC

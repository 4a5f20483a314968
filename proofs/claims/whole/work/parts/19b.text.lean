/-! TEXTS: the six literals, their bytes, and what the JDK's own members of them need -/
def ix_slen : List Nat := [4, 5, 4, 5, 3, 4]
def ix_byt : List (List Int32) := [[38, 124, 62, 106], [109, 111, 115, 116, 32], [115, 111, 109, 101], [106, 117, 115, 116, 32], [111, 100, 100], [101, 118, 101, 110]]
def ix_sown : List (String × Nat × String) := [(RX4, 78, "&|>j"), (RX0, 54, "most "), (RX3, 36, "some"), (RX5, 45, "just "), (RX6, 48, "odd"), (RX6, 49, "even")]
def ix_fmt (K : ix_Cx) : Value := if K.2.1 300 = 0 then .null else .ref (K.2.1 301)
def ix_Tx (K : ix_Cx) (U : State) : Prop := vk_S 6 ix_slen ix_byt (fun j => K.2.1 (100 + j)) (fun j => K.2.1 (200 + j)) (ix_A K) U U.heap ∧ (∀ (j : Nat) (q : String × Nat × String), ix_sown[j]? = some q → vk_R q.1 q.2.1 q.2.2 (K.2.1 (100 + j)) U) ∧ va_Z "java/lang/String" "COMPACT_STRINGS" "Z" (.int 1) (ix_A K) U U.heap ∧ va_Z "jdk/internal/util/Preconditions" "SIOOBE_FORMATTER" "Ljava/util/function/BiFunction;" (ix_fmt K) (ix_A K) U U.heap
def ix_Tc (K : ix_Cx) : Prop := ∀ U : State, K.2.2.2 U → ix_Tx K U
section IXT
variable {p : Program} {l : Launch} {e : Env} {R : Room} {s : State} {m : MethodId} {args : Array Value} {below : List Frame} {meth : Method} {c : Code} {Q : State → Prop} {K : ix_Cx} {nL k n : Nat} {cc : ByteArray} {own : String} {pc : Nat} {L : List (Nat × Value)} {S : List Value} {w : ix_W}
theorem ix_ldcS (X : ix_X p s m args c K cc own nL) (hT : ix_Tc K) {j i : Nat} {tx : String} (hj : ix_sown[j]? = some (own, i, tx)) (hd : decode cc pc = .ok (.ldc i, 2)) {pc1 : Nat} (hp : pc + 2 = pc1) (kk : ix_G p l e R s m args below meth c Q K nL k n pc1 L (.ref (K.2.1 (100 + j)) :: S) w) : ix_G p l e R s m args below meth c Q K nL k n pc L S w := by
  subst hp
  intro H locs ls hP hz hS hl
  exact va_ldcS X.1 X.2.1 X.2.2.2.1 ((hT s X.2.2.2.2.2.1.2.2).2.1 j _ hj) hd (kk H locs ls hP hz hS hl)
theorem ix_tval (X : ix_X p s m args c K cc own nL) (hT : ix_Tc K) {j idx pl : Nat} (hj : j < 6) (hl0 : tables_1[pl]? = some (Cond.fieldLink own idx "java/lang/String" "value" "[B")) (hd : decode cc pc = .ok (.getfield idx, 3)) {pc1 : Nat} (hp : pc + 3 = pc1) (kk : ix_G p l e R s m args below meth c Q K nL k n pc1 L (.ref (K.2.1 (200 + j)) :: S) w) : ix_G p l e R s m args below meth c Q K nL k n pc L (.ref (K.2.1 (100 + j)) :: S) w := by
  subst hp
  intro H locs ls hP hz hS hl
  exact vk_getf X.1 X.2.1 ((hT s X.2.2.2.2.2.1.2.2).1.1 j hj).2.2.1 hS X.2.2.2.1 (X.2.2.2.2.1 _ (ix_tbm (ix_wm hl0) rfl)) (fun _ h => h) hd (kk H locs ls hP hz hS hl)
theorem ix_tcod (X : ix_X p s m args c K cc own nL) (hT : ix_Tc K) {j idx pl : Nat} (hj : j < 6) (hl0 : tables_1[pl]? = some (Cond.fieldLink own idx "java/lang/String" "coder" "B")) (hd : decode cc pc = .ok (.getfield idx, 3)) {pc1 : Nat} (hp : pc + 3 = pc1) (kk : ix_G p l e R s m args below meth c Q K nL k n pc1 L (.int 0 :: S) w) : ix_G p l e R s m args below meth c Q K nL k n pc L (.ref (K.2.1 (100 + j)) :: S) w := by
  subst hp
  intro H locs ls hP hz hS hl
  exact vk_getf X.1 X.2.1 ((hT s X.2.2.2.2.2.1.2.2).1.1 j hj).2.1 hS X.2.2.2.1 (X.2.2.2.2.1 _ (ix_tbm (ix_wm hl0) rfl)) (fun _ h => h) hd (kk H locs ls hP hz hS hl)
theorem ix_tsta (X : ix_X p s m args c K cc own nL) (hT : ix_Tc K) {idx pl : Nat} (hl0 : tables_1[pl]? = some (Cond.fieldLink own idx "java/lang/String" "COMPACT_STRINGS" "Z")) (hd : decode cc pc = .ok (.getstatic idx, 3)) {pc1 : Nat} (hp : pc + 3 = pc1) (kk : ix_G p l e R s m args below meth c Q K nL k n pc1 L (.int 1 :: S) w) : ix_G p l e R s m args below meth c Q K nL k n pc L S w := by
  subst hp
  intro H locs ls hP hz hS hl
  exact va_gets X.1 X.2.1 (hT s X.2.2.2.2.2.1.2.2).2.2.1 hS X.2.2.2.1 (X.2.2.2.2.1 _ (ix_tbm (ix_wm hl0) rfl)) (fun _ h => h) hd (kk H locs ls hP hz hS hl)
theorem ix_tfmt (X : ix_X p s m args c K cc own nL) (hT : ix_Tc K) {idx pl : Nat} (hl0 : tables_1[pl]? = some (Cond.fieldLink own idx "jdk/internal/util/Preconditions" "SIOOBE_FORMATTER" "Ljava/util/function/BiFunction;")) (hd : decode cc pc = .ok (.getstatic idx, 3)) {pc1 : Nat} (hp : pc + 3 = pc1) (kk : ix_G p l e R s m args below meth c Q K nL k n pc1 L (ix_fmt K :: S) w) : ix_G p l e R s m args below meth c Q K nL k n pc L S w := by
  subst hp
  intro H locs ls hP hz hS hl
  exact va_gets X.1 X.2.1 (hT s X.2.2.2.2.2.1.2.2).2.2.2 hS X.2.2.2.1 (X.2.2.2.2.1 _ (ix_tbm (ix_wm hl0) rfl)) (fun _ h => h) hd (kk H locs ls hP hz hS hl)
theorem ix_tlen (X : ix_X p s m args c K cc own nL) (hT : ix_Tc K) {j : Nat} (hj : j < 6) (hd : decode cc pc = .ok (.arraylength, 1)) {pc1 : Nat} (hp : pc + 1 = pc1) (kk : ix_G p l e R s m args below meth c Q K nL k n pc1 L (.int (nI (ix_slen.getD j 0)) :: S) w) : ix_G p l e R s m args below meth c Q K nL k n pc L (.ref (K.2.1 (200 + j)) :: S) w := by
  subst hp
  intro H locs ls hP hz hS hl
  exact va_tlen X.1 X.2.1 ((hT s X.2.2.2.2.2.1.2.2).1.1 j hj).2.2.2 hS rfl hd (kk H locs ls hP hz hS hl)
theorem ix_tbyt (X : ix_X p s m args c K cc own nL) (hT : ix_Tc K) {j : Nat} {i : Int32} (hj : j < 6 ∧ vp_in i (ix_slen.getD j 0)) (hd : decode cc pc = .ok (.baload, 1)) {pc1 : Nat} (hp : pc + 1 = pc1) (kk : ix_G p l e R s m args below meth c Q K nL k n pc1 L (.int ((ix_byt.getD j []).getD (ix_n i) 0) :: S) w) : ix_G p l e R s m args below meth c Q K nL k n pc L (.int i :: .ref (K.2.1 (200 + j)) :: S) w := by
  subst hp
  intro H locs ls hP hz hS hl
  exact va_tb X.1 X.2.1 ((hT s X.2.2.2.2.2.1.2.2).1.1 j hj.1).2.2.2 hS hj.2 rfl hd (kk H locs ls hP hz hS hl)
theorem ix_nret (X : ix_X p s m args c K cc own nL) {ty : FieldType} (hr : meth.sig.returnType = some ty) (hlocks : meth.locks = false) {v : Int32} {rv : Option Value} {w1 : ix_W} (hv : narrow ty (.int v) = .int v) (he : rv = some (.int v) ∧ w1 = w) (hd : decode cc pc = .ok (.ireturn, 1)) : ix_G p l e R s m args below meth c (MQ below (ix_Post K rv w1) args s k n (ix_A K)) K nL k n pc L [.int v] w := by
  obtain ⟨rfl, rfl⟩ := he
  exact fun H locs ls hP hz hS hl => W.zret X.1 X.2.1 hr hv (fun t ht _ => ⟨rfl, by rw [ht]; exact hP, by rw [ht]; exact hz, hS.F ht⟩) hS.2.2 hd
theorem ix_fcat : (ix_fmt K).category = 1 := by
  unfold ix_fmt
  split <;> rfl
/-- invokevirtual on a literal -/
theorem ix_callT (X : ix_X p s m args c K cc own nL) (hT : ix_Tc K) {y : MethodName} {cc2 : ByteArray} {maxL idx N pl j : Nat} {ret : Option FieldType} {fr lo : Nat} {rv : Option Value} {w1 : ix_W} {As rest : List Value} (hj : j < 6) (hy : y.cls = "java/lang/String") (hm : ix_mf y cc2 maxL ret N) (hi : Cond.instanceMethod y ∈ lw_tbl) (hs : Cond.selects y.cls y y ∈ lw_tbl) (hl : tables_1[pl]? = some (Cond.methodLink own idx y)) (hR : fr + 1 ≤ R.frames ∧ 8 + (maxL + 11) + lo ≤ R.locals) (hf : k + 0 ≤ R.cells ∧ n + 0 ≤ R.slots) (hN : As.length = N) (hrm : (rest.map fun v => v.category).sum ≤ 8) (hd : decode cc pc = .ok (.invokevirtual idx, 3)) (hM : ix_M l K y cc2 maxL ret fr lo 0 0 (.ref (K.2.1 (100 + j)) :: As) w rv w1)
    (hS : As.reverse ++ .ref (K.2.1 (100 + j)) :: rest = S) {pc1 : Nat} (hp : pc + 3 = pc1) (kk : ix_G p l e R s m args below meth c Q K nL (k + 0) (n + 0) pc1 L (rv.toList ++ rest) w1) : ix_G p l e R s m args below meth c Q K nL k n pc L S w := by
  subst hS
  refine ix_call0 (a := (Value.ref (K.2.1 (100 + j)) :: As).toArray) (fun H locs ls hP hz hS hls => ?_) hp kk
  have hrc := vk_recv (hT s X.2.2.2.2.2.1.2.2).1 hj hS
  rw [← hy] at hrc
  exact va_runV (C := y.cls) ⟨X.1, X.2.1, X.2.2.1, X.2.2.2.1, X.2.2.2.2.1⟩ hM ⟨ix_cb X hm (ix_wm hl) hR, X.2.2.2.2.1 _ (ix_tbm hi rfl), X.2.2.2.2.1 _ (ix_tbm hs rfl)⟩ ⟨ix_blind X.2.2.2.2.2.2.2, hrc, ix_pre X hP hz hS _⟩ rfl hN hls rfl (lv_room hrm) hd hf
end IXT

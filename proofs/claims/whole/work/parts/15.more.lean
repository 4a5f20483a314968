/-- as ix_met, with the heap's size at the start -/
theorem ix_met2 {l : Launch} {K : ix_Cx} {y : MethodName} {cc : ByteArray} {maxL : Nat} {ret : Option FieldType} {fr lo mc ms n : Nat} {av : List Value} {w w1 : ix_W} {rv : Option Value} (hm : ix_mf y cc maxL ret n) (hKp : ix_Kp K) (hle : (lg_sl av).length ≤ maxL)
    (body : ∀ (p : Program) (e : Env) (s : State) (m : MethodId) (args : Array Value) (below : List Frame) (meth : Method) (c : Code), meth.sig.returnType = ret → meth.locks = false → meth.name = y.name → s.heap.size + 0 = K.2.2.1 + ix_N w → ix_X p s m args c K cc y.cls maxL →
      ix_G p l e (ix_rm fr lo mc ms) s m args below meth c (MQ below (ix_Post K rv w1) args s mc ms (ix_A K)) K maxL 0 0 0 (lv_args 0 av) [] w) : ix_M l K y cc maxL ret fr lo mc ms av w rv w1 := by
  refine Met.ofW (cc := cc) (maxL := maxL) (ret := ret) hm.2.2.2.2 rfl ?_
  intro p e s m args below meth c s₁ B hml hv
  obtain ⟨rfl, hP, hz, hO⟩ := hv
  have hts := atoms_spec (ws := .code y cc maxL ret :: ix_tb) B.pre
  rw [lg_entry_eq]
  exact body p e s m _ below meth c B.returns B.notSynchronized (name_of_methodNamed B.named B.method).1 hz ⟨B.exec, B.bytes, hml, findClass_of_methodNamed B.named, fun w hw => hts w (List.mem_cons_of_mem _ hw), hO, by rw [hz]; exact Nat.le_add_right _ _, hKp⟩ s.heap [] _ hP hz va_S.rf (lv_entry av hle)
def ix_cpI (d : ix_D2) (src dst sp dp n : Nat) : ix_D2 := (fun a k => if a = dst ∧ dp ≤ k ∧ k < dp + n then d.1 src (sp + (k - dp)) else d.1 a k, d.2)
def ix_cpJ (d : ix_D2) (src dst sp dp n : Nat) : ix_D2 := (d.1, fun a k => if a = dst ∧ dp ≤ k ∧ k < dp + n then d.2 src (sp + (k - dp)) else d.2 a k)
/-- what a copy of cnt places asks -/
def ix_cpk (z : ix_Z) (t src : Nat) (sp : Int32) (dst : Nat) (dp cnt : Int32) : Prop := src < z.2.2 ∧ (z.2.1 src).1 = t ∧ dst < z.2.2 ∧ (z.2.1 dst).1 = t ∧ ¬ sp < 0 ∧ ¬ dp < 0 ∧ ¬ cnt < 0 ∧ ix_n sp + ix_n cnt ≤ (z.2.1 src).2 ∧ ix_n dp + ix_n cnt ≤ (z.2.1 dst).2
/-- a choice by a reference that may be null -/
def ix_on {α : Type} (r : Option Nat) (A : Option α) (B : Nat → Option α) : Option α := match r with
  | none => A
  | some b => B b
section IXB
variable {p : Program} {l : Launch} {e : Env} {R : Room} {s : State} {m : MethodId} {args : Array Value} {below : List Frame} {meth : Method} {c : Code} {Q : State → Prop} {K : ix_Cx} {nL k n : Nat} {cc : ByteArray} {own : String} {pc : Nat} {L : List (Nat × Value)} {S : List Value} {z : ix_Z} {d : ix_D2}
theorem ix_ge {w : ix_W} {H : Heap} (hP : va_P K.1 ix_cl (ix_ws K w) H) (hN : 0 < ix_N w) : K.2.2.1 + ix_N w ≤ H.size := by
  have h := (hP (ix_N w - 1) _ (ix_at (K := K) (w := w) (a := ix_N w - 1) (by omega))).lt
  have h2 : K.2.2.1 + (ix_N w - 1) < H.size := h
  omega
theorem iz_aald (X : ix_X p s m args c K cc own nL) {a t : Nat} {i : Int32} (ht : t = 24 ∨ t = 25) (hi : ix_ix z t a i) (hd : decode cc pc = .ok (.aaload, 1)) {pc1 : Nat} (hp : pc + 1 = pc1) (kk : ix_G p l e R s m args below meth c Q K nL k n pc1 L (ix_rv K (z.1 a (ix_n i)) :: S) (ix_w z d)) : ix_G p l e R s m args below meth c Q K nL k n pc L (.int i :: .ref (K.2.2.1 + a) :: S) (ix_w z d) := by
  subst hp
  intro H locs ls hP hz hS hl
  have hA := ix_aR (K := K) (w := ix_w z d) hi.1 hi.2.1 (by omega)
  have hlt : i.toNatClampNeg < (z.2.1 a).2 := Nat.not_le.mp fun q => hi.2.2 (Or.inr q)
  have hty : ∃ ty, (ix_tys K)[t - 20]? = some (K.2.1 (t - 20), ty) ∧ ty.isReference = true := by
    rcases ht with rfl | rfl
    · exact ⟨_, rfl, rfl⟩
    · exact ⟨_, rfl, rfl⟩
  obtain ⟨ty, hty, hrf⟩ := hty
  exact W.aald (v := ix_rv K (z.1 a (ix_n i))) (ty := ty) X.1 X.2.1 (hP a _ hA) ((X.2.2.2.2.2.1.1.2 _ _ hty).1 _ (fun j => va_rf ((z.1 a j).map (fun a => K.2.2.1 + a)))) hrf (fun q => by cases q) (by show ¬ (i < 0 ∨ (arrV _ _ _).slots.size ≤ _); rw [arrV_size]; exact hi.2.2) (arrV_read (K.2.1 (t - 20)) (fun j => va_rf ((z.1 a j).map (fun a => K.2.2.1 + a))) hlt) rfl rfl hd (kk H locs ls hP hz hS hl)
theorem ix_cset {w w1 : ix_W} {a t : Nat} {g : Nat → Int32} (ha : a < ix_N w) (ht : (ix_T w a).1 = t) (h1 : 20 ≤ t) (h2 : t < 23) (hN : ix_N w1 = ix_N w) (hT : ix_T w1 = ix_T w) (hJ : w1.2.1 = w.2.1) (hR : w1.2.2.1 = w.2.2.1) (hb : ∀ b, b ≠ a → w1.1 b = w.1 b) (hg : w1.1 a = g) : (ix_ws K w).set a (K.2.2.1 + a, .inl (K.2.1 (t - 20), ((ix_T w a).2, .inl g))) = ix_ws K w1 := by
  rw [← ix_set (w' := w1) ha hN (fun b hne => ix_e_congr (hb b hne) (by rw [hJ]) (by rw [hR]) (by rw [hT])), ix_ei (w := w1) (t := t) (n := (ix_T w a).2) (by rw [hT, ← ht]) h1]
  simp only [ix_c]
  rw [if_neg (by omega), if_pos h2, hg]
theorem ix_csetJ {w w1 : ix_W} {a : Nat} {g : Nat → Int64} (ha : a < ix_N w) (ht : (ix_T w a).1 = 23) (hN : ix_N w1 = ix_N w) (hT : ix_T w1 = ix_T w) (hI : w1.1 = w.1) (hR : w1.2.2.1 = w.2.2.1) (hb : ∀ b, b ≠ a → w1.2.1 b = w.2.1 b) (hg : w1.2.1 a = g) : (ix_ws K w).set a (K.2.2.1 + a, .inl (K.2.1 3, ((ix_T w a).2, .inr (.inl g)))) = ix_ws K w1 := by
  rw [← ix_set (w' := w1) ha hN (fun b hne => ix_e_congr (by rw [hI]) (hb b hne) (by rw [hR]) (by rw [hT])), ix_ei (w := w1) (t := 23) (n := (ix_T w a).2) (by rw [hT, ← ht]) (by decide)]
  rw [← hg]
  rfl
theorem iz_copyI (X : ix_X p s m args c K cc own nL) (hsz : s.heap.size + k = K.2.2.1 + z.2.2) {src dst idx pl t : Nat} {sp dp cnt : Int32} {d1 : ix_D2} (h20 : t = 20 ∨ t = 21 ∧ ∀ i, i < ix_n cnt → fits .byte (.int (d.1 src (ix_n sp + i))) = true) (hl0 : tables_1[pl]? = some (Cond.methodLink own idx arraycopyName)) (hk : ix_cpk z t src sp dst dp cnt) (hfr : 1 ≤ R.frames) (hlo : (S.map fun v => v.category).sum + 18 ≤ R.locals) (hd : decode cc pc = .ok (.invokestatic idx, 3)) (hw : d1 = ix_cpI d src dst (ix_n sp) (ix_n dp) (ix_n cnt)) {pc1 : Nat} (hp : pc + 3 = pc1)
    (kk : ix_G p l e R s m args below meth c Q K nL k n pc1 L S (ix_w z d1)) : ix_G p l e R s m args below meth c Q K nL k n pc L (.int cnt :: .int dp :: .ref (K.2.2.1 + dst) :: .int sp :: .ref (K.2.2.1 + src) :: S) (ix_w z d) := by
  subst hp
  subst hw
  intro H locs ls hP hz hS hl
  obtain ⟨g1, g2, g3, g4, g5, g6, g7, g8, g9⟩ := hk
  have h2 : 20 ≤ t ∧ t < 23 := by rcases h20 with h | ⟨h, -⟩ <;> omega
  have ha := ix_aI (K := K) (w := ix_w z d) g1 g2 h2.1 h2.2
  have hb := ix_aI (K := K) (w := ix_w z d) g3 g4 h2.1 h2.2
  have hty : ∃ ty, (ix_tys K)[t - 20]? = some (K.2.1 (t - 20), ty) ∧ refKind ty = false ∧ ∀ i, i < cnt.toNatClampNeg → fits ty (.int (d.1 src (sp.toNatClampNeg + i))) = true := by
    rcases h20 with rfl | ⟨rfl, h⟩
    · exact ⟨_, rfl, rfl, fun _ _ => rfl⟩
    · exact ⟨_, rfl, rfl, h⟩
  obtain ⟨ty, ht, hpr, hft⟩ := hty
  refine va_copyi X.1 X.2.1 (X.2.2.1.trans hl.1.symm) X.2.2.2.1 (X.2.2.2.2.1 _ (ix_tbm (ix_wm hl0) rfl)) (X.2.2.2.2.1 _ (ix_tbm (ix_wm (i := 442) (by decide +kernel)) rfl)) (X.2.2.2.2.1 _ (ix_tbm (ix_wm (i := 441) (by decide +kernel)) rfl)) (X.2.2.2.2.1 _ (ix_tbm (ix_wm (i := 9) (by decide +kernel)) rfl)) X.2.2.2.2.2.1.1 hP ix_D hS src dst (t - 20) (t - 20) ha hb ht ht hpr g5 g6 g7 g8 g9 hft hfr hlo hd (fun H1 locs1 hP1 hD1 hS1 => ?_)
  rw [ix_cset (w := ix_w z d) (w1 := ix_w z (ix_cpI d src dst (ix_n sp) (ix_n dp) (ix_n cnt))) g3 g4 h2.1 h2.2 rfl rfl rfl rfl (fun b hne => by funext k'; simp [ix_w, ix_cpI, hne]) (by funext k'; simp [ix_w, ix_cpI, va_cpy, ix_n])] at hP1
  intro T hT X2
  have e1 : H1.size ≤ s.heap.size + k := by rw [← hT]; exact X2.heapSize
  have e2 := ix_ge hP1 (Nat.lt_of_le_of_lt (Nat.zero_le _) g1)
  exact kk H1 locs1 ls hP1 (Nat.le_antisymm (by rw [hsz] at e1; exact e1) e2) hS1 hl T hT X2
theorem iz_copyJ (X : ix_X p s m args c K cc own nL) (hsz : s.heap.size + k = K.2.2.1 + z.2.2) {src dst idx pl : Nat} {sp dp cnt : Int32} {d1 : ix_D2} (hl0 : tables_1[pl]? = some (Cond.methodLink own idx arraycopyName)) (hk : ix_cpk z 23 src sp dst dp cnt) (hfr : 1 ≤ R.frames) (hlo : (S.map fun v => v.category).sum + 18 ≤ R.locals) (hd : decode cc pc = .ok (.invokestatic idx, 3)) (hw : d1 = ix_cpJ d src dst (ix_n sp) (ix_n dp) (ix_n cnt)) {pc1 : Nat} (hp : pc + 3 = pc1)
    (kk : ix_G p l e R s m args below meth c Q K nL k n pc1 L S (ix_w z d1)) : ix_G p l e R s m args below meth c Q K nL k n pc L (.int cnt :: .int dp :: .ref (K.2.2.1 + dst) :: .int sp :: .ref (K.2.2.1 + src) :: S) (ix_w z d) := by
  subst hp
  subst hw
  intro H locs ls hP hz hS hl
  obtain ⟨g1, g2, g3, g4, g5, g6, g7, g8, g9⟩ := hk
  have ha := ix_aJ (K := K) (w := ix_w z d) g1 g2
  have hb := ix_aJ (K := K) (w := ix_w z d) g3 g4
  refine va_copyl X.1 X.2.1 (X.2.2.1.trans hl.1.symm) X.2.2.2.1 (X.2.2.2.2.1 _ (ix_tbm (ix_wm hl0) rfl)) (X.2.2.2.2.1 _ (ix_tbm (ix_wm (i := 442) (by decide +kernel)) rfl)) (X.2.2.2.2.1 _ (ix_tbm (ix_wm (i := 441) (by decide +kernel)) rfl)) (X.2.2.2.2.1 _ (ix_tbm (ix_wm (i := 9) (by decide +kernel)) rfl)) X.2.2.2.2.2.1.1 hP ix_D hS src dst 3 3 ha hb rfl rfl rfl g5 g6 g7 g8 g9 (fun _ _ => rfl) hfr hlo hd (fun H1 locs1 hP1 hD1 hS1 => ?_)
  rw [ix_csetJ (w := ix_w z d) (w1 := ix_w z (ix_cpJ d src dst (ix_n sp) (ix_n dp) (ix_n cnt))) g3 g4 rfl rfl rfl rfl (fun b hne => by funext k'; simp [ix_w, ix_cpJ, hne]) (by funext k'; simp [ix_w, ix_cpJ, va_cpy, ix_n])] at hP1
  intro T hT X2
  have e1 : H1.size ≤ s.heap.size + k := by rw [← hT]; exact X2.heapSize
  have e2 := ix_ge hP1 (Nat.lt_of_le_of_lt (Nat.zero_le _) g1)
  exact kk H1 locs1 ls hP1 (Nat.le_antisymm (by rw [hsz] at e1; exact e1) e2) hS1 hl T hT X2
/-- invokevirtual of a method that the reference's class has from elsewhere, or that the receiver's class has anew -/
theorem ix_callU (X : ix_X p s m args c K cc own nL) {x y : MethodName} {owner C : String} {cc2 : ByteArray} {maxL idx N pl b ci : Nat} {ret : Option FieldType} {fr lo mc ms : Nat} {rv : Option Value} {w w1 : ix_W} {As rest : List Value} {T : u_T} {nf : Nat} (hm : ix_mf y cc2 maxL ret N) (hi : Cond.instanceMethod y ∈ lw_tbl) (hsl : Cond.selects C x y ∈ lw_tbl) (hsm : Cond.sameMethod x.cls owner x.name x.desc ∈ lw_tbl) (hdc : Cond.declares ⟨owner, x.name, x.desc⟩ ∈ lw_tbl ∨ Cond.instanceMethod ⟨owner, x.name, x.desc⟩ ∈ lw_tbl ∧ ∃ b0 m0 r0, Cond.code ⟨owner, x.name, x.desc⟩ b0 m0 r0 ∈ lw_tbl) (how : owner ≠ "java/lang/invoke/MethodHandle" ∧ owner ≠ "java/lang/invoke/VarHandle") (hxd : (parseMethodDescriptor x.desc).map (fun d => d.parameters.length) = some N)
    (hcl : ix_cl[ci]? = some (C, T, nf)) (hci : ci < 20) (hl : tables_1[pl]? = some (Cond.methodLink own idx x)) (hR : fr + 1 ≤ R.frames ∧ 8 + (maxL + 11) + lo ≤ R.locals) (hf : k + mc ≤ R.cells ∧ n + ms ≤ R.slots) (hN : As.length = N) (hrm : (rest.map fun v => v.category).sum ≤ 8) (hd : decode cc pc = .ok (.invokevirtual idx, 3)) (hb : b < ix_N w ∧ (ix_T w b).1 = ci) (hM : ix_M l K y cc2 maxL ret fr lo mc ms (.ref (K.2.2.1 + b) :: As) w rv w1)
    (hS : As.reverse ++ .ref (K.2.2.1 + b) :: rest = S) {pc1 : Nat} (hp : pc + 3 = pc1) (kk : ix_G p l e R s m args below meth c Q K nL (k + mc) (n + ms) pc1 L (rv.toList ++ rest) w1) : ix_G p l e R s m args below meth c Q K nL k n pc L S w := by
  subst hS
  refine ix_call0 (a := (Value.ref (K.2.2.1 + b) :: As).toArray) (fun H locs ls hP hz hS hls => ?_) hp kk
  have he : (ix_ws K w)[b]? = some (K.2.2.1 + b, .inr (ci, (List.range nf).map (fun k => ix_fv K w b (T k).2.2.1 k))) := by rw [ix_at hb.1, ix_eo hb.2 hci hcl]
  have hts := X.2.2.2.2.1
  have hD : va_Decl s ⟨owner, x.name, x.desc⟩ := by
    rcases hdc with h | ⟨h, b0, m0, r0, h2⟩
    · exact va_Decl.abs (X.2.2.2.2.2.1.2.1 _ (ix_ntm h rfl))
    · exact va_Decl.of (hts _ (ix_tbm h rfl)) (hts _ (ix_tbm h2 rfl))
  exact va_runU (C := C) (owner := owner) (x := x) ⟨X.1, X.2.1, X.2.2.1, X.2.2.2.1, hts⟩ hM ⟨⟨rfl, rfl, hR.1, hR.2, ix_words X hm.1, List.mem_cons_self⟩, hts _ (ix_tbm hm.1 rfl), hts _ (ix_tbm hm.2.1 rfl), how, (fun sig h => by rw [h] at hxd; exact (Option.some.inj hxd).symm), hts _ (ix_tbm (ix_wm hl) rfl), hts _ (ix_tbm hsm rfl), hD, hts _ (ix_tbm hsl rfl), hts _ (ix_tbm hi rfl)⟩ ⟨ix_blind X.2.2.2.2.2.2.2, va_recv X.2.2.2.2.2.1.1 hP hcl he, ix_pre X hP hz hS _⟩ rfl hN hls rfl (lv_room hrm) hd hf
/-- super.method(..) of the class just above -/
theorem ix_callSU (X : ix_X p s m args c K cc own nL) {y : MethodName} {C : String} {cc2 : ByteArray} {maxL idx N pl b ci : Nat} {ret : Option FieldType} {fr lo mc ms : Nat} {rv : Option Value} {w w1 : ix_W} {As rest : List Value} {T : u_T} {nf : Nat} (hm : ix_mf y cc2 maxL ret N) (hi : Cond.instanceMethod y ∈ lw_tbl) (hsm : Cond.sameMethod y.cls y.cls y.name y.desc ∈ lw_tbl) (hsu : Cond.superclass own y.cls ∈ lw_tbl) (hy : y.name ≠ "<init>")
    (hcl : ix_cl[ci]? = some (C, T, nf)) (hci : ci < 20) (hl : tables_1[pl]? = some (Cond.methodLink own idx y)) (hR : fr + 1 ≤ R.frames ∧ 8 + (maxL + 11) + lo ≤ R.locals) (hf : k + mc ≤ R.cells ∧ n + ms ≤ R.slots) (hN : As.length = N) (hrm : (rest.map fun v => v.category).sum ≤ 8) (hd : decode cc pc = .ok (.invokespecial idx, 3)) (hb : b < ix_N w ∧ (ix_T w b).1 = ci) (hM : ix_M l K y cc2 maxL ret fr lo mc ms (.ref (K.2.2.1 + b) :: As) w rv w1)
    (hS : As.reverse ++ .ref (K.2.2.1 + b) :: rest = S) {pc1 : Nat} (hp : pc + 3 = pc1) (kk : ix_G p l e R s m args below meth c Q K nL (k + mc) (n + ms) pc1 L (rv.toList ++ rest) w1) : ix_G p l e R s m args below meth c Q K nL k n pc L S w := by
  subst hS
  refine ix_call0 (a := (Value.ref (K.2.2.1 + b) :: As).toArray) (fun H locs ls hP hz hS hls => ?_) hp kk
  have he : (ix_ws K w)[b]? = some (K.2.2.1 + b, .inr (ci, (List.range nf).map (fun k => ix_fv K w b (T k).2.2.1 k))) := by rw [ix_at hb.1, ix_eo hb.2 hci hcl]
  have hts := X.2.2.2.2.1
  have hxd := hm.2.2.2.1
  exact va_runSU (C := C) (X.2.2.2.2.2.1.1.1 ci _ hcl).2 ⟨X.1, X.2.1, X.2.2.1, X.2.2.2.1, hts⟩ hM ⟨⟨rfl, rfl, hR.1, hR.2, ix_words X hm.1, List.mem_cons_self⟩, hts _ (ix_tbm (ix_wm hl) rfl), hts _ (ix_tbm hsm rfl), hts _ (ix_tbm hsu rfl), hts _ (ix_tbm hi rfl), hts _ (ix_tbm hm.2.1 rfl), hts _ (ix_tbm hm.1 rfl), hy, (fun sig h => by rw [h] at hxd; exact (Option.some.inj hxd).symm)⟩ ⟨ix_blind X.2.2.2.2.2.2.2, va_recv X.2.2.2.2.2.1.1 hP hcl he, ix_pre X hP hz hS _⟩ rfl hN hls rfl (lv_room hrm) hd hf
/-- Object.<init> -/
theorem ix_objI (X : ix_X p s m args c K cc own nL) {w : ix_W} {a idx pl : Nat} (hl : tables_1[pl]? = some (Cond.methodLink own idx Lib.objectInit)) (hfr : 1 ≤ R.frames) (hlo : (S.map fun v => v.category).sum + 12 ≤ R.locals) (hd : decode cc pc = .ok (.invokespecial idx, 3)) {pc1 : Nat} (hp : pc + 3 = pc1) (kk : ix_G p l e R s m args below meth c Q K nL k n pc1 L S w) : ix_G p l e R s m args below meth c Q K nL k n pc L (.ref a :: S) w := by
  subst hp
  intro H locs ls hP hz hS hl1
  exact W.objInit X.1 X.2.1 X.2.2.2.1 (X.2.2.2.2.1 _ (ix_tbm (ix_wm hl) rfl)) (X.2.2.2.2.1 _ (ix_tbm (ix_wm (i := 30) (by decide +kernel)) rfl)) (X.2.2.2.2.1 _ (ix_tbm (ix_wm (i := 31) (by decide +kernel)) rfl)) rfl (hl1.1.trans X.2.2.1.symm) rfl hd hfr (by show 2 * 0 + _ + _ ≤ _; omega) (kk H locs ls hP hz hS hl1)
/-- a new cell of kind t with len places -/
def ix_zn (z : ix_Z) (t len : Nat) : ix_Z := (fun a k => if a = z.2.2 then none else z.1 a k, fun a => if a = z.2.2 then (t, len) else z.2.1 a, z.2.2 + 1)
def ix_dn (d : ix_D2) (N : Nat) : ix_D2 := (fun a k => if a = N then 0 else d.1 a k, fun a k => if a = N then 0 else d.2 a k)
theorem ix_ws_al {t len : Nat} : ix_ws K (ix_w (ix_zn z t len) (ix_dn d z.2.2)) = ix_ws K (ix_w z d) ++ [(K.2.2.1 + z.2.2, ix_e K (ix_w (ix_zn z t len) (ix_dn d z.2.2)) z.2.2)] := by
  unfold ix_ws
  rw [show ix_N (ix_w (ix_zn z t len) (ix_dn d z.2.2)) = z.2.2 + 1 from rfl, show ix_N (ix_w z d) = z.2.2 from rfl, List.range_succ, List.map_append]
  congr 1
  apply List.map_congr_left
  intro a ha
  have hne : a ≠ z.2.2 := Nat.ne_of_lt (List.mem_range.mp ha)
  rw [ix_e_congr (w := ix_w z d) (w' := ix_w (ix_zn z t len) (ix_dn d z.2.2)) (by funext k'; simp [ix_w, ix_dn, hne]) (by funext k'; simp [ix_w, ix_dn, hne]) (by funext k'; simp [ix_w, ix_zn, hne]) (by simp [ix_T, ix_w, ix_zn, hne])]
end IXB

/-! WHAT ELSE IS KNOWN OF THE START: array classes, casts that fail -/
def ix_ncl : List (String × String) := [(RX6, RX3), (RX3, RX0), (RX6, RX0), (RX10, RX0), (RX3, RX5), (RX0, RX5), (RX6, RX5), (RX10, RX5), (RX3, RX6), (RX0, RX6), (RX5, RX6), (RX10, RX6), (RX3, RX10), (RX0, RX10), (RX5, RX10), (RX6, RX10)]
def ix_F (U : State) : Prop := va_AO RX8 U ∧ (∀ q ∈ ix_ncl, va_Nc q.1 q.2 U) ∧ (Cond.arrayOver (.array .int)).before #[] U = true
def ix_Fc (K : ix_Cx) : Prop := ∀ U : State, K.2.2.2 U → ix_F U
theorem ix_on_n {α : Type} {A : Option α} {B : Nat → Option α} {r : α} (h : ix_on none A B = some r) : A = some r := h
theorem ix_on_s {α : Type} {A : Option α} {B : Nat → Option α} {b : Nat} {r : α} (h : ix_on (some b) A B = some r) : B b = some r := h
section IXI
variable {p : Program} {l : Launch} {e : Env} {R : Room} {s : State} {m : MethodId} {args : Array Value} {below : List Frame} {meth : Method} {c : Code} {Q : State → Prop} {K : ix_Cx} {nL k n : Nat} {cc : ByteArray} {own : String} {pc : Nat} {L : List (Nat × Value)} {S : List Value} {z : ix_Z} {d : ix_D2} {w : ix_W}
theorem ix_rvs {r : Option Nat} {b : Nat} (h : r = some b) (kk : ix_G p l e R s m args below meth c Q K nL k n pc L (.ref (K.2.2.1 + b) :: S) w) : ix_G p l e R s m args below meth c Q K nL k n pc L (ix_rv K r :: S) w := by
  subst h
  exact kk
theorem ix_rvn {r : Option Nat} (h : r = none) (kk : ix_G p l e R s m args below meth c Q K nL k n pc L (.null :: S) w) : ix_G p l e R s m args below meth c Q K nL k n pc L (ix_rv K r :: S) w := by
  subst h
  exact kk
/-- instanceof: the receiver's class ci has the name C; T is above it, or C itself, or not -/
theorem ix_inY (X : ix_X p s m args c K cc own nL) {a ci idx pl nf : Nat} {C T : String} {TT : u_T} (hcl : ix_cl[ci]? = some (C, TT, nf)) (hci : ci < 20) (h1 : tables_1[pl]? = some (Cond.classLink own idx T)) (h2 : Cond.castable C T ∈ lw_tbl) (ha : a < ix_N w ∧ (ix_T w a).1 = ci) (hd : decode cc pc = .ok (.instanceof idx, 3)) {pc1 : Nat} (hp : pc + 3 = pc1) (kk : ix_G p l e R s m args below meth c Q K nL k n pc1 L (.int 1 :: S) w) : ix_G p l e R s m args below meth c Q K nL k n pc L (.ref (K.2.2.1 + a) :: S) w := by
  subst hp
  intro H locs ls hP hz hS hl
  have he : (ix_ws K w)[a]? = some (K.2.2.1 + a, .inr (ci, (List.range nf).map (fun k => ix_fv K w a (TT k).2.2.1 k))) := by rw [ix_at ha.1, ix_eo ha.2 hci hcl]
  exact va_instY X.1 X.2.1 X.2.2.2.1 (X.2.2.2.2.1 _ (ix_tbm (ix_wm h1) rfl)) (X.2.2.2.2.2.1.2.1 _ (ix_ntm h2 rfl)) (va_recv X.2.2.2.2.2.1.1 hP hcl he) hd (kk H locs ls hP hz hS hl)
theorem ix_inN (X : ix_X p s m args c K cc own nL) (hF : ix_Fc K) {a ci idx pl nf : Nat} {C T : String} {TT : u_T} (hcl : ix_cl[ci]? = some (C, TT, nf)) (hci : ci < 20) (h1 : tables_1[pl]? = some (Cond.classLink own idx T)) (h2 : (C, T) ∈ ix_ncl) (ha : a < ix_N w ∧ (ix_T w a).1 = ci) (hd : decode cc pc = .ok (.instanceof idx, 3)) {pc1 : Nat} (hp : pc + 3 = pc1) (kk : ix_G p l e R s m args below meth c Q K nL k n pc1 L (.int 0 :: S) w) : ix_G p l e R s m args below meth c Q K nL k n pc L (.ref (K.2.2.1 + a) :: S) w := by
  subst hp
  intro H locs ls hP hz hS hl
  have he : (ix_ws K w)[a]? = some (K.2.2.1 + a, .inr (ci, (List.range nf).map (fun k => ix_fv K w a (TT k).2.2.1 k))) := by rw [ix_at ha.1, ix_eo ha.2 hci hcl]
  exact va_instNo X.1 X.2.1 X.2.2.2.1 (X.2.2.2.2.1 _ (ix_tbm (ix_wm h1) rfl)) ((hF s X.2.2.2.2.2.1.2.2).2.1 _ h2) (va_recv X.2.2.2.2.2.1.1 hP hcl he) hd (kk H locs ls hP hz hS hl)
end IXI

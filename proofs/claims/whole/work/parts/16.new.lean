def ix_dv (d : String) : Value := if ix_ft d = 0 then .int 0 else if ix_ft d = 1 then .long 0 else .null
theorem ix_dvok : ∀ r ∈ ix_cl, ∀ k, k < r.2.2 → (parseFieldDescriptor (r.2.1 k).2.2.1).map defaultValue = some (ix_dv (r.2.1 k).2.2.1) := by decide +kernel
def ix_zr (z : ix_Z) (a k : Nat) (v : Option Nat) : ix_Z := (ix_up z.1 a k v, z.2)
theorem ix_r3 {α β γ : Type} {a a' : α} {b b' : β} {c c' : γ} {f : α → Option Value} {g : β → γ → ix_W} (h : some (a, b, c) = some (a', b', c')) : f a' = f a ∧ g b' c' = g b c := by
  cases h
  exact ⟨rfl, rfl⟩
theorem ix_r2v {β γ : Type} {b b' : β} {c c' : γ} {g : β → γ → ix_W} (h : some (b, c) = some (b', c')) : (none : Option Value) = none ∧ g b' c' = g b c := by
  cases h
  exact ⟨rfl, rfl⟩
def ix_bd3 {α β γ δ : Type} (a : Option (α × β × γ)) (k : α → β → γ → Option δ) : Option δ := a.bind (fun t => k t.1 t.2.1 t.2.2)
theorem ix_bd3_ex {α β γ δ : Type} {a : Option (α × β × γ)} {k : α → β → γ → Option δ} {r : δ} (h : ix_bd3 a k = some r) : ∃ x y z, a = some (x, y, z) ∧ k x y z = some r := by
  obtain ⟨⟨x, y, z⟩, h1, h2⟩ := Option.bind_eq_some_iff.mp h
  exact ⟨x, y, z, h1, h2⟩
theorem ix_c20 {K : ix_Cx} {w : ix_W} {a : Nat} : ix_c K w a 20 = .inl (w.1 a) := by simp [ix_c]
theorem ix_c21 {K : ix_Cx} {w : ix_W} {a : Nat} : ix_c K w a 21 = .inl (w.1 a) := by simp [ix_c]
theorem ix_c22 {K : ix_Cx} {w : ix_W} {a : Nat} : ix_c K w a 22 = .inl (w.1 a) := by simp [ix_c]
theorem ix_c23 {K : ix_Cx} {w : ix_W} {a : Nat} : ix_c K w a 23 = .inr (.inl (w.2.1 a)) := by simp [ix_c]
theorem ix_c24 {K : ix_Cx} {w : ix_W} {a : Nat} : ix_c K w a 24 = .inr (.inr (.inr (.inr (fun i => (w.2.2.1 a i).map (fun a => K.2.2.1 + a))))) := by simp [ix_c]
theorem ix_c25 {K : ix_Cx} {w : ix_W} {a : Nat} : ix_c K w a 25 = .inr (.inr (.inr (.inr (fun i => (w.2.2.1 a i).map (fun a => K.2.2.1 + a))))) := by simp [ix_c]
section IXA
variable {p : Program} {l : Launch} {e : Env} {R : Room} {s : State} {m : MethodId} {args : Array Value} {below : List Frame} {meth : Method} {c : Code} {Q : State → Prop} {K : ix_Cx} {nL k n : Nat} {cc : ByteArray} {own : String} {pc : Nat} {L : List (Nat × Value)} {S : List Value} {z : ix_Z} {d : ix_D2}
theorem ix_grow {H H1 : Heap} {t len : Nat} (hP : va_P K.1 ix_cl (ix_ws K (ix_w z d)) H) (hz : H.size = K.2.2.1 + z.2.2) (o1 : ∀ q, q < H.size → H1[q]? = H[q]?) (he : va_at K.1 ix_cl (K.2.2.1 + z.2.2, ix_e K (ix_w (ix_zn z t len) (ix_dn d z.2.2)) z.2.2) H1) : va_P K.1 ix_cl (ix_ws K (ix_w (ix_zn z t len) (ix_dn d z.2.2))) H1 := by
  rw [ix_ws_al]
  refine (hP.kept (fun k x hx => o1 x.1 ((hP k x hx).lt))).app (fun k x hx => ?_)
  have hk : k < 1 := (List.getElem?_eq_some_iff.mp hx).1
  rw [show k = 0 by omega] at hx
  cases hx
  exact he
theorem ix_S_grow {H H1 : Heap} {locs : List Loc} (hS : va_S (ix_A K) s.heap H locs) (z1 : H1.size = H.size + 1) (o1 : ∀ q, q < H.size → H1[q]? = H[q]?) : va_S (ix_A K) s.heap H1 locs :=
  ⟨Nat.le_trans hS.1 (by omega), fun x h1 h2 => (o1 x (Nat.lt_of_lt_of_le h1 hS.1)).trans (hS.2.1 x h1 h2), hS.2.2⟩
theorem iz_new (X : ix_X p s m args c K cc own nL) {ci idx pl pi pj N : Nat} {C : String} {T : u_T} {z1 : ix_Z} {d1 : ix_D2} (hcl : ix_cl[ci]? = some (C, T, N)) (hci : ci < 20) (h1 : tables_1[pl]? = some (Cond.classLink own idx C)) (h2 : tables_1[pi]? = some (Cond.instantiable C N)) (h3 : tables_1[pj]? = some (Cond.initialized C)) (hc : k + 1 ≤ R.cells) (hs : n + N ≤ R.slots) (hd : decode cc pc = .ok (.new idx, 3)) (hz1 : z1 = ix_zn z ci N) (hd1 : d1 = ix_dn d z.2.2) {pc1 : Nat} (hp : pc + 3 = pc1)
    (kk : ix_G p l e R s m args below meth c Q K nL (k + 1) (n + N) pc1 L (.ref (K.2.2.1 + z.2.2) :: S) (ix_w z1 d1)) : ix_G p l e R s m args below meth c Q K nL k n pc L S (ix_w z d) := by
  subst hp
  subst hz1
  subst hd1
  intro H locs ls hP hz hS hl
  obtain ⟨hx, hb, hml, hown, hts, hO, hN0, hKp⟩ := X
  have hKn := hO.1.1 ci _ hcl
  have hrm := List.mem_of_getElem? hcl
  have hin : ∀ w ∈ u_ws C T N, w ∈ ix_tb := fun w hw => ix_tbm (ix_in _ hrm w hw).1 (ix_in _ hrm w hw).2
  obtain ⟨ty, hty⟩ := ix_ty _ hrm
  have hz' : H.size = K.2.2.1 + z.2.2 := hz
  refine W.newcK hx hb hown (hts _ (ix_tbm (ix_wm h1) rfl)) (hts _ (ix_tbm (ix_wm h2) rfl)) (hts _ (ix_tbm (ix_wm h3) rfl)) rfl hd hc hs hKn.2.1 hz' fun H1 kC hkC e1 zz o1 => ?_
  refine kk H1 locs ls (ix_grow hP hz' (fun q hq => o1 q (hz' ▸ hq)) ?_) (zz.trans rfl) (ix_S_grow hS (by rw [hz']; exact zz) (fun q hq => o1 q (hz' ▸ hq))) hl
  rw [ix_eo (ci := ci) (by simp [ix_T, ix_w, ix_zn]) hci hcl]
  refine ⟨_, hcl, (u_born ty hts hin hKn hkC e1 hty).to (fun j hj => ?_)⟩
  have h5 := ix_dvok _ hrm j hj
  have h6 := hty j hj
  rw [h6] at h5
  have h7 : defaultValue (ty j) = ix_dv (T j).2.2.1 := Option.some.inj h5
  rw [h7]
  simp only [vp_V, List.getD_eq_getElem?_getD, List.getElem?_map, List.getElem?_range hj, Option.map_some, Option.getD_some]
  simp [ix_dv, ix_fv, ix_w, ix_zn, ix_dn, ix_rv, va_rf]
theorem iz_newa_int (X : ix_X p s m args c K cc own nL) {len : Int32} {pl : Nat} {z1 : ix_Z} {d1 : ix_D2} (h1 : tables_1[pl]? = some (Cond.arrayClass .int)) (hn : ¬ len < 0) (hB : ix_n len ≤ 60000) (hc : k + 1 ≤ R.cells) (hs : n + ix_n len ≤ R.slots) (hd : decode cc pc = .ok (.newarray .int, 2)) (hz1 : z1 = ix_zn z 20 (ix_n len)) (hd1 : d1 = ix_dn d z.2.2) {pc1 : Nat} (hp : pc + 2 = pc1)
    (kk : ix_G p l e R s m args below meth c Q K nL (k + 1) (n + ix_n len) pc1 L (.ref (K.2.2.1 + z.2.2) :: S) (ix_w z1 d1)) : ix_G p l e R s m args below meth c Q K nL k n pc L (.int len :: S) (ix_w z d) := by
  subst hp
  subst hz1
  subst hd1
  intro H locs ls hP hz hS hl
  obtain ⟨hx, hb, hml, hown, hts, hO, hN0, hKp⟩ := X
  have hz' : H.size = K.2.2.1 + z.2.2 := hz
  refine va_newaK hx hb (atype := .int) (hts _ (ix_tbm (ix_wm h1) rfl)) rfl hd rfl hn rfl (by show ix_n len * _ ≤ _; simp only [newarray.typeOf, componentBytes]; omega) hc hs hz' fun H1 cA e1 zz o1 hAr hNm => ?_
  have hcA : K.2.1 0 = cA := by
    have h := (hO.1.2 0 _ rfl).2
    exact Option.some.inj (Eq.trans (Eq.symm h) hNm)
  refine kk H1 locs ls (ix_grow hP hz' (fun q hq => o1 q (hz' ▸ hq)) ?_) (zz.trans rfl) (ix_S_grow hS (by rw [hz']; exact zz) (fun q hq => o1 q (hz' ▸ hq))) hl
  rw [ix_ei (t := 20) (n := ix_n len) (by simp [ix_T, ix_w, ix_zn]) (by decide)]
  show H1[K.2.2.1 + z.2.2]? = some (vp_cell (K.2.1 0) (ix_n len, ix_c K (ix_w (ix_zn z 20 (ix_n len)) (ix_dn d z.2.2)) z.2.2 20))
  rw [e1, hcA, ix_c20, vp_cell_i]
  congr 1
  show arrV cA (ix_n len) _ = arrV cA (ix_n len) _
  congr 1
  funext j
  show defaultValue .int = _
  simp [ix_w, ix_dn, defaultValue]
theorem iz_newa_byte (X : ix_X p s m args c K cc own nL) {len : Int32} {pl : Nat} {z1 : ix_Z} {d1 : ix_D2} (h1 : tables_1[pl]? = some (Cond.arrayClass .byte)) (hn : ¬ len < 0) (hB : ix_n len ≤ 60000) (hc : k + 1 ≤ R.cells) (hs : n + ix_n len ≤ R.slots) (hd : decode cc pc = .ok (.newarray .byte, 2)) (hz1 : z1 = ix_zn z 21 (ix_n len)) (hd1 : d1 = ix_dn d z.2.2) {pc1 : Nat} (hp : pc + 2 = pc1)
    (kk : ix_G p l e R s m args below meth c Q K nL (k + 1) (n + ix_n len) pc1 L (.ref (K.2.2.1 + z.2.2) :: S) (ix_w z1 d1)) : ix_G p l e R s m args below meth c Q K nL k n pc L (.int len :: S) (ix_w z d) := by
  subst hp
  subst hz1
  subst hd1
  intro H locs ls hP hz hS hl
  obtain ⟨hx, hb, hml, hown, hts, hO, hN0, hKp⟩ := X
  have hz' : H.size = K.2.2.1 + z.2.2 := hz
  refine va_newaK hx hb (atype := .byte) (hts _ (ix_tbm (ix_wm h1) rfl)) rfl hd rfl hn rfl (by show ix_n len * _ ≤ _; simp only [newarray.typeOf, componentBytes]; omega) hc hs hz' fun H1 cA e1 zz o1 hAr hNm => ?_
  have hcA : K.2.1 1 = cA := by
    have h := (hO.1.2 1 _ rfl).2
    exact Option.some.inj (Eq.trans (Eq.symm h) hNm)
  refine kk H1 locs ls (ix_grow hP hz' (fun q hq => o1 q (hz' ▸ hq)) ?_) (zz.trans rfl) (ix_S_grow hS (by rw [hz']; exact zz) (fun q hq => o1 q (hz' ▸ hq))) hl
  rw [ix_ei (t := 21) (n := ix_n len) (by simp [ix_T, ix_w, ix_zn]) (by decide)]
  show H1[K.2.2.1 + z.2.2]? = some (vp_cell (K.2.1 1) (ix_n len, ix_c K (ix_w (ix_zn z 21 (ix_n len)) (ix_dn d z.2.2)) z.2.2 21))
  rw [e1, hcA, ix_c21, vp_cell_i]
  congr 1
  show arrV cA (ix_n len) _ = arrV cA (ix_n len) _
  congr 1
  funext j
  show defaultValue .byte = _
  simp [ix_w, ix_dn, defaultValue]
theorem iz_newa_boolean (X : ix_X p s m args c K cc own nL) {len : Int32} {pl : Nat} {z1 : ix_Z} {d1 : ix_D2} (h1 : tables_1[pl]? = some (Cond.arrayClass .boolean)) (hn : ¬ len < 0) (hB : ix_n len ≤ 60000) (hc : k + 1 ≤ R.cells) (hs : n + ix_n len ≤ R.slots) (hd : decode cc pc = .ok (.newarray .boolean, 2)) (hz1 : z1 = ix_zn z 22 (ix_n len)) (hd1 : d1 = ix_dn d z.2.2) {pc1 : Nat} (hp : pc + 2 = pc1)
    (kk : ix_G p l e R s m args below meth c Q K nL (k + 1) (n + ix_n len) pc1 L (.ref (K.2.2.1 + z.2.2) :: S) (ix_w z1 d1)) : ix_G p l e R s m args below meth c Q K nL k n pc L (.int len :: S) (ix_w z d) := by
  subst hp
  subst hz1
  subst hd1
  intro H locs ls hP hz hS hl
  obtain ⟨hx, hb, hml, hown, hts, hO, hN0, hKp⟩ := X
  have hz' : H.size = K.2.2.1 + z.2.2 := hz
  refine va_newaK hx hb (atype := .boolean) (hts _ (ix_tbm (ix_wm h1) rfl)) rfl hd rfl hn rfl (by show ix_n len * _ ≤ _; simp only [newarray.typeOf, componentBytes]; omega) hc hs hz' fun H1 cA e1 zz o1 hAr hNm => ?_
  have hcA : K.2.1 2 = cA := by
    have h := (hO.1.2 2 _ rfl).2
    exact Option.some.inj (Eq.trans (Eq.symm h) hNm)
  refine kk H1 locs ls (ix_grow hP hz' (fun q hq => o1 q (hz' ▸ hq)) ?_) (zz.trans rfl) (ix_S_grow hS (by rw [hz']; exact zz) (fun q hq => o1 q (hz' ▸ hq))) hl
  rw [ix_ei (t := 22) (n := ix_n len) (by simp [ix_T, ix_w, ix_zn]) (by decide)]
  show H1[K.2.2.1 + z.2.2]? = some (vp_cell (K.2.1 2) (ix_n len, ix_c K (ix_w (ix_zn z 22 (ix_n len)) (ix_dn d z.2.2)) z.2.2 22))
  rw [e1, hcA, ix_c22, vp_cell_i]
  congr 1
  show arrV cA (ix_n len) _ = arrV cA (ix_n len) _
  congr 1
  funext j
  show defaultValue .boolean = _
  simp [ix_w, ix_dn, defaultValue]
theorem iz_newa_long (X : ix_X p s m args c K cc own nL) {len : Int32} {pl : Nat} {z1 : ix_Z} {d1 : ix_D2} (h1 : tables_1[pl]? = some (Cond.arrayClass .long)) (hn : ¬ len < 0) (hB : ix_n len ≤ 60000) (hc : k + 1 ≤ R.cells) (hs : n + ix_n len ≤ R.slots) (hd : decode cc pc = .ok (.newarray .long, 2)) (hz1 : z1 = ix_zn z 23 (ix_n len)) (hd1 : d1 = ix_dn d z.2.2) {pc1 : Nat} (hp : pc + 2 = pc1)
    (kk : ix_G p l e R s m args below meth c Q K nL (k + 1) (n + ix_n len) pc1 L (.ref (K.2.2.1 + z.2.2) :: S) (ix_w z1 d1)) : ix_G p l e R s m args below meth c Q K nL k n pc L (.int len :: S) (ix_w z d) := by
  subst hp
  subst hz1
  subst hd1
  intro H locs ls hP hz hS hl
  obtain ⟨hx, hb, hml, hown, hts, hO, hN0, hKp⟩ := X
  have hz' : H.size = K.2.2.1 + z.2.2 := hz
  refine va_newaK hx hb (atype := .long) (hts _ (ix_tbm (ix_wm h1) rfl)) rfl hd rfl hn rfl (by show ix_n len * _ ≤ _; simp only [newarray.typeOf, componentBytes]; omega) hc hs hz' fun H1 cA e1 zz o1 hAr hNm => ?_
  have hcA : K.2.1 3 = cA := by
    have h := (hO.1.2 3 _ rfl).2
    exact Option.some.inj (Eq.trans (Eq.symm h) hNm)
  refine kk H1 locs ls (ix_grow hP hz' (fun q hq => o1 q (hz' ▸ hq)) ?_) (zz.trans rfl) (ix_S_grow hS (by rw [hz']; exact zz) (fun q hq => o1 q (hz' ▸ hq))) hl
  rw [ix_ei (t := 23) (n := ix_n len) (by simp [ix_T, ix_w, ix_zn]) (by decide)]
  show H1[K.2.2.1 + z.2.2]? = some (vp_cell (K.2.1 3) (ix_n len, ix_c K (ix_w (ix_zn z 23 (ix_n len)) (ix_dn d z.2.2)) z.2.2 23))
  rw [e1, hcA, ix_c23, vp_cell_l]
  congr 1
  show arrV cA (ix_n len) _ = arrV cA (ix_n len) _
  congr 1
  funext j
  show defaultValue .long = _
  simp [ix_w, ix_dn, defaultValue]
theorem iz_anew (X : ix_X p s m args c K cc own nL) {len : Int32} {pl pq idx : Nat} {z1 : ix_Z} {d1 : ix_D2} (h1 : tables_1[pl]? = some (Cond.classLink own idx RX8)) (h2 : va_AO RX8 s) (hn : ¬ len < 0) (hB : ix_n len ≤ 60000) (hc : k + 1 ≤ R.cells) (hs : n + ix_n len ≤ R.slots) (hd : decode cc pc = .ok (.anewarray idx, 3)) (hz1 : z1 = ix_zn z 24 (ix_n len)) (hd1 : d1 = ix_dn d z.2.2) {pc1 : Nat} (hp : pc + 3 = pc1)
    (kk : ix_G p l e R s m args below meth c Q K nL (k + 1) (n + ix_n len) pc1 L (.ref (K.2.2.1 + z.2.2) :: S) (ix_w z1 d1)) : ix_G p l e R s m args below meth c Q K nL k n pc L (.int len :: S) (ix_w z d) := by
  subst hp
  subst hz1
  subst hd1
  intro H locs ls hP hz hS hl
  obtain ⟨hx, hb, hml, hown, hts, hO, hN0, hKp⟩ := X
  have hz' : H.size = K.2.2.1 + z.2.2 := hz
  refine W.anew hx hb hown (hts _ (ix_tbm (ix_wm h1) rfl)) (va_AO.use h2) rfl hd rfl hn (by show ix_n len * 4 ≤ _; omega) hc hs fun cA kA comp f1 f2 f3 f4 => ?_
  have hcA : K.2.1 4 = cA := by
    obtain ⟨-, -, -, -, -, h⟩ := (hO.1.2 4 _ rfl).2
    exact Option.some.inj (Eq.trans (Eq.symm h) f1)
  have e1 : (H.push ({ cls := cA, slots := Array.replicate len.toNatClampNeg .null, vm := .none } : Cell))[K.2.2.1 + z.2.2]? = some (arrV cA (ix_n len) (fun _ => .null)) := by
    rw [← hz', Array.getElem?_push_size]
    congr 1
    exact (arrV_new cA _ _)
  have zz : (H.push ({ cls := cA, slots := Array.replicate len.toNatClampNeg .null, vm := .none } : Cell)).size = H.size + 1 := by simp
  have o1 : ∀ q, q < H.size → (H.push ({ cls := cA, slots := Array.replicate len.toNatClampNeg .null, vm := .none } : Cell))[q]? = H[q]? := fun q hq => by
    rw [Array.getElem?_push, if_neg (by omega)]
  rw [hz']
  refine kk _ locs ls (ix_grow hP hz' o1 ?_) (zz.trans (by rw [hz']; rfl)) (ix_S_grow hS zz o1) hl
  rw [ix_ei (t := 24) (n := ix_n len) (by simp [ix_T, ix_w, ix_zn]) (by decide)]
  show _ = some (vp_cell (K.2.1 4) (ix_n len, ix_c K (ix_w (ix_zn z 24 (ix_n len)) (ix_dn d z.2.2)) z.2.2 24))
  rw [e1, hcA, ix_c24, vp_cell_q]
  congr 1
  show arrV cA (ix_n len) _ = arrV cA (ix_n len) _
  congr 1
  funext j
  simp [ix_w, ix_zn, va_rf]
theorem ix_wR {a kf : Nat} {v : Option Nat} {z1 : ix_Z} (h : z1 = ix_zr z a kf v) : ix_sR (ix_w z d) a kf v = ix_w z1 d := by
  subst h
  rfl
theorem iz_putR (X : ix_X p s m args c K cc own nL) {pl ps : Nat} {nest fin : Bool} {a idx kf b : Nat} {ref ds : String} {cs : List Nat} {z1 : ix_Z} (hf : ix_fpb pl ps nest own idx ref cs kf ds fin = true) (hfi : fin = true → nest = false ∧ meth.name = "<init>") (hc : ix_ok z cs a) {ty : FieldType} (hty : parseFieldDescriptor ds = some ty) (hft : ix_ft ds = 2) (hrt : (∃ n, ty = .object n) ∨ ∃ t, ty = .array t) (hd : decode cc pc = .ok (.putfield idx, 3)) (hw : z1 = ix_zr z a kf (some b)) {pc1 : Nat} (hp : pc + 3 = pc1)
    (kk : ix_G p l e R s m args below meth c Q K nL k n pc1 L S (ix_w z1 d)) : ix_G p l e R s m args below meth c Q K nL k n pc L (.ref (K.2.2.1 + b) :: .ref (K.2.2.1 + a) :: S) (ix_w z d) :=
  ix_putR X hf hfi hc hd hty hft (by rcases hrt with ⟨_, rfl⟩ | ⟨_, rfl⟩ <;> rfl) (by rcases hrt with ⟨_, rfl⟩ | ⟨_, rfl⟩ <;> rfl) (ix_wR hw) hp kk
theorem iz_putIF (X : ix_X p s m args c K cc own nL) {pl ps : Nat} {a idx kf : Nat} {ref : String} {cs : List Nat} {x : Int32} {d1 : ix_D2} (hf : ix_fpb pl ps false own idx ref cs kf "I" true = true) (hin : meth.name = "<init>") (hc : ix_ok z cs a) (hd : decode cc pc = .ok (.putfield idx, 3)) (hw : d1 = ix_di d a kf x) {pc1 : Nat} (hp : pc + 3 = pc1) (kk : ix_G p l e R s m args below meth c Q K nL k n pc1 L S (ix_w z d1)) : ix_G p l e R s m args below meth c Q K nL k n pc L (.int x :: .ref (K.2.2.1 + a) :: S) (ix_w z d) := ix_putI X hf (fun _ => ⟨rfl, hin⟩) hc hd (ix_wI hw) hp kk
theorem iz_putZF (X : ix_X p s m args c K cc own nL) {pl ps : Nat} {a idx kf : Nat} {ref : String} {cs : List Nat} {x : Int32} {d1 : ix_D2} (hf : ix_fpb pl ps false own idx ref cs kf "Z" true = true) (hin : meth.name = "<init>") (hc : ix_ok z cs a) (hd : decode cc pc = .ok (.putfield idx, 3)) (hz : x = 0 ∨ x = 1) (hw : d1 = ix_di d a kf x) {pc1 : Nat} (hp : pc + 3 = pc1) (kk : ix_G p l e R s m args below meth c Q K nL k n pc1 L S (ix_w z d1)) : ix_G p l e R s m args below meth c Q K nL k n pc L (.int x :: .ref (K.2.2.1 + a) :: S) (ix_w z d) := ix_putZ X hf (fun _ => ⟨rfl, hin⟩) hc hd hz (ix_wI hw) hp kk
end IXA

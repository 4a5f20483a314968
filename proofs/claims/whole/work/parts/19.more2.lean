def ix_dc (d : ix_D2) (a N : Nat) : ix_D2 := (fun b k => if b = N then d.1 a k else d.1 b k, fun b k => if b = N then 0 else d.2 b k)
section IXN
variable {p : Program} {l : Launch} {e : Env} {R : Room} {s : State} {m : MethodId} {args : Array Value} {below : List Frame} {meth : Method} {c : Code} {Q : State → Prop} {K : ix_Cx} {nL k n : Nat} {cc : ByteArray} {own : String} {pc : Nat} {L : List (Nat × Value)} {S : List Value} {z : ix_Z} {d : ix_D2} {w : ix_W}
/-- invokespecial of a nest mate's private constructor -/
theorem ix_callIN (X : ix_X p s m args c K cc own nL) {y : MethodName} {cc2 : ByteArray} {maxL idx N pl b : Nat} {fr lo mc ms : Nat} {rv : Option Value} {w1 : ix_W} {As rest : List Value} (hm : ix_mf y cc2 maxL none N) (hi : Cond.instanceMethod y ∈ lw_tbl) (hy : y.name = "<init>") (hl : tables_1[pl]? = some (Cond.methodLinkNest own idx y "ClauseCourt")) (hR : fr + 1 ≤ R.frames ∧ 8 + (maxL + 11) + lo ≤ R.locals) (hf : k + mc ≤ R.cells ∧ n + ms ≤ R.slots) (hN : As.length = N) (hrm : (rest.map fun v => v.category).sum ≤ 8) (hd : decode cc pc = .ok (.invokespecial idx, 3)) (hM : ix_M l K y cc2 maxL none fr lo mc ms (.ref (K.2.2.1 + b) :: As) w rv w1)
    (hS : As.reverse ++ .ref (K.2.2.1 + b) :: rest = S) {pc1 : Nat} (hp : pc + 3 = pc1) (kk : ix_G p l e R s m args below meth c Q K nL (k + mc) (n + ms) pc1 L (rv.toList ++ rest) w1) : ix_G p l e R s m args below meth c Q K nL k n pc L S w := by
  subst hS
  refine ix_call0 (a := (Value.ref (K.2.2.1 + b) :: As).toArray) (fun H locs ls hP hz hS hls => ?_) hp kk
  have hxd := hm.2.2.2.1
  exact va_runIN ⟨X.1, X.2.1, X.2.2.1, X.2.2.2.1, X.2.2.2.2.1⟩ hM ⟨⟨⟨rfl, rfl, hR.1, hR.2, ix_words X hm.1, List.mem_cons_self⟩, X.2.2.2.2.1 _ (ix_tbm hm.1 rfl), X.2.2.2.2.1 _ (ix_tbm hm.2.1 rfl), hm.2.2.1, (fun sig h => by rw [h] at hxd; exact (Option.some.inj hxd).symm), va_Nw.use rfl (X.2.2.2.2.2.1.2.1 _ (ix_ntm (ix_wm hl) rfl))⟩, hy, X.2.2.2.2.1 _ (ix_tbm hi rfl)⟩ ⟨ix_blind X.2.2.2.2.2.2.2, ix_pre X hP hz hS _⟩ rfl hN hls rfl (lv_room hrm) hd hf
theorem ix_asgn (X : ix_X p s m args c K cc own nL) {ci nf : Nat} {C : String} {T : u_T} (hcl : ix_cl[ci]? = some (C, T, nf)) (h : Cond.castable C RX8 ∈ lw_tbl) : ∀ comp c0 : ClassId, s.vm.findClass RX8 = some comp → s.vm.findClass C = some c0 → s.vm.assignable c0 comp = true := by
  intro comp c0 h1 h2
  have h3 : (Cond.castable C RX8).before #[] s = true := X.2.2.2.2.2.1.2.1 _ (ix_ntm h rfl)
  simpa [Cond.before, Cond.holds, Cond.value, h1, h2] using h3
theorem ix_rset {a j : Nat} {v : Option Nat} (ha : a < z.2.2) (ht : (z.2.1 a).1 = 24) : (ix_ws K (ix_w z d)).set a (K.2.2.1 + a, .inl (K.2.1 4, ((z.2.1 a).2, .inr (.inr (.inr (.inr (fun i => if i = j then v.map (fun a => K.2.2.1 + a) else (z.1 a i).map (fun a => K.2.2.1 + a)))))))) = ix_ws K (ix_w (ix_zr z a j v) d) := by
  rw [← ix_set (w := ix_w z d) (w' := ix_w (ix_zr z a j v) d) ha rfl (fun b hb => ix_e_congr rfl rfl (ix_up_ne hb) rfl), ix_ei (w := ix_w (ix_zr z a j v) d) (t := 24) (n := (z.2.1 a).2) (by rw [← ht]; rfl) (by decide), ix_c24]
  have hf : (fun i => if i = j then v.map (fun a => K.2.2.1 + a) else (z.1 a i).map (fun a => K.2.2.1 + a)) = (fun i => ((ix_w (ix_zr z a j v) d).2.2.1 a i).map (fun a => K.2.2.1 + a)) := by
    funext i
    by_cases h : i = j
    · subst h
      simp [ix_w, ix_zr, ix_up]
    · simp [ix_w, ix_zr, ix_up, h]
  rw [hf]
theorem iz_aast0 (X : ix_X p s m args c K cc own nL) {a b ci nf : Nat} {C : String} {T : u_T} {i : Int32} {z1 : ix_Z} (hcl : ix_cl[ci]? = some (C, T, nf)) (hci : ci < 20) (hcs : Cond.castable C RX8 ∈ lw_tbl) (hi : ix_ix z 24 a i) (hb : b < z.2.2 ∧ (z.2.1 b).1 = ci) (hd : decode cc pc = .ok (.aastore, 1)) (hw : z1 = ix_zr z a (ix_n i) (some b)) {pc1 : Nat} (hp : pc + 1 = pc1) (kk : ix_G p l e R s m args below meth c Q K nL k n pc1 L S (ix_w z1 d)) : ix_G p l e R s m args below meth c Q K nL k n pc L (.ref (K.2.2.1 + b) :: .int i :: .ref (K.2.2.1 + a) :: S) (ix_w z d) := by
  subst hp
  subst hw
  intro H locs ls hP hz hS hl
  have hA := ix_aR (K := K) (w := ix_w z d) hi.1 hi.2.1 (by decide)
  have he : (ix_ws K (ix_w z d))[b]? = some (K.2.2.1 + b, .inr (ci, (List.range nf).map (fun k => ix_fv K (ix_w z d) b (T k).2.2.1 k))) := by rw [ix_at (w := ix_w z d) hb.1, ix_eo (w := ix_w z d) hb.2 hci hcl]
  obtain ⟨cellV, g1, g3, ⟨kC, hkC⟩, hasg⟩ := va_rAny (E := RX8) X.2.2.2.2.2.1.1 hP he hcl (ix_asgn X hcl hcs)
  obtain ⟨kA, comp, k1, k2, k3, -⟩ := (X.2.2.2.2.2.1.1.2 4 _ rfl).2
  obtain ⟨kE, hkE, -⟩ := Vm.findClass_spec k3
  have hlt : i.toNatClampNeg < (z.2.1 a).2 := Nat.not_le.mp fun q => hi.2.2 (Or.inr q)
  refine W.aast X.1 X.2.1 (hP a _ hA) (fun q h => by cases h) (fun h => by cases h) k1 k2 rfl hkE ⟨fun q => hi.2.2 (Or.inl q), by show _ < (arrV _ _ _).slots.size; rw [arrV_size]; exact hlt⟩ g1 (fun q h => by rw [h] at g3; cases g3) hkC (hasg _ k3) rfl rfl hd fun H1 e1 zz oq => ?_
  refine kk H1 _ ls ?_ (zz.trans hz) (hS.put zz oq (Nat.le_add_right _ _)) hl
  rw [← ix_rset (d := d) hi.1 hi.2.1]
  refine hP.set ix_D hA ?_ oq
  show H1[K.2.2.1 + a]? = some (vp_cell _ _)
  rw [e1, vp_cell_q, vp_cell_q, arrV_store]
  congr 2
  funext q
  by_cases hq : q = i.toNatClampNeg
  · subst hq
    simp [updV, ix_n, va_rf]
  · simp [updV, ix_n, hq, ix_w]
theorem iz_aast (X : ix_X p s m args c K cc own nL) {a b : Nat} {i : Int32} {z1 : ix_Z} (hi : ix_ix z 24 a i) (hb : ix_ok z [0, 3, 5, 6, 9] b) (hd : decode cc pc = .ok (.aastore, 1)) (hw : z1 = ix_zr z a (ix_n i) (some b)) {pc1 : Nat} (hp : pc + 1 = pc1) (kk : ix_G p l e R s m args below meth c Q K nL k n pc1 L S (ix_w z1 d)) : ix_G p l e R s m args below meth c Q K nL k n pc L (.ref (K.2.2.1 + b) :: .int i :: .ref (K.2.2.1 + a) :: S) (ix_w z d) := by
  have h2 := hb.2
  simp only [List.mem_cons, List.not_mem_nil, or_false] at h2
  rcases h2 with h2 | h2 | h2 | h2 | h2
  · exact iz_aast0 (ci := 0) (C := RX0) (T := TX0) (nf := 4) X rfl (by decide) (ix_wm (i := 2484) (by decide +kernel)) hi ⟨hb.1, h2⟩ hd hw hp kk
  · exact iz_aast0 (ci := 3) (C := RX3) (T := TX3) (nf := 3) X rfl (by decide) (ix_wm (i := 2485) (by decide +kernel)) hi ⟨hb.1, h2⟩ hd hw hp kk
  · exact iz_aast0 (ci := 5) (C := RX5) (T := TX5) (nf := 4) X rfl (by decide) (ix_wm (i := 2486) (by decide +kernel)) hi ⟨hb.1, h2⟩ hd hw hp kk
  · exact iz_aast0 (ci := 6) (C := RX6) (T := TX6) (nf := 4) X rfl (by decide) (ix_wm (i := 2487) (by decide +kernel)) hi ⟨hb.1, h2⟩ hd hw hp kk
  · exact iz_aast0 (ci := 9) (C := RX10) (T := TX10) (nf := 6) X rfl (by decide) (ix_wm (i := 2488) (by decide +kernel)) hi ⟨hb.1, h2⟩ hd hw hp kk
theorem ix_ws_al2 {t len : Nat} {d1 : ix_D2} (h1 : ∀ a, a < z.2.2 → d1.1 a = d.1 a) (h2 : ∀ a, a < z.2.2 → d1.2 a = d.2 a) : ix_ws K (ix_w (ix_zn z t len) d1) = ix_ws K (ix_w z d) ++ [(K.2.2.1 + z.2.2, ix_e K (ix_w (ix_zn z t len) d1) z.2.2)] := by
  unfold ix_ws
  rw [show ix_N (ix_w (ix_zn z t len) d1) = z.2.2 + 1 from rfl, show ix_N (ix_w z d) = z.2.2 from rfl, List.range_succ, List.map_append]
  congr 1
  apply List.map_congr_left
  intro a ha
  have hlt := List.mem_range.mp ha
  have hne : a ≠ z.2.2 := Nat.ne_of_lt hlt
  rw [ix_e_congr (w := ix_w z d) (w' := ix_w (ix_zn z t len) d1) (h1 a hlt) (h2 a hlt) (by funext k'; simp [ix_w, ix_zn, hne]) (by simp [ix_T, ix_w, ix_zn, hne])]
theorem iz_clone_int (X : ix_X p s m args c K cc RJ7 nL) (hsz : s.heap.size + k = K.2.2.1 + z.2.2) {a : Nat} {z1 : ix_Z} {d1 : ix_D2} (ha : a < z.2.2 ∧ (z.2.1 a).1 = 20 ∧ (z.2.1 a).2 ≤ 64) (hfr : 1 ≤ R.frames) (hlo : (S.map fun v => v.category).sum + 14 ≤ R.locals) (hc : k + 1 ≤ R.cells) (hs : n + (z.2.1 a).2 ≤ R.slots) (hd : decode cc pc = .ok (.invokevirtual 316, 3)) (hz1 : z1 = ix_zn z 20 (z.2.1 a).2) (hd1 : d1 = ix_dc d a z.2.2) {pc1 : Nat} (hp : pc + 3 = pc1)
    (kk : ix_G p l e R s m args below meth c Q K nL (k + 1) (n + (z.2.1 a).2) pc1 L (.ref (K.2.2.1 + z.2.2) :: S) (ix_w z1 d1)) : ix_G p l e R s m args below meth c Q K nL k n pc L (.ref (K.2.2.1 + a) :: S) (ix_w z d) := by
  subst hp
  subst hz1
  subst hd1
  intro H locs ls hP hz hS hl
  have hts := X.2.2.2.2.1
  have hO := X.2.2.2.2.2.1
  have hA := ix_aI (K := K) (w := ix_w z d) ha.1 ha.2.1 (by decide) (by decide)
  have hz' : H.size = K.2.2.1 + z.2.2 := hz
  refine va_clone (ad := "[I") X.1 X.2.1 (X.2.2.1.trans hl.1.symm) X.2.2.2.1 (hts _ (ix_tbm (ix_wm (i := 491) (by decide +kernel)) rfl)) (hts _ (ix_tbm (ix_wm (i := 492) (by decide +kernel)) rfl)) (hts _ (ix_tbm (ix_wm (i := 493) (by decide +kernel)) rfl)) (hts _ (ix_tbm (ix_wm (i := 494) (by decide +kernel)) rfl)) (hts _ (ix_tbm (ix_wm (i := 495) (by decide +kernel)) rfl)) (hO.2.1 _ (ix_ntm (ix_wm (i := 496) (by decide +kernel)) rfl)) hO.1 hP ix_D hS (fun q hq => Nat.le_trans X.2.2.2.2.2.2.1 hq) a 0 hA rfl (hO.1.2 0 _ rfl).2 (fun i v hv => ?_) hfr hlo hc hs hd (fun q H1 hK1 hP1 hD1 hS1 => ?_)
  · by_cases hi : i < (z.2.1 a).2
    · have hv : some (Value.int (d.1 a i)) = some v := (arrV_read (K.2.1 0) (fun j => .int (d.1 a j)) hi).symm.trans hv
      exact (by cases hv; rfl)
    · have hn : (arrV (K.2.1 0) (z.2.1 a).2 (fun j => .int (d.1 a j))).slots[i]? = none := by
        rw [Array.getElem?_eq_none]
        rw [arrV_size]
        omega
      have hv : (none : Option Value) = some v := hn.symm.trans hv
      cases hv
  · intro T hT X2
    have e1 : H1.size ≤ s.heap.size + (k + 1) := by rw [← hT]; exact X2.heapSize
    have hlen : (ix_ws K (ix_w z d)).length = z.2.2 := ix_len
    have hlast : (ix_ws K (ix_w z d) ++ [(q, Sum.inl (K.2.1 0, ((z.2.1 a).2, Sum.inl (d.1 a))))])[z.2.2]? = some (q, Sum.inl (K.2.1 0, ((z.2.1 a).2, Sum.inl (d.1 a)))) := by
      rw [List.getElem?_append_right (by rw [hlen]; exact Nat.le_refl _), hlen, Nat.sub_self]
      rfl
    have hq1 : q < H1.size := (hP1 z.2.2 _ hlast).lt
    have hq2 : K.2.2.1 ≤ q := hD1.2 z.2.2 _ hlast
    have hq3 : ∀ i, i < z.2.2 → K.2.2.1 + i ≠ q := by
      intro i hi he
      have h3 : (ix_ws K (ix_w z d) ++ [(q, Sum.inl (K.2.1 0, ((z.2.1 a).2, Sum.inl (d.1 a))))])[i]? = some (K.2.2.1 + i, ix_e K (ix_w z d) i) := by
        rw [List.getElem?_append_left (by rw [hlen]; exact hi)]
        exact ix_at hi
      have h4 := hD1.1 i z.2.2 _ _ h3 hlast he
      omega
    have hq4 : q = K.2.2.1 + z.2.2 := by
      have h5 : q < K.2.2.1 + z.2.2 + 1 := by omega
      rcases Nat.lt_or_ge q (K.2.2.1 + z.2.2) with h6 | h6
      · exact absurd (show K.2.2.1 + (q - K.2.2.1) = q by omega) (hq3 (q - K.2.2.1) (by omega))
      · omega
    subst hq4
    have hws : ix_ws K (ix_w (ix_zn z 20 (z.2.1 a).2) (ix_dc d a z.2.2)) = ix_ws K (ix_w z d) ++ [(K.2.2.1 + z.2.2, Sum.inl (K.2.1 0, ((z.2.1 a).2, Sum.inl (d.1 a))))] := by
      rw [ix_ws_al2 (d := d) (fun b hb => by funext k'; simp [ix_dc, Nat.ne_of_lt hb]) (fun b hb => by funext k'; simp [ix_dc, Nat.ne_of_lt hb]), ix_ei (t := 20) (n := (z.2.1 a).2) (by simp [ix_T, ix_w, ix_zn]) (by decide), ix_c20]
      have hf : (ix_w (ix_zn z 20 (z.2.1 a).2) (ix_dc d a z.2.2)).1 z.2.2 = d.1 a := by
        funext k'
        simp [ix_w, ix_dc]
      rw [hf]
    have hP1 : va_P K.1 ix_cl (ix_ws K (ix_w z d) ++ [(K.2.2.1 + z.2.2, Sum.inl (K.2.1 0, ((z.2.1 a).2, Sum.inl (d.1 a))))]) H1 := hP1
    rw [← hws] at hP1
    have e2 : K.2.2.1 + (z.2.2 + 1) ≤ H1.size := ix_ge hP1 (Nat.succ_pos _)
    exact kk H1 locs ls hP1 (Nat.le_antisymm (show H1.size ≤ K.2.2.1 + (z.2.2 + 1) by omega) e2) hS1 hl T hT X2
theorem iz_castA_int (X : ix_X p s m args c K cc own nL) {a idx pl : Nat} (h1 : tables_1[pl]? = some (Cond.classLink own idx "[I")) (ha : a < z.2.2 ∧ (z.2.1 a).1 = 20) (hd : decode cc pc = .ok (.checkcast idx, 3)) {pc1 : Nat} (hp : pc + 3 = pc1) (kk : ix_G p l e R s m args below meth c Q K nL k n pc1 L (.ref (K.2.2.1 + a) :: S) (ix_w z d)) : ix_G p l e R s m args below meth c Q K nL k n pc L (.ref (K.2.2.1 + a) :: S) (ix_w z d) := by
  subst hp
  intro H locs ls hP hz hS hl
  exact va_castA X.1 X.2.1 X.2.2.2.1 (X.2.2.2.2.1 _ (ix_tbm (ix_wm h1) rfl)) hP a (ix_aI (K := K) (w := ix_w z d) ha.1 ha.2 (by decide) (by decide)) (X.2.2.2.2.2.1.1.2 0 _ rfl).2 hd (kk H locs ls hP hz hS hl)
theorem iz_clone_byte (X : ix_X p s m args c K cc RJ7 nL) (hsz : s.heap.size + k = K.2.2.1 + z.2.2) {a : Nat} {z1 : ix_Z} {d1 : ix_D2} (ha : a < z.2.2 ∧ (z.2.1 a).1 = 21 ∧ (z.2.1 a).2 ≤ 64) (hft : ∀ i, i < (z.2.1 a).2 → fits .byte (.int (d.1 a i)) = true) (hfr : 1 ≤ R.frames) (hlo : (S.map fun v => v.category).sum + 14 ≤ R.locals) (hc : k + 1 ≤ R.cells) (hs : n + (z.2.1 a).2 ≤ R.slots) (hd : decode cc pc = .ok (.invokevirtual 310, 3)) (hz1 : z1 = ix_zn z 21 (z.2.1 a).2) (hd1 : d1 = ix_dc d a z.2.2) {pc1 : Nat} (hp : pc + 3 = pc1)
    (kk : ix_G p l e R s m args below meth c Q K nL (k + 1) (n + (z.2.1 a).2) pc1 L (.ref (K.2.2.1 + z.2.2) :: S) (ix_w z1 d1)) : ix_G p l e R s m args below meth c Q K nL k n pc L (.ref (K.2.2.1 + a) :: S) (ix_w z d) := by
  subst hp
  subst hz1
  subst hd1
  intro H locs ls hP hz hS hl
  have hts := X.2.2.2.2.1
  have hO := X.2.2.2.2.2.1
  have hA := ix_aI (K := K) (w := ix_w z d) ha.1 ha.2.1 (by decide) (by decide)
  have hz' : H.size = K.2.2.1 + z.2.2 := hz
  refine va_clone (ad := "[B") X.1 X.2.1 (X.2.2.1.trans hl.1.symm) X.2.2.2.1 (hts _ (ix_tbm (ix_wm (i := 819) (by decide +kernel)) rfl)) (hts _ (ix_tbm (ix_wm (i := 820) (by decide +kernel)) rfl)) (hts _ (ix_tbm (ix_wm (i := 493) (by decide +kernel)) rfl)) (hts _ (ix_tbm (ix_wm (i := 494) (by decide +kernel)) rfl)) (hts _ (ix_tbm (ix_wm (i := 821) (by decide +kernel)) rfl)) (hO.2.1 _ (ix_ntm (ix_wm (i := 822) (by decide +kernel)) rfl)) hO.1 hP ix_D hS (fun q hq => Nat.le_trans X.2.2.2.2.2.2.1 hq) a 1 hA rfl (hO.1.2 1 _ rfl).2 (fun i v hv => ?_) hfr hlo hc hs hd (fun q H1 hK1 hP1 hD1 hS1 => ?_)
  · by_cases hi : i < (z.2.1 a).2
    · have hv : some (Value.int (d.1 a i)) = some v := (arrV_read (K.2.1 1) (fun j => .int (d.1 a j)) hi).symm.trans hv
      exact (by cases hv; exact hft i hi)
    · have hn : (arrV (K.2.1 1) (z.2.1 a).2 (fun j => .int (d.1 a j))).slots[i]? = none := by
        rw [Array.getElem?_eq_none]
        rw [arrV_size]
        omega
      have hv : (none : Option Value) = some v := hn.symm.trans hv
      cases hv
  · intro T hT X2
    have e1 : H1.size ≤ s.heap.size + (k + 1) := by rw [← hT]; exact X2.heapSize
    have hlen : (ix_ws K (ix_w z d)).length = z.2.2 := ix_len
    have hlast : (ix_ws K (ix_w z d) ++ [(q, Sum.inl (K.2.1 1, ((z.2.1 a).2, Sum.inl (d.1 a))))])[z.2.2]? = some (q, Sum.inl (K.2.1 1, ((z.2.1 a).2, Sum.inl (d.1 a)))) := by
      rw [List.getElem?_append_right (by rw [hlen]; exact Nat.le_refl _), hlen, Nat.sub_self]
      rfl
    have hq1 : q < H1.size := (hP1 z.2.2 _ hlast).lt
    have hq2 : K.2.2.1 ≤ q := hD1.2 z.2.2 _ hlast
    have hq3 : ∀ i, i < z.2.2 → K.2.2.1 + i ≠ q := by
      intro i hi he
      have h3 : (ix_ws K (ix_w z d) ++ [(q, Sum.inl (K.2.1 1, ((z.2.1 a).2, Sum.inl (d.1 a))))])[i]? = some (K.2.2.1 + i, ix_e K (ix_w z d) i) := by
        rw [List.getElem?_append_left (by rw [hlen]; exact hi)]
        exact ix_at hi
      have h4 := hD1.1 i z.2.2 _ _ h3 hlast he
      omega
    have hq4 : q = K.2.2.1 + z.2.2 := by
      have h5 : q < K.2.2.1 + z.2.2 + 1 := by omega
      rcases Nat.lt_or_ge q (K.2.2.1 + z.2.2) with h6 | h6
      · exact absurd (show K.2.2.1 + (q - K.2.2.1) = q by omega) (hq3 (q - K.2.2.1) (by omega))
      · omega
    subst hq4
    have hws : ix_ws K (ix_w (ix_zn z 21 (z.2.1 a).2) (ix_dc d a z.2.2)) = ix_ws K (ix_w z d) ++ [(K.2.2.1 + z.2.2, Sum.inl (K.2.1 1, ((z.2.1 a).2, Sum.inl (d.1 a))))] := by
      rw [ix_ws_al2 (d := d) (fun b hb => by funext k'; simp [ix_dc, Nat.ne_of_lt hb]) (fun b hb => by funext k'; simp [ix_dc, Nat.ne_of_lt hb]), ix_ei (t := 21) (n := (z.2.1 a).2) (by simp [ix_T, ix_w, ix_zn]) (by decide), ix_c21]
      have hf : (ix_w (ix_zn z 21 (z.2.1 a).2) (ix_dc d a z.2.2)).1 z.2.2 = d.1 a := by
        funext k'
        simp [ix_w, ix_dc]
      rw [hf]
    have hP1 : va_P K.1 ix_cl (ix_ws K (ix_w z d) ++ [(K.2.2.1 + z.2.2, Sum.inl (K.2.1 1, ((z.2.1 a).2, Sum.inl (d.1 a))))]) H1 := hP1
    rw [← hws] at hP1
    have e2 : K.2.2.1 + (z.2.2 + 1) ≤ H1.size := ix_ge hP1 (Nat.succ_pos _)
    exact kk H1 locs ls hP1 (Nat.le_antisymm (show H1.size ≤ K.2.2.1 + (z.2.2 + 1) by omega) e2) hS1 hl T hT X2
theorem iz_castA_byte (X : ix_X p s m args c K cc own nL) {a idx pl : Nat} (h1 : tables_1[pl]? = some (Cond.classLink own idx "[B")) (ha : a < z.2.2 ∧ (z.2.1 a).1 = 21) (hd : decode cc pc = .ok (.checkcast idx, 3)) {pc1 : Nat} (hp : pc + 3 = pc1) (kk : ix_G p l e R s m args below meth c Q K nL k n pc1 L (.ref (K.2.2.1 + a) :: S) (ix_w z d)) : ix_G p l e R s m args below meth c Q K nL k n pc L (.ref (K.2.2.1 + a) :: S) (ix_w z d) := by
  subst hp
  intro H locs ls hP hz hS hl
  exact va_castA X.1 X.2.1 X.2.2.2.1 (X.2.2.2.2.1 _ (ix_tbm (ix_wm h1) rfl)) hP a (ix_aI (K := K) (w := ix_w z d) ha.1 ha.2 (by decide) (by decide)) (X.2.2.2.2.2.1.1.2 1 _ rfl).2 hd (kk H locs ls hP hz hS hl)
end IXN

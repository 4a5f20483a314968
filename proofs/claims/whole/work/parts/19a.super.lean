/-! super.method(..) that the class just above has from the one above it -/
section IXU
variable {p : Program} {l : Launch} {e : Env} {R : Room} {s : State} {m : MethodId} {args : Array Value} {below : List Frame} {meth : Method} {c : Code} {Q : State → Prop} {K : ix_Cx} {nL k n : Nat} {cc : ByteArray} {own : String} {pc : Nat} {L : List (Nat × Value)} {S : List Value} {w : ix_W}
theorem ix_callSU2 (X : ix_X p s m args c K cc own nL) {x y : MethodName} {C : String} {cc2 : ByteArray} {maxL idx N pl b ci : Nat} {ret : Option FieldType} {fr lo mc ms : Nat} {rv : Option Value} {w1 : ix_W} {As rest : List Value} {T : u_T} {nf : Nat} (hm : ix_mf y cc2 maxL ret N) (hi : Cond.instanceMethod y ∈ lw_tbl) (hxy : y = ⟨y.cls, x.name, x.desc⟩) (hsm : Cond.sameMethod x.cls y.cls x.name x.desc ∈ lw_tbl) (hsu : Cond.superclass own x.cls ∈ lw_tbl) (hsu2 : Cond.superclass x.cls y.cls ∈ lw_tbl) (hy : x.name ≠ "<init>")
    (hcl : ix_cl[ci]? = some (C, T, nf)) (hci : ci < 20) (hl : tables_1[pl]? = some (Cond.methodLink own idx x)) (hR : fr + 1 ≤ R.frames ∧ 8 + (maxL + 11) + lo ≤ R.locals) (hf : k + mc ≤ R.cells ∧ n + ms ≤ R.slots) (hN : As.length = N) (hrm : (rest.map fun v => v.category).sum ≤ 8) (hd : decode cc pc = .ok (.invokespecial idx, 3)) (hb : b < ix_N w ∧ (ix_T w b).1 = ci) (hM : ix_M l K y cc2 maxL ret fr lo mc ms (.ref (K.2.2.1 + b) :: As) w rv w1)
    (hS : As.reverse ++ .ref (K.2.2.1 + b) :: rest = S) {pc1 : Nat} (hp : pc + 3 = pc1) (kk : ix_G p l e R s m args below meth c Q K nL (k + mc) (n + ms) pc1 L (rv.toList ++ rest) w1) : ix_G p l e R s m args below meth c Q K nL k n pc L S w := by
  subst hS
  refine ix_call0 (a := (Value.ref (K.2.2.1 + b) :: As).toArray) (fun H locs ls hP hz hS hls => ?_) hp kk
  have he : (ix_ws K w)[b]? = some (K.2.2.1 + b, .inr (ci, (List.range nf).map (fun k => ix_fv K w b (T k).2.2.1 k))) := by rw [ix_at hb.1, ix_eo hb.2 hci hcl]
  have hts := X.2.2.2.2.1
  have hxd := hm.2.2.2.1
  obtain ⟨cellB, hcB, hoB, hclB⟩ := va_recv X.2.2.2.2.2.1.1 hP hcl he
  obtain ⟨kB, hkB, -⟩ := Vm.findClass_spec hclB
  intro T0 hT X0
  have hK : Back l R p e below s args y 3 8 (PreOf R mc ms (ix_Pre K (.ref (K.2.2.1 + b) :: As) w)) (PostOf (ix_Post K rv w1) mc ms (ix_A K)) := back_of (bytes := cc2) (maxL := maxL) (ret := ret) hM (ix_blind X.2.2.2.2.2.2.2) rfl rfl hR.1 hR.2 (ix_words X hm.1) List.mem_cons_self (fun a' U hW => word_at hW (Or.inl rfl) (hts _ (ix_tbm hm.2.1 rfl)))
  obtain ⟨mk, methM, hnamed, hmethM, hstM, habM⟩ := Cond.instanceMethod_spec (hts _ (ix_tbm hi rfl))
  obtain ⟨methM', cM, hmethM', -, -, -, -, -, -, hsigM⟩ := Cond.code_spec hnamed (hts _ (ix_tbm hm.1 rfl))
  cases hmethM.symm.trans hmethM'
  obtain ⟨ps, dk, kp, hps, hdk, hkp, hsuper, -, -, hnid⟩ := Cond.superclass_spec X.2.2.2.1 (hts _ (ix_tbm hsu rfl))
  obtain ⟨ps2, dk2, kp2, hps2, hdk2, hkp2, hsuper2, -, -, -⟩ := Cond.superclass_spec hps (hts _ (ix_tbm hsu2 rfl))
  have hpm : ps2 = mk.cls := Option.some.inj (hps2.symm.trans (findClass_of_methodNamed hnamed))
  have hsub : s.vm.isSubclass ps mk.cls = true := by
    have hlt : ps < Array.size s.vm.classes := (Array.getElem?_eq_some_iff.mp hdk2).1
    obtain ⟨q, hq⟩ : ∃ q, Array.size s.vm.classes = q + 1 := ⟨Array.size s.vm.classes - 1, (Nat.succ_pred_eq_of_pos (Nat.lt_of_le_of_lt (Nat.zero_le _) hlt)).symm⟩
    rw [Vm.isSubclass, hq]
    simp [Vm.isSubclassAux, hdk2, hsuper2, hpm]
  have hn : s.methodNamed? ⟨y.cls, x.name, x.desc⟩ = some mk := by rw [← hxy]; exact hnamed
  have hlen : As.length = methM.sig.parameters.length := by
    rw [hsigM] at hxd
    exact hN.trans (Option.some.inj hxd).symm
  obtain ⟨vm₁, X₁, hstep₁⟩ := X0.invokespecialUp X.1 X.2.2.2.1 (hts _ (ix_tbm (ix_wm hl) rfl)) (hts _ (ix_tbm hsm rfl)) hn hmethM hstM habM hy hdk hnid hps hsuper hsub (a := K.2.2.1 + b) (cell := cellB) (by rw [hT]; exact hcB)
    (fun z h => by rw [h] at hoB; cases hoB) hkB (g := F0 m pc ls (As.reverse ++ .ref (K.2.2.1 + b) :: rest)) rfl (argsL := As) (rest := rest) hlen rfl (by rw [X.2.1]; exact hd)
  obtain ⟨v, ⟨U', l2, c2, s2⟩, X', ⟨g', mk', t, L', e1, e2, hq, h1, hL, h2, h3⟩, hsteps⟩ := hK m meth c ⟨T0.setVm vm₁, locs, k, n⟩ { F0 m pc ls (As.reverse ++ .ref (K.2.2.1 + b) :: rest) with stack := rest } (.invokespecial idx) mk (Value.ref (K.2.2.1 + b) :: As).toArray X₁ rfl (hls.trans X.2.2.1.symm) (by rw [X.2.1]; exact hd) (lv_room hrm) (X₁.named hnamed) ⟨hf.1, hf.2, ix_pre X hP hz hS _ _ hT X₁.warmed⟩
  dsimp only [Pt.U, Pt.locs, Pt.cells, Pt.slots] at X' e1 e2 h1 h2 h3 hsteps
  subst h1; subst h2; subst h3
  exact ⟨v, (T0.setVm vm₁).calling g' mk' (Value.ref (K.2.2.1 + b) :: As).toArray, t, U', L', hT, X', hL, e1, e2, hq, fun target h => hstep₁ _ (by rw [doInvoke_state]; exact hsteps.trans h)⟩
end IXU

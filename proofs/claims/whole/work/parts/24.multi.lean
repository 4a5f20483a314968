/-! new int[N][M]: the outer array, then its rows one behind the other -/
def ix_mo (c : ClassId) (N h i : Nat) : Cell := arrV c N (fun j => va_rf (if j < i then some (h + 1 + j) else none))
def ix_mi (c : ClassId) (M : Nat) : Cell := arrV c M (fun _ => .int 0)
def ix_mst (T : State) (cA cI : ClassId) (N M : Nat) : Nat → State
  | 0 => T.pushCell (ix_mo cA N T.heap.size 0)
  | i + 1 => ((ix_mst T cA cI N M i).pushCell (ix_mi cI M)).setCell T.heap.size (ix_mo cA N T.heap.size (i + 1))
theorem ix_mo_set (c : ClassId) (N h i : Nat) : (ix_mo c N h i).setSlot i (.ref (h + 1 + i)) = ix_mo c N h (i + 1) := by
  unfold ix_mo
  rw [arrV_store]
  congr 1
  funext j
  by_cases e : j = i
  · subst e
    simp [updV, va_rf]
  · by_cases h1 : j < i
    · simp [updV, e, h1, Nat.lt_succ_of_lt h1]
    · have h2 : ¬ j < i + 1 := by omega
      simp [updV, e, h1, h2]
theorem ix_mst_facts (T : State) (cA cI : ClassId) (N M : Nat) : ∀ i : Nat, (ix_mst T cA cI N M i).heap.size = T.heap.size + 1 + i ∧ (ix_mst T cA cI N M i).heap[T.heap.size]? = some (ix_mo cA N T.heap.size i) ∧ (ix_mst T cA cI N M i).vm = T.vm ∧ (ix_mst T cA cI N M i).slotsUsed = T.slotsUsed + N + i * M ∧ (∀ q, q < T.heap.size → (ix_mst T cA cI N M i).heap[q]? = T.heap[q]?) ∧ ∀ j, j < i → (ix_mst T cA cI N M i).heap[T.heap.size + 1 + j]? = some (ix_mi cI M)
  | 0 => by
    refine ⟨by simp [ix_mst], by simp [ix_mst], rfl, by simp [ix_mst, ix_mo, arrV_size], fun q hq => State.heap_pushCell_of_lt _ _ hq, fun j h => absurd h (Nat.not_lt_zero _)⟩
  | i + 1 => by
    obtain ⟨a, b, c, u, o, r⟩ := ix_mst_facts T cA cI N M i
    have hlt : T.heap.size < (ix_mst T cA cI N M i).heap.size := by rw [a]; exact Nat.lt_of_lt_of_le (Nat.lt_succ_self _) (Nat.le_add_right _ _)
    have hb : ((ix_mst T cA cI N M i).pushCell (ix_mi cI M)).heap[T.heap.size]? = some (ix_mo cA N T.heap.size i) := by rw [State.heap_pushCell_of_lt (h := hlt)]; exact b
    refine ⟨?_, State.heap_setCell_self hb, by simp [ix_mst, c], ?_, fun q hq => ?_, fun j hj => ?_⟩
    · simp [ix_mst, State.setCell, a, Nat.add_assoc]
    · simp [ix_mst, u, ix_mi, arrV_size, Nat.succ_mul, Nat.add_assoc]
    · show (((ix_mst T cA cI N M i).pushCell (ix_mi cI M)).setCell T.heap.size _).heap[q]? = _
      rw [State.heap_setCell_other (Nat.ne_of_gt hq), State.heap_pushCell_of_lt (h := Nat.lt_trans hq hlt)]
      exact o q hq
    · show (((ix_mst T cA cI N M i).pushCell (ix_mi cI M)).setCell T.heap.size _).heap[T.heap.size + 1 + j]? = _
      rw [State.heap_setCell_other (Nat.ne_of_lt (Nat.lt_of_lt_of_le (Nat.lt_succ_self _) (Nat.le_add_right _ _)))]
      rcases Nat.lt_or_ge j i with h | h
      · rw [State.heap_pushCell_of_lt (h := by rw [a]; exact Nat.add_lt_add_left h _)]
        exact r j h
      · have e : j = i := Nat.le_antisymm (Nat.le_of_lt_succ hj) h
        subst e
        rw [← a]
        exact State.heap_pushCell_size _ _
theorem ix_mst_top (T : State) (f : JFrame) (cA cI : ClassId) (N M : Nat) : ∀ i, ix_mst (T.setTop f) cA cI N M i = (ix_mst T cA cI N M i).setTop f
  | 0 => rfl
  | i + 1 => by simp only [ix_mst, ix_mst_top T f cA cI N M i, State.heap_setTop, State.pushCell_setTop, State.setCell_setTop]
section IXMA
variable {E : CtlPost} {e : Env} {d : Bool} {acts : List Action} {s : State}
theorem ix_mk1 {comp cc : ClassId} {kc : Class} {m : Int32} (hkc : s.vm.classes[comp]? = some kc) (hkindc : kc.kind = .array cc .int) (hm : ¬ m < 0)
    (hl2 : ¬ m.toNatClampNeg > e.platform.arrayLengthLimit) (hh2 : ¬ m.toNatClampNeg * 4 > e.platform.maxHeapBytes) (h1 : s.heap.size < e.platform.maxCells) (h2 : s.slotsUsed + m.toNatClampNeg ≤ e.platform.maxSlots)
    {Q : Addr → Pre} (hq : ∀ acts', Q s.heap.size d acts' (s.pushCell (ix_mi comp m.toNatClampNeg))) : wp (multianewarray.make comp [m]) Q E e d acts s := by
  rw [multianewarray.make]
  simp only [wp_bind', W.ite, hm, if_false, wp_pure', W.theClass, hkc, hkindc, Option.some.injEq, exists_eq_left']
  refine W.newArray_of hkc hkindc hl2 hh2 h1 h2 rfl (fun acts' => ?_)
  have h := hq acts'
  rw [ix_mi, ← arrV_new] at h
  exact h
theorem ix_mk2 {cA comp cc : ClassId} {k kc : Class} {n m : Int32} (hk : s.vm.classes[cA]? = some k) (hkind : k.kind = .array comp (.array .int)) (hkc : s.vm.classes[comp]? = some kc) (hkindc : kc.kind = .array cc .int) (hn : ¬ n < 0) (hm : ¬ m < 0)
    (hl1 : ¬ n.toNatClampNeg > e.platform.arrayLengthLimit) (hh1 : ¬ n.toNatClampNeg * 4 > e.platform.maxHeapBytes) (hl2 : ¬ m.toNatClampNeg > e.platform.arrayLengthLimit) (hh2 : ¬ m.toNatClampNeg * 4 > e.platform.maxHeapBytes)
    (hc : s.heap.size + 1 + n.toNatClampNeg ≤ e.platform.maxCells) (hs : s.slotsUsed + n.toNatClampNeg + n.toNatClampNeg * m.toNatClampNeg ≤ e.platform.maxSlots)
    {Q : Addr → Pre} (hq : ∀ d' acts', Q s.heap.size d' acts' (ix_mst s cA comp n.toNatClampNeg m.toNatClampNeg n.toNatClampNeg)) : wp (multianewarray.make cA [n, m]) Q E e d acts s := by
  have hfind : ([m].find? (· < 0)) = none := by simp [hm]
  rw [multianewarray.make]
  simp only [wp_bind', W.ite, hn, if_false, wp_pure', W.theClass, hk, hkind, Option.some.injEq, exists_eq_left']
  refine W.newArray_of hk hkind hl1 hh1 (by omega) (by have := Nat.zero_le (n.toNatClampNeg * m.toNatClampNeg); omega) rfl (fun acts' => ?_)
  simp only [hfind]
  rw [ite_self, wp_bind', Std.Legacy.Range.forIn_eq_forIn_range']
  have hsz : ([:n.toNatClampNeg] : Std.Legacy.Range).size = n.toNatClampNeg := by simp [Std.Legacy.Range.size]
  rw [hsz]
  show wp (forIn (List.range' 0 n.toNatClampNeg 1) PUnit.unit _) _ E e d acts' _
  refine wp_forIn_inv (fun rest s' => ∃ i, i ≤ n.toNatClampNeg ∧ rest = List.range' i (n.toNatClampNeg - i) ∧ s' = ix_mst s cA comp n.toNatClampNeg m.toNatClampNeg i) _ _ ⟨0, Nat.zero_le _, rfl, ?_⟩ ?_ ?_
  · show s.pushCell _ = s.pushCell _
    congr 1
    rw [ix_mo, arrV_new]
    congr 1
  · rintro x rest s' d' acts' Q' ⟨i, hi, hl, rfl⟩ hnext
    have hlt : i < n.toNatClampNeg := by
      rcases Nat.lt_or_ge i n.toNatClampNeg with h | h
      · exact h
      · rw [show n.toNatClampNeg - i = 0 from by omega] at hl; simp at hl
    obtain ⟨rfl, hrest⟩ : x = i ∧ rest = List.range' (i + 1) (n.toNatClampNeg - (i + 1)) := by
      rw [show n.toNatClampNeg - i = (n.toNatClampNeg - (i + 1)) + 1 from by omega, List.range'_succ] at hl
      exact ⟨(List.cons.inj hl).1, (List.cons.inj hl).2⟩
    obtain ⟨f1, f2, f3, f4, -, -⟩ := ix_mst_facts s cA comp n.toNatClampNeg m.toNatClampNeg x
    have hmul : x * m.toNatClampNeg + m.toNatClampNeg ≤ n.toNatClampNeg * m.toNatClampNeg := by
      have := Nat.mul_le_mul_right m.toNatClampNeg (show x + 1 ≤ n.toNatClampNeg from hlt)
      rw [Nat.succ_mul] at this; exact this
    simp only [wp_bind']
    refine ix_mk1 (by rw [f3]; exact hkc) hkindc hm hl2 hh2 (by rw [f1]; omega) (by rw [f4]; omega) (fun acts'' => ?_)
    have hlt0 : s.heap.size < (ix_mst s cA comp n.toNatClampNeg m.toNatClampNeg x).heap.size := by rw [f1]; omega
    simp only [wp_bind', W.writeLoc, wp_pure']
    refine ⟨ix_mo cA n.toNatClampNeg s.heap.size x, by rw [State.heap_pushCell_of_lt (h := hlt0)]; exact f2, by simp [ix_mo, arrV], by rw [ix_mo, arrV_size]; exact hlt, ?_, hnext _ _ _ ⟨x + 1, hlt, hrest, ?_⟩⟩
    · simp [ix_mo, arrV, State.fitsSlot, State.slotType?, f3, hk, hkind]
      rfl
    · rw [f1, ix_mo_set]; rfl
  · rintro s' d' acts' ⟨i, hi, hl, rfl⟩
    have hiN : i = n.toNatClampNeg := by
      rcases Nat.lt_or_ge i n.toNatClampNeg with h | h
      · rw [show n.toNatClampNeg - i = (n.toNatClampNeg - (i + 1)) + 1 from by omega, List.range'_succ] at hl; cases hl
      · omega
    subst hiN
    simp only [wp_pure']
    exact hq _ _
end IXMA
def ix_zm (z : ix_Z) : ix_Z := (fun a k => if a = z.2.2 then (if k < 40 then some (z.2.2 + 1 + k) else none) else if z.2.2 < a ∧ a ≤ z.2.2 + 40 then none else z.1 a k, fun a => if a = z.2.2 then (25, 40) else if z.2.2 < a ∧ a ≤ z.2.2 + 40 then (20, 12) else z.2.1 a, z.2.2 + 41)
def ix_dm (d : ix_D2) (N : Nat) : ix_D2 := (fun a k => if N ≤ a ∧ a ≤ N + 40 then 0 else d.1 a k, fun a k => if N ≤ a ∧ a ≤ N + 40 then 0 else d.2 a k)
section IXMB
variable {p : Program} {l : Launch} {e : Env} {R : Room} {s : State} {m : MethodId} {args : Array Value} {below : List Frame} {meth : Method} {c : Code} {Q : State → Prop} {K : ix_Cx} {nL k n : Nat} {cc : ByteArray} {own : String} {pc : Nat} {L : List (Nat × Value)} {S : List Value} {z : ix_Z} {d : ix_D2}
theorem ix_mst_stand {T : State} {locs : List Loc} {cells slots : Nat} (X : Stand p l e R s m args below meth c T locs cells slots) (cA cI : ClassId) (N M : Nat) : ∀ i : Nat, Stand p l e R s m args below meth c (ix_mst T cA cI N M i) (locs ++ (List.range i).map fun j => ⟨T.heap.size, j⟩) (cells + 1 + i) (slots + N + i * M)
  | 0 => by
    have h := X.pushed (ix_mo cA N T.heap.size 0)
    rw [show (ix_mo cA N T.heap.size 0).slots.size = N from arrV_size _ _ _] at h
    simpa [ix_mst] using h
  | i + 1 => by
    have Xi := ix_mst_stand X cA cI N M i
    obtain ⟨f1, f2, -, -, -, -⟩ := ix_mst_facts T cA cI N M i
    have hlt : T.heap.size < (ix_mst T cA cI N M i).heap.size := by rw [f1]; exact Nat.lt_of_lt_of_le (Nat.lt_succ_self _) (Nat.le_add_right _ _)
    have hcell : ((ix_mst T cA cI N M i).pushCell (ix_mi cI M)).heap[T.heap.size]? = some (ix_mo cA N T.heap.size i) := by rw [State.heap_pushCell_of_lt (h := hlt)]; exact f2
    have h := (Xi.pushed (ix_mi cI M)).stored hcell i (.ref (T.heap.size + 1 + i))
    rw [show (ix_mi cI M).slots.size = M from arrV_size _ _ _, ix_mo_set] at h
    have e2 : (locs ++ (List.range (i + 1)).map fun j => (⟨T.heap.size, j⟩ : Loc)) = (locs ++ (List.range i).map fun j => (⟨T.heap.size, j⟩ : Loc)) ++ [⟨T.heap.size, i⟩] := by simp [List.range_succ, List.append_assoc]
    have e3 : slots + N + (i + 1) * M = slots + N + i * M + M := by rw [Nat.succ_mul, Nat.add_assoc (slots + N)]
    rw [e2, e3]
    exact h
theorem ix_over2 {U : State} (h : (Cond.arrayOver (.array .int)).before #[] U = true) : ∃ comp c k, U.vm.findClass (FieldType.array .int).toString = some comp ∧ U.vm.classes[c]? = some k ∧ k.kind = .array comp (.array .int) ∧ U.vm.findClass ("[" ++ (FieldType.array .int).toString) = some c := by
  have h : (Cond.arrayOver (.array .int)).holds #[] U none U [] = true := h
  simp only [Cond.holds, Cond.value, beq_iff_eq] at h
  cases hc : U.vm.findClass (FieldType.array .int).toString with
  | none => simp [hc] at h
  | some comp =>
    simp only [hc, Option.bind_some, Option.bind_eq_some_iff, Option.map_eq_some_iff] at h
    obtain ⟨c, hi, k, hk, hb⟩ := h
    obtain ⟨hlt, hp, -⟩ := Array.findIdx?_eq_some_iff_getElem.mp hi
    have hkk : U.vm.classes[c] = k := (Array.getElem?_eq_some_iff.mp hk).2
    rw [hkk] at hp
    cases hkind : k.kind with
    | array component ty =>
      rw [hkind] at hb hp
      simp at hb hp
      exact ⟨comp, c, k, rfl, hk, by rw [hkind, hp, hb.1], hb.2⟩
    | _ => rw [hkind] at hb; simp at hb
theorem ix_mP {H H1 : Heap} (hP : va_P K.1 ix_cl (ix_ws K (ix_w z d)) H) (hz : H.size = K.2.2.1 + z.2.2) (o1 : ∀ q, q < H.size → H1[q]? = H[q]?) (e1 : H1[H.size]? = some (ix_mo (K.2.1 5) 40 H.size 40)) (e2 : ∀ j, j < 40 → H1[H.size + 1 + j]? = some (ix_mi (K.2.1 0) 12)) : va_P K.1 ix_cl (ix_ws K (ix_w (ix_zm z) (ix_dm d z.2.2))) H1 := by
  intro i q hq
  have hi : i < z.2.2 + 41 := by
    have := (List.getElem?_eq_some_iff.mp hq).1
    rw [ix_len] at this
    exact this
  rw [ix_at (w := ix_w (ix_zm z) (ix_dm d z.2.2)) hi] at hq
  cases hq
  rcases Nat.lt_trichotomy i z.2.2 with h | h | h
  · have hh : ix_e K (ix_w (ix_zm z) (ix_dm d z.2.2)) i = ix_e K (ix_w z d) i := by
      have g1 : i ≠ z.2.2 := by omega
      have g2 : ¬ (z.2.2 < i ∧ i ≤ z.2.2 + 40) := by omega
      have g3 : ¬ (z.2.2 ≤ i ∧ i ≤ z.2.2 + 40) := by omega
      exact ix_e_congr (by funext k'; simp [ix_w, ix_dm, g3]) (by funext k'; simp [ix_w, ix_dm, g3]) (by funext k'; simp [ix_w, ix_zm, g1, g2]) (by simp [ix_T, ix_w, ix_zm, g1, g2])
    rw [hh]
    exact (hP i _ (ix_at (w := ix_w z d) h)).kept (o1 _ (by show K.2.2.1 + i < H.size; rw [hz]; omega))
  · subst h
    rw [ix_ei (t := 25) (n := 40) (by simp [ix_T, ix_w, ix_zm]) (by decide), ix_c25]
    show H1[K.2.2.1 + z.2.2]? = some (vp_cell (K.2.1 5) _)
    rw [← hz, e1, vp_cell_q]
    refine congrArg some ?_
    unfold ix_mo
    refine congrArg (arrV (K.2.1 5) 40) ?_
    funext j
    by_cases hj : j < 40
    · simp [ix_w, ix_zm, hj, hz, Nat.add_assoc]
    · simp [ix_w, ix_zm, hj]
  · have g1 : i ≠ z.2.2 := by omega
    have g2 : z.2.2 < i ∧ i ≤ z.2.2 + 40 := by omega
    have g3 : z.2.2 ≤ i ∧ i ≤ z.2.2 + 40 := by omega
    rw [ix_ei (t := 20) (n := 12) (by simp [ix_T, ix_w, ix_zm, g1, g2]) (by decide), ix_c20]
    show H1[K.2.2.1 + i]? = some (vp_cell (K.2.1 0) _)
    rw [show K.2.2.1 + i = H.size + 1 + (i - z.2.2 - 1) by rw [hz]; omega, e2 _ (by omega), vp_cell_i]
    refine congrArg some ?_
    unfold ix_mi
    refine congrArg (arrV (K.2.1 0) 12) ?_
    funext j
    simp [ix_w, ix_dm, g3]
theorem iz_mna (X : ix_X p s m args c K cc own nL) (hF : ix_Fc K) {pl pq idx : Nat} {z1 : ix_Z} {d1 : ix_D2} (h1 : tables_1[pl]? = some (Cond.classLink own idx "[[I")) (h2 : tables_1[pq]? = some (Cond.arrayClass .int)) (hc : k + 41 ≤ R.cells) (hs : n + 520 ≤ R.slots) (hd : decode cc pc = .ok (.multianewarray idx 2, 4)) (hz1 : z1 = ix_zm z) (hd1 : d1 = ix_dm d z.2.2) {pc1 : Nat} (hp : pc + 4 = pc1)
    (kk : ix_G p l e R s m args below meth c Q K nL (k + 41) (n + 520) pc1 L (.ref (K.2.2.1 + z.2.2) :: S) (ix_w z1 d1)) : ix_G p l e R s m args below meth c Q K nL k n pc L (.int 12 :: .int 40 :: S) (ix_w z d) := by
  subst hp
  subst hz1
  subst hd1
  intro H locs ls hP hz hS hl T hT X0
  have hts := X.2.2.2.2.1
  have hO := X.2.2.2.2.2.1
  have hz' : H.size = K.2.2.1 + z.2.2 := hz
  have hTs : T.heap.size = H.size := by rw [hT]
  have n40 : (40 : Int32).toNatClampNeg = 40 := by decide
  have n12 : (12 : Int32).toNatClampNeg = 12 := by decide
  have hpl : e.platform.magicAccessors = ({} : Platform).magicAccessors := by rw [X0.admits.platform]
  obtain ⟨comp, cA, kA, hcomp, hkA, hkindA, hnameA⟩ := ix_over2 (hF s hO.2.2).2.2
  obtain ⟨comp', kC, c2, hcomp', hkC, hkindC⟩ := Cond.arrayClass_spec (hts _ (ix_tbm (ix_wm h2) rfl))
  have ecomp : comp' = comp := Option.some.inj (hcomp'.symm.trans hcomp)
  subst ecomp
  have hI : K.2.1 0 = comp' := Option.some.inj (Eq.trans (Eq.symm (hO.1.2 0 _ rfl).2) hcomp)
  have hAA : K.2.1 5 = cA := Option.some.inj (Eq.trans (Eq.symm (hO.1.2 5 _ rfl).2) hnameA)
  obtain ⟨c0, hfc0, hcl⟩ := Cond.classLink_spec X.2.2.2.1 (hts _ (ix_tbm (ix_wm h1) rfl)) e.platform hpl
  cases hnameA.symm.trans hfc0
  obtain ⟨hg₁, hwarm₁, hready₁⟩ := State.classEntry (e := e) X0.warmed hcl
  generalize T.vm.noted m.cls idx (.cls cA) = vm₁ at hg₁ hwarm₁ hready₁
  obtain ⟨kA₁, hkA₁, heA⟩ := hwarm₁.alike.2.2 _ _ hkA
  obtain ⟨kC₁, hkC₁, heC⟩ := hwarm₁.alike.2.2 _ _ hkC
  have hkindA₁ : kA₁.kind = .array comp' (.array .int) := by rw [heA]; exact hkindA
  have hkindC₁ : kC₁.kind = .array c2 .int := by rw [heC]; exact hkindC
  have X₁ := X0.noted hwarm₁
  obtain ⟨hr1, hr2⟩ := X0.roomAbove (a := 41) (b := 520) hc hs
  have XF := ix_mst_stand X₁ cA comp' 40 12 40
  obtain ⟨f1, f2, f3, f4, f5, f6⟩ := ix_mst_facts (T.setVm vm₁) cA comp' 40 12 40
  have hh : (T.setVm vm₁).heap = H := hT
  rw [hh] at f1 f2 f5 f6
  have hPn : va_P K.1 ix_cl (ix_ws K (ix_w (ix_zm z) (ix_dm d z.2.2))) (ix_mst (T.setVm vm₁) cA comp' 40 12 40).heap := ix_mP hP hz' f5 (by rw [hAA]; exact f2) (fun j hj => by rw [hI]; exact f6 j hj)
  obtain ⟨t, a1, b1⟩ := kk (ix_mst (T.setVm vm₁) cA comp' 40 12 40).heap _ ls hPn (by rw [f1, hz']; rfl) ⟨by rw [f1]; exact Nat.le_trans hS.1 (by omega), fun q g1 g2 => by rw [f5 q (Nat.lt_of_lt_of_le g1 hS.1)]; exact hS.2.1 q g1 g2, fun q hq => by
      rcases List.mem_append.mp hq with h | h
      · exact hS.2.2 q h
      · obtain ⟨j, -, rfl⟩ := List.mem_map.mp h
        show K.2.2.1 ≤ (T.setVm vm₁).heap.size
        rw [hh, hz']
        exact Nat.le_add_right _ _⟩ hl _ rfl XF
  refine ⟨t, ?_, b1⟩
  rw [← hz', ← hTs] at a1
  have hdc : decode c.code pc = .ok (.multianewarray idx 2, 4) := by rw [X.2.1]; exact hd
  jvm_step X0.here [X.1, hdc]
  simp only [multianewarray.sem, wp_bind', W.resolveClassAt_links (State.method?_setTop (F0 m pc ls (.int 12 :: .int 40 :: S)) X0.here.top) hg₁]
  rw [W.popN, if_neg (by decide)]
  refine ⟨F0 m pc ls (.int 12 :: .int 40 :: S), State.topJava?_setTop' (s := T.setVm vm₁) _ X0.here.top, [.int 40, .int 12], S, rfl, rfl, ?_⟩
  simp only [List.mapM_cons, List.mapM_nil, wp_bind', wp_pure']
  refine ix_mk2 (k := kA₁) (kc := kC₁) (comp := comp') (cc := c2) hkA₁ hkindA₁ hkC₁ hkindC₁ (by decide) (by decide) (by rw [Launch.admits_arrayLengthLimit X0.admits, n40]; decide) (by rw [Launch.admits_maxHeapBytes X0.admits, n40]; decide) (by rw [Launch.admits_arrayLengthLimit X0.admits, n12]; decide) (by rw [Launch.admits_maxHeapBytes X0.admits, n12]; decide) (by rw [n40]; show T.heap.size + 1 + 40 ≤ _; omega) (by rw [n40, n12]; show T.slotsUsed + 40 + 40 * 12 ≤ _; omega) (fun d' acts' => ?_)
  have eS : ((T.setTop (F0 m pc ls (.int 12 :: .int 40 :: S))).setVm vm₁).setTop { F0 m pc ls (.int 12 :: .int 40 :: S) with stack := S } = (T.setVm vm₁).setTop { F0 m pc ls (.int 12 :: .int 40 :: S) with stack := S } := by
    show ((T.setVm vm₁).setTop _).setTop _ = _
    rw [State.setTop_setTop]
  rw [eS, ix_mst_top, n40, n12]
  simp only [wp_bind', W.mark, W.pushRef, State.topJava?_setTop' _ XF.here.top, Option.some.injEq, exists_eq_left', State.setTop_setTop, State.heap_setTop]
  intro acts
  simp [jvm, XF.here.top]
  exact a1
end IXMB

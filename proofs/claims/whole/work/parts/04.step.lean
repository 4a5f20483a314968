section IXS
variable {p : Program} {l : Launch} {e : Env} {R : Room} {s : State} {m : MethodId} {args : Array Value} {below : List Frame} {meth : Method} {c : Code} {Q : State → Prop} {K : ix_Cx} {nL k n : Nat} {cc : ByteArray} {own : String} {pc : Nat} {L : List (Nat × Value)} {S : List Value} {w : ix_W}
theorem ix_iconst (X : ix_X p s m args c K cc own nL) {i : Int} {v : Int32} (hd : decode cc pc = .ok (.iconst i, 1)) (hv : Int32.ofInt i = v) {pc1 : Nat} (hp : pc + 1 = pc1) (kk : ix_G p l e R s m args below meth c Q K nL k n pc1 L (.int v :: S) w) : ix_G p l e R s m args below meth c Q K nL k n pc L (S) w := by
  subst hp
  exact fun H locs ls hP hz hS hl => lv_iconst X.1 X.2.1 hd hv (kk H locs ls hP hz hS hl)
theorem ix_bipush (X : ix_X p s m args c K cc own nL) {i : Int} {v : Int32} (hd : decode cc pc = .ok (.bipush i, 2)) (hv : (Int8.ofInt i).toInt32 = v) {pc1 : Nat} (hp : pc + 2 = pc1) (kk : ix_G p l e R s m args below meth c Q K nL k n pc1 L (.int v :: S) w) : ix_G p l e R s m args below meth c Q K nL k n pc L (S) w := by
  subst hp
  exact fun H locs ls hP hz hS hl => lv_bipush X.1 X.2.1 hd hv (kk H locs ls hP hz hS hl)
theorem ix_sipush (X : ix_X p s m args c K cc own nL) {i : Int} {v : Int32} (hd : decode cc pc = .ok (.sipush i, 3)) (hv : (Int16.ofInt i).toInt32 = v) {pc1 : Nat} (hp : pc + 3 = pc1) (kk : ix_G p l e R s m args below meth c Q K nL k n pc1 L (.int v :: S) w) : ix_G p l e R s m args below meth c Q K nL k n pc L (S) w := by
  subst hp
  exact fun H locs ls hP hz hS hl => lv_sipush X.1 X.2.1 hd hv (kk H locs ls hP hz hS hl)
theorem ix_lconst (X : ix_X p s m args c K cc own nL) {i : Fin 2} {v : Int64} (hd : decode cc pc = .ok (.lconst i, 1)) (hv : Int64.ofNat (i : Nat) = v) {pc1 : Nat} (hp : pc + 1 = pc1) (kk : ix_G p l e R s m args below meth c Q K nL k n pc1 L (.long v :: S) w) : ix_G p l e R s m args below meth c Q K nL k n pc L (S) w := by
  subst hp
  exact fun H locs ls hP hz hS hl => lv_lconst X.1 X.2.1 hd hv (kk H locs ls hP hz hS hl)
theorem ix_iload (X : ix_X p s m args c K cc own nL) {i j : Nat} {x : Int32} (hd : decode cc pc = .ok (.iload i, 2)) (hm : L[j]? = some (i, .int x)) {pc1 : Nat} (hp : pc + 2 = pc1) (kk : ix_G p l e R s m args below meth c Q K nL k n pc1 L (.int x :: S) w) : ix_G p l e R s m args below meth c Q K nL k n pc L (S) w := by
  subst hp
  exact fun H locs ls hP hz hS hl => lv_iload X.1 X.2.1 hd (lv_at hl j hm) (kk H locs ls hP hz hS hl)
theorem ix_iload_n (X : ix_X p s m args c K cc own nL) {f : Fin 4} {i j : Nat} {x : Int32} (hd : decode cc pc = .ok (.iload_n f, 1)) (hi : (f : Nat) = i) (hm : L[j]? = some (i, .int x)) {pc1 : Nat} (hp : pc + 1 = pc1) (kk : ix_G p l e R s m args below meth c Q K nL k n pc1 L (.int x :: S) w) : ix_G p l e R s m args below meth c Q K nL k n pc L (S) w := by
  subst hp
  exact fun H locs ls hP hz hS hl => lv_iload_n X.1 X.2.1 hd hi (lv_at hl j hm) (kk H locs ls hP hz hS hl)
theorem ix_lload (X : ix_X p s m args c K cc own nL) {i j : Nat} {x : Int64} (hd : decode cc pc = .ok (.lload i, 2)) (hm : L[j]? = some (i, .long x)) {pc1 : Nat} (hp : pc + 2 = pc1) (kk : ix_G p l e R s m args below meth c Q K nL k n pc1 L (.long x :: S) w) : ix_G p l e R s m args below meth c Q K nL k n pc L (S) w := by
  subst hp
  exact fun H locs ls hP hz hS hl => lv_lload X.1 X.2.1 hd (lv_at hl j hm) (kk H locs ls hP hz hS hl)
theorem ix_lload_n (X : ix_X p s m args c K cc own nL) {f : Fin 4} {i j : Nat} {x : Int64} (hd : decode cc pc = .ok (.lload_n f, 1)) (hi : (f : Nat) = i) (hm : L[j]? = some (i, .long x)) {pc1 : Nat} (hp : pc + 1 = pc1) (kk : ix_G p l e R s m args below meth c Q K nL k n pc1 L (.long x :: S) w) : ix_G p l e R s m args below meth c Q K nL k n pc L (S) w := by
  subst hp
  exact fun H locs ls hP hz hS hl => lv_lload_n X.1 X.2.1 hd hi (lv_at hl j hm) (kk H locs ls hP hz hS hl)
theorem ix_aload (X : ix_X p s m args c K cc own nL) {i j : Nat} {x : Nat} (hd : decode cc pc = .ok (.aload i, 2)) (hm : L[j]? = some (i, .ref x)) {pc1 : Nat} (hp : pc + 2 = pc1) (kk : ix_G p l e R s m args below meth c Q K nL k n pc1 L (.ref x :: S) w) : ix_G p l e R s m args below meth c Q K nL k n pc L (S) w := by
  subst hp
  exact fun H locs ls hP hz hS hl => lv_aload X.1 X.2.1 hd (lv_at hl j hm) (kk H locs ls hP hz hS hl)
theorem ix_aload_n (X : ix_X p s m args c K cc own nL) {f : Fin 4} {i j : Nat} {x : Nat} (hd : decode cc pc = .ok (.aload_n f, 1)) (hi : (f : Nat) = i) (hm : L[j]? = some (i, .ref x)) {pc1 : Nat} (hp : pc + 1 = pc1) (kk : ix_G p l e R s m args below meth c Q K nL k n pc1 L (.ref x :: S) w) : ix_G p l e R s m args below meth c Q K nL k n pc L (S) w := by
  subst hp
  exact fun H locs ls hP hz hS hl => lv_aload_n X.1 X.2.1 hd hi (lv_at hl j hm) (kk H locs ls hP hz hS hl)
theorem ix_aload_nN (X : ix_X p s m args c K cc own nL) {f : Fin 4} {i j : Nat} (hd : decode cc pc = .ok (.aload_n f, 1)) (hi : (f : Nat) = i) (hm : L[j]? = some (i, .null)) {pc1 : Nat} (hp : pc + 1 = pc1) (kk : ix_G p l e R s m args below meth c Q K nL k n pc1 L (.null :: S) w) : ix_G p l e R s m args below meth c Q K nL k n pc L (S) w := by
  subst hp
  exact fun H locs ls hP hz hS hl => lv_aload_nN X.1 X.2.1 hd hi (lv_at hl j hm) (kk H locs ls hP hz hS hl)
theorem ix_istore (X : ix_X p s m args c K cc own nL) {i : Nat} {x : Int32} {L1 : List (Nat × Value)} (hd : decode cc pc = .ok (.istore i, 2)) (hn : i < nL) (hL : (i, Value.int x) :: L.filter (fun q => !(q.1 == i) && !(q.1 + 1 == i && q.2.category == 2)) = L1) {pc1 : Nat} (hp : pc + 2 = pc1) (kk : ix_G p l e R s m args below meth c Q K nL k n pc1 L1 S w) : ix_G p l e R s m args below meth c Q K nL k n pc L (.int x :: S) w := by
  subst hp
  exact fun H locs ls hP hz hS hl => lv_istore X.1 X.2.1 hd hl hn hL (fun ls1 hl1 => kk H locs ls1 hP hz hS hl1)
theorem ix_istore_n (X : ix_X p s m args c K cc own nL) {f : Fin 4} {i : Nat} {x : Int32} {L1 : List (Nat × Value)} (hd : decode cc pc = .ok (.istore_n f, 1)) (hi : (f : Nat) = i) (hn : i < nL) (hL : (i, Value.int x) :: L.filter (fun q => !(q.1 == i) && !(q.1 + 1 == i && q.2.category == 2)) = L1) {pc1 : Nat} (hp : pc + 1 = pc1) (kk : ix_G p l e R s m args below meth c Q K nL k n pc1 L1 S w) : ix_G p l e R s m args below meth c Q K nL k n pc L (.int x :: S) w := by
  subst hp
  exact fun H locs ls hP hz hS hl => lv_istore_n X.1 X.2.1 hd hi hl hn hL (fun ls1 hl1 => kk H locs ls1 hP hz hS hl1)
theorem ix_lstore (X : ix_X p s m args c K cc own nL) {i : Nat} {x : Int64} {L1 : List (Nat × Value)} (hd : decode cc pc = .ok (.lstore i, 2)) (hn : i + 1 < nL) (hL : (i, Value.long x) :: L.filter (fun q => !(q.1 == i) && (!(q.1 == i + 1) && !(q.1 + 1 == i && q.2.category == 2))) = L1) {pc1 : Nat} (hp : pc + 2 = pc1) (kk : ix_G p l e R s m args below meth c Q K nL k n pc1 L1 S w) : ix_G p l e R s m args below meth c Q K nL k n pc L (.long x :: S) w := by
  subst hp
  exact fun H locs ls hP hz hS hl => lv_lstore X.1 X.2.1 hd hl hn hL (fun ls1 hl1 => kk H locs ls1 hP hz hS hl1)
theorem ix_lstore_n (X : ix_X p s m args c K cc own nL) {f : Fin 4} {i : Nat} {x : Int64} {L1 : List (Nat × Value)} (hd : decode cc pc = .ok (.lstore_n f, 1)) (hi : (f : Nat) = i) (hn : i + 1 < nL) (hL : (i, Value.long x) :: L.filter (fun q => !(q.1 == i) && (!(q.1 == i + 1) && !(q.1 + 1 == i && q.2.category == 2))) = L1) {pc1 : Nat} (hp : pc + 1 = pc1) (kk : ix_G p l e R s m args below meth c Q K nL k n pc1 L1 S w) : ix_G p l e R s m args below meth c Q K nL k n pc L (.long x :: S) w := by
  subst hp
  exact fun H locs ls hP hz hS hl => lv_lstore_n X.1 X.2.1 hd hi hl hn hL (fun ls1 hl1 => kk H locs ls1 hP hz hS hl1)
theorem ix_astore (X : ix_X p s m args c K cc own nL) {i : Nat} {x : Nat} {L1 : List (Nat × Value)} (hd : decode cc pc = .ok (.astore i, 2)) (hn : i < nL) (hL : (i, Value.ref x) :: L.filter (fun q => !(q.1 == i) && !(q.1 + 1 == i && q.2.category == 2)) = L1) {pc1 : Nat} (hp : pc + 2 = pc1) (kk : ix_G p l e R s m args below meth c Q K nL k n pc1 L1 S w) : ix_G p l e R s m args below meth c Q K nL k n pc L (.ref x :: S) w := by
  subst hp
  exact fun H locs ls hP hz hS hl => lv_astore X.1 X.2.1 hd hl hn hL (fun ls1 hl1 => kk H locs ls1 hP hz hS hl1)
theorem ix_astore_n (X : ix_X p s m args c K cc own nL) {f : Fin 4} {i : Nat} {x : Nat} {L1 : List (Nat × Value)} (hd : decode cc pc = .ok (.astore_n f, 1)) (hi : (f : Nat) = i) (hn : i < nL) (hL : (i, Value.ref x) :: L.filter (fun q => !(q.1 == i) && !(q.1 + 1 == i && q.2.category == 2)) = L1) {pc1 : Nat} (hp : pc + 1 = pc1) (kk : ix_G p l e R s m args below meth c Q K nL k n pc1 L1 S w) : ix_G p l e R s m args below meth c Q K nL k n pc L (.ref x :: S) w := by
  subst hp
  exact fun H locs ls hP hz hS hl => lv_astore_n X.1 X.2.1 hd hi hl hn hL (fun ls1 hl1 => kk H locs ls1 hP hz hS hl1)
theorem ix_astore_nN (X : ix_X p s m args c K cc own nL) {f : Fin 4} {i : Nat} {L1 : List (Nat × Value)} (hd : decode cc pc = .ok (.astore_n f, 1)) (hi : (f : Nat) = i) (hn : i < nL) (hL : (i, Value.null) :: L.filter (fun q => !(q.1 == i) && !(q.1 + 1 == i && q.2.category == 2)) = L1) {pc1 : Nat} (hp : pc + 1 = pc1) (kk : ix_G p l e R s m args below meth c Q K nL k n pc1 L1 S w) : ix_G p l e R s m args below meth c Q K nL k n pc L (.null :: S) w := by
  subst hp
  exact fun H locs ls hP hz hS hl => lv_astore_nN X.1 X.2.1 hd hi hl hn hL (fun ls1 hl1 => kk H locs ls1 hP hz hS hl1)
theorem ix_iinc (X : ix_X p s m args c K cc own nL) {i j : Nat} {d : Int} {x v : Int32} {L1 : List (Nat × Value)} (hd : decode cc pc = .ok (.iinc i d, 3)) (hm : L[j]? = some (i, .int x)) (hv : x + Int32.ofInt d = v) (hn : i < nL) (hL : (i, Value.int v) :: L.filter (fun q => !(q.1 == i) && !(q.1 + 1 == i && q.2.category == 2)) = L1) {pc1 : Nat} (hp : pc + 3 = pc1) (kk : ix_G p l e R s m args below meth c Q K nL k n pc1 L1 S w) : ix_G p l e R s m args below meth c Q K nL k n pc L S w := by
  subst hp
  exact fun H locs ls hP hz hS hl => lv_iinc X.1 X.2.1 hd hl hm hv hn hL (fun ls1 hl1 => kk H locs ls1 hP hz hS hl1)
theorem ix_iadd (X : ix_X p s m args c K cc own nL) {x y : Int32} (hd : decode cc pc = .ok (.iadd, 1)) {pc1 : Nat} (hp : pc + 1 = pc1) (kk : ix_G p l e R s m args below meth c Q K nL k n pc1 L (.int (x + y) :: S) w) : ix_G p l e R s m args below meth c Q K nL k n pc L (.int y :: .int x :: S) w := by
  subst hp
  exact fun H locs ls hP hz hS hl => lv_iadd X.1 X.2.1 hd (kk H locs ls hP hz hS hl)
theorem ix_isub (X : ix_X p s m args c K cc own nL) {x y : Int32} (hd : decode cc pc = .ok (.isub, 1)) {pc1 : Nat} (hp : pc + 1 = pc1) (kk : ix_G p l e R s m args below meth c Q K nL k n pc1 L (.int (x - y) :: S) w) : ix_G p l e R s m args below meth c Q K nL k n pc L (.int y :: .int x :: S) w := by
  subst hp
  exact fun H locs ls hP hz hS hl => lv_isub X.1 X.2.1 hd (kk H locs ls hP hz hS hl)
theorem ix_imul (X : ix_X p s m args c K cc own nL) {x y : Int32} (hd : decode cc pc = .ok (.imul, 1)) {pc1 : Nat} (hp : pc + 1 = pc1) (kk : ix_G p l e R s m args below meth c Q K nL k n pc1 L (.int (x * y) :: S) w) : ix_G p l e R s m args below meth c Q K nL k n pc L (.int y :: .int x :: S) w := by
  subst hp
  exact fun H locs ls hP hz hS hl => lv_imul X.1 X.2.1 hd (kk H locs ls hP hz hS hl)
theorem ix_iand (X : ix_X p s m args c K cc own nL) {x y : Int32} (hd : decode cc pc = .ok (.iand, 1)) {pc1 : Nat} (hp : pc + 1 = pc1) (kk : ix_G p l e R s m args below meth c Q K nL k n pc1 L (.int (x &&& y) :: S) w) : ix_G p l e R s m args below meth c Q K nL k n pc L (.int y :: .int x :: S) w := by
  subst hp
  exact fun H locs ls hP hz hS hl => lv_iand X.1 X.2.1 hd (kk H locs ls hP hz hS hl)
theorem ix_ior (X : ix_X p s m args c K cc own nL) {x y : Int32} (hd : decode cc pc = .ok (.ior, 1)) {pc1 : Nat} (hp : pc + 1 = pc1) (kk : ix_G p l e R s m args below meth c Q K nL k n pc1 L (.int (x ||| y) :: S) w) : ix_G p l e R s m args below meth c Q K nL k n pc L (.int y :: .int x :: S) w := by
  subst hp
  exact fun H locs ls hP hz hS hl => lv_ior X.1 X.2.1 hd (kk H locs ls hP hz hS hl)
theorem ix_ixor (X : ix_X p s m args c K cc own nL) {x y : Int32} (hd : decode cc pc = .ok (.ixor, 1)) {pc1 : Nat} (hp : pc + 1 = pc1) (kk : ix_G p l e R s m args below meth c Q K nL k n pc1 L (.int (x ^^^ y) :: S) w) : ix_G p l e R s m args below meth c Q K nL k n pc L (.int y :: .int x :: S) w := by
  subst hp
  exact fun H locs ls hP hz hS hl => lv_ixor X.1 X.2.1 hd (kk H locs ls hP hz hS hl)
theorem ix_ishl (X : ix_X p s m args c K cc own nL) {x y : Int32} (hd : decode cc pc = .ok (.ishl, 1)) {pc1 : Nat} (hp : pc + 1 = pc1) (kk : ix_G p l e R s m args below meth c Q K nL k n pc1 L (.int (x <<< (y &&& 31)) :: S) w) : ix_G p l e R s m args below meth c Q K nL k n pc L (.int y :: .int x :: S) w := by
  subst hp
  exact fun H locs ls hP hz hS hl => lv_ishl X.1 X.2.1 hd (kk H locs ls hP hz hS hl)
theorem ix_ishr (X : ix_X p s m args c K cc own nL) {x y : Int32} (hd : decode cc pc = .ok (.ishr, 1)) {pc1 : Nat} (hp : pc + 1 = pc1) (kk : ix_G p l e R s m args below meth c Q K nL k n pc1 L (.int (x >>> (y &&& 31)) :: S) w) : ix_G p l e R s m args below meth c Q K nL k n pc L (.int y :: .int x :: S) w := by
  subst hp
  exact fun H locs ls hP hz hS hl => lv_ishr X.1 X.2.1 hd (kk H locs ls hP hz hS hl)
theorem ix_ladd (X : ix_X p s m args c K cc own nL) {x y : Int64} (hd : decode cc pc = .ok (.ladd, 1)) {pc1 : Nat} (hp : pc + 1 = pc1) (kk : ix_G p l e R s m args below meth c Q K nL k n pc1 L (.long (x + y) :: S) w) : ix_G p l e R s m args below meth c Q K nL k n pc L (.long y :: .long x :: S) w := by
  subst hp
  exact fun H locs ls hP hz hS hl => lv_ladd X.1 X.2.1 hd (kk H locs ls hP hz hS hl)
theorem ix_lsub (X : ix_X p s m args c K cc own nL) {x y : Int64} (hd : decode cc pc = .ok (.lsub, 1)) {pc1 : Nat} (hp : pc + 1 = pc1) (kk : ix_G p l e R s m args below meth c Q K nL k n pc1 L (.long (x - y) :: S) w) : ix_G p l e R s m args below meth c Q K nL k n pc L (.long y :: .long x :: S) w := by
  subst hp
  exact fun H locs ls hP hz hS hl => lv_lsub X.1 X.2.1 hd (kk H locs ls hP hz hS hl)
theorem ix_lmul (X : ix_X p s m args c K cc own nL) {x y : Int64} (hd : decode cc pc = .ok (.lmul, 1)) {pc1 : Nat} (hp : pc + 1 = pc1) (kk : ix_G p l e R s m args below meth c Q K nL k n pc1 L (.long (x * y) :: S) w) : ix_G p l e R s m args below meth c Q K nL k n pc L (.long y :: .long x :: S) w := by
  subst hp
  exact fun H locs ls hP hz hS hl => lv_lmul X.1 X.2.1 hd (kk H locs ls hP hz hS hl)
theorem ix_land (X : ix_X p s m args c K cc own nL) {x y : Int64} (hd : decode cc pc = .ok (.land, 1)) {pc1 : Nat} (hp : pc + 1 = pc1) (kk : ix_G p l e R s m args below meth c Q K nL k n pc1 L (.long (x &&& y) :: S) w) : ix_G p l e R s m args below meth c Q K nL k n pc L (.long y :: .long x :: S) w := by
  subst hp
  exact fun H locs ls hP hz hS hl => lv_land X.1 X.2.1 hd (kk H locs ls hP hz hS hl)
theorem ix_lor (X : ix_X p s m args c K cc own nL) {x y : Int64} (hd : decode cc pc = .ok (.lor, 1)) {pc1 : Nat} (hp : pc + 1 = pc1) (kk : ix_G p l e R s m args below meth c Q K nL k n pc1 L (.long (x ||| y) :: S) w) : ix_G p l e R s m args below meth c Q K nL k n pc L (.long y :: .long x :: S) w := by
  subst hp
  exact fun H locs ls hP hz hS hl => lv_lor X.1 X.2.1 hd (kk H locs ls hP hz hS hl)
theorem ix_lxor (X : ix_X p s m args c K cc own nL) {x y : Int64} (hd : decode cc pc = .ok (.lxor, 1)) {pc1 : Nat} (hp : pc + 1 = pc1) (kk : ix_G p l e R s m args below meth c Q K nL k n pc1 L (.long (x ^^^ y) :: S) w) : ix_G p l e R s m args below meth c Q K nL k n pc L (.long y :: .long x :: S) w := by
  subst hp
  exact fun H locs ls hP hz hS hl => lv_lxor X.1 X.2.1 hd (kk H locs ls hP hz hS hl)
theorem ix_idiv (X : ix_X p s m args c K cc own nL) {x y : Int32} (hd : decode cc pc = .ok (.idiv, 1)) (hy : ¬ y = 0) {pc1 : Nat} (hp : pc + 1 = pc1) (kk : ix_G p l e R s m args below meth c Q K nL k n pc1 L (.int (x / y) :: S) w) : ix_G p l e R s m args below meth c Q K nL k n pc L (.int y :: .int x :: S) w := by
  subst hp
  exact fun H locs ls hP hz hS hl => lv_idiv X.1 X.2.1 hd hy (kk H locs ls hP hz hS hl)
theorem ix_irem (X : ix_X p s m args c K cc own nL) {x y : Int32} (hd : decode cc pc = .ok (.irem, 1)) (hy : ¬ y = 0) {pc1 : Nat} (hp : pc + 1 = pc1) (kk : ix_G p l e R s m args below meth c Q K nL k n pc1 L (.int (x - x / y * y) :: S) w) : ix_G p l e R s m args below meth c Q K nL k n pc L (.int y :: .int x :: S) w := by
  subst hp
  exact fun H locs ls hP hz hS hl => lv_irem X.1 X.2.1 hd hy (kk H locs ls hP hz hS hl)
theorem ix_ldiv (X : ix_X p s m args c K cc own nL) {x y : Int64} (hd : decode cc pc = .ok (.ldiv, 1)) (hy : ¬ y = 0) {pc1 : Nat} (hp : pc + 1 = pc1) (kk : ix_G p l e R s m args below meth c Q K nL k n pc1 L (.long (x / y) :: S) w) : ix_G p l e R s m args below meth c Q K nL k n pc L (.long y :: .long x :: S) w := by
  subst hp
  exact fun H locs ls hP hz hS hl => lv_ldiv X.1 X.2.1 hd hy (kk H locs ls hP hz hS hl)
theorem ix_ineg (X : ix_X p s m args c K cc own nL) {x : Int32} (hd : decode cc pc = .ok (.ineg, 1)) {pc1 : Nat} (hp : pc + 1 = pc1) (kk : ix_G p l e R s m args below meth c Q K nL k n pc1 L (.int (-x) :: S) w) : ix_G p l e R s m args below meth c Q K nL k n pc L (.int x :: S) w := by
  subst hp
  exact fun H locs ls hP hz hS hl => lv_ineg X.1 X.2.1 hd (kk H locs ls hP hz hS hl)
theorem ix_lneg (X : ix_X p s m args c K cc own nL) {x : Int64} (hd : decode cc pc = .ok (.lneg, 1)) {pc1 : Nat} (hp : pc + 1 = pc1) (kk : ix_G p l e R s m args below meth c Q K nL k n pc1 L (.long (-x) :: S) w) : ix_G p l e R s m args below meth c Q K nL k n pc L (.long x :: S) w := by
  subst hp
  exact fun H locs ls hP hz hS hl => lv_lneg X.1 X.2.1 hd (kk H locs ls hP hz hS hl)
theorem ix_i2l (X : ix_X p s m args c K cc own nL) {x : Int32} (hd : decode cc pc = .ok (.i2l, 1)) {pc1 : Nat} (hp : pc + 1 = pc1) (kk : ix_G p l e R s m args below meth c Q K nL k n pc1 L (.long x.toInt64 :: S) w) : ix_G p l e R s m args below meth c Q K nL k n pc L (.int x :: S) w := by
  subst hp
  exact fun H locs ls hP hz hS hl => lv_i2l X.1 X.2.1 hd rfl (kk H locs ls hP hz hS hl)
theorem ix_l2i (X : ix_X p s m args c K cc own nL) {x : Int64} (hd : decode cc pc = .ok (.l2i, 1)) {pc1 : Nat} (hp : pc + 1 = pc1) (kk : ix_G p l e R s m args below meth c Q K nL k n pc1 L (.int x.toInt32 :: S) w) : ix_G p l e R s m args below meth c Q K nL k n pc L (.long x :: S) w := by
  subst hp
  exact fun H locs ls hP hz hS hl => lv_l2i X.1 X.2.1 hd rfl (kk H locs ls hP hz hS hl)
theorem ix_i2b (X : ix_X p s m args c K cc own nL) {x : Int32} (hd : decode cc pc = .ok (.i2b, 1)) {pc1 : Nat} (hp : pc + 1 = pc1) (kk : ix_G p l e R s m args below meth c Q K nL k n pc1 L (.int x.toInt8.toInt32 :: S) w) : ix_G p l e R s m args below meth c Q K nL k n pc L (.int x :: S) w := by
  subst hp
  exact fun H locs ls hP hz hS hl => lv_i2b X.1 X.2.1 hd rfl (kk H locs ls hP hz hS hl)
theorem ix_i2c (X : ix_X p s m args c K cc own nL) {x : Int32} (hd : decode cc pc = .ok (.i2c, 1)) {pc1 : Nat} (hp : pc + 1 = pc1) (kk : ix_G p l e R s m args below meth c Q K nL k n pc1 L (.int (x.toUInt32 % 65536).toInt32 :: S) w) : ix_G p l e R s m args below meth c Q K nL k n pc L (.int x :: S) w := by
  subst hp
  exact fun H locs ls hP hz hS hl => lv_i2c X.1 X.2.1 hd rfl (kk H locs ls hP hz hS hl)
theorem ix_lshl (X : ix_X p s m args c K cc own nL) {x : Int64} {y : Int32} (hd : decode cc pc = .ok (.lshl, 1)) {pc1 : Nat} (hp : pc + 1 = pc1) (kk : ix_G p l e R s m args below meth c Q K nL k n pc1 L (.long (x <<< (y.toInt64 &&& 63)) :: S) w) : ix_G p l e R s m args below meth c Q K nL k n pc L (.int y :: .long x :: S) w := by
  subst hp
  exact fun H locs ls hP hz hS hl => lv_lshl X.1 X.2.1 hd rfl (kk H locs ls hP hz hS hl)
theorem ix_lshr (X : ix_X p s m args c K cc own nL) {x : Int64} {y : Int32} (hd : decode cc pc = .ok (.lshr, 1)) {pc1 : Nat} (hp : pc + 1 = pc1) (kk : ix_G p l e R s m args below meth c Q K nL k n pc1 L (.long (x >>> (y.toInt64 &&& 63)) :: S) w) : ix_G p l e R s m args below meth c Q K nL k n pc L (.int y :: .long x :: S) w := by
  subst hp
  exact fun H locs ls hP hz hS hl => lv_lshr X.1 X.2.1 hd rfl (kk H locs ls hP hz hS hl)
theorem ix_lushr (X : ix_X p s m args c K cc own nL) {x : Int64} {y : Int32} (hd : decode cc pc = .ok (.lushr, 1)) {pc1 : Nat} (hp : pc + 1 = pc1) (kk : ix_G p l e R s m args below meth c Q K nL k n pc1 L (.long (x.toUInt64 >>> (y.toInt64.toUInt64 &&& Int64.toUInt64 63)).toInt64 :: S) w) : ix_G p l e R s m args below meth c Q K nL k n pc L (.int y :: .long x :: S) w := by
  subst hp
  exact fun H locs ls hP hz hS hl => lv_lushr X.1 X.2.1 hd rfl (kk H locs ls hP hz hS hl)
theorem ix_iushr (X : ix_X p s m args c K cc own nL) {x y : Int32} (hd : decode cc pc = .ok (.iushr, 1)) {pc1 : Nat} (hp : pc + 1 = pc1) (kk : ix_G p l e R s m args below meth c Q K nL k n pc1 L (.int (x.toUInt32 >>> (y.toUInt32 &&& Int32.toUInt32 31)).toInt32 :: S) w) : ix_G p l e R s m args below meth c Q K nL k n pc L (.int y :: .int x :: S) w := by
  subst hp
  exact fun H locs ls hP hz hS hl => lv_iushr X.1 X.2.1 hd rfl (kk H locs ls hP hz hS hl)
theorem ix_lcmp (X : ix_X p s m args c K cc own nL) {x y : Int64} (hd : decode cc pc = .ok (.lcmp, 1)) {pc1 : Nat} (hp : pc + 1 = pc1) (kk : ix_G p l e R s m args below meth c Q K nL k n pc1 L (.int (lg_cmp x y) :: S) w) : ix_G p l e R s m args below meth c Q K nL k n pc L (.long y :: .long x :: S) w := by
  subst hp
  exact fun H locs ls hP hz hS hl => W.lcmp X.1 X.2.1 hd (kk H locs ls hP hz hS hl)
theorem ix_dup (X : ix_X p s m args c K cc own nL) {v : Value} (hd : decode cc pc = .ok (.dup, 1)) (hv : v.category = 1) {pc1 : Nat} (hp : pc + 1 = pc1) (kk : ix_G p l e R s m args below meth c Q K nL k n pc1 L (v :: v :: S) w) : ix_G p l e R s m args below meth c Q K nL k n pc L (v :: S) w := by
  subst hp
  exact fun H locs ls hP hz hS hl => lv_dup X.1 X.2.1 hd hv (kk H locs ls hP hz hS hl)
theorem ix_pop (X : ix_X p s m args c K cc own nL) {v : Value} (hd : decode cc pc = .ok (.pop, 1)) (hv : v.category = 1) {pc1 : Nat} (hp : pc + 1 = pc1) (kk : ix_G p l e R s m args below meth c Q K nL k n pc1 L (S) w) : ix_G p l e R s m args below meth c Q K nL k n pc L (v :: S) w := by
  subst hp
  exact fun H locs ls hP hz hS hl => lv_pop X.1 X.2.1 hd hv (kk H locs ls hP hz hS hl)
theorem ix_dup2 (X : ix_X p s m args c K cc own nL) {u v : Value} (hd : decode cc pc = .ok (.dup2, 1)) (hu : u.category = 1) (hv : v.category = 1) {pc1 : Nat} (hp : pc + 1 = pc1) (kk : ix_G p l e R s m args below meth c Q K nL k n pc1 L (u :: v :: u :: v :: S) w) : ix_G p l e R s m args below meth c Q K nL k n pc L (u :: v :: S) w := by
  subst hp
  exact fun H locs ls hP hz hS hl => lv_dup2_11 X.1 X.2.1 hd hu hv (kk H locs ls hP hz hS hl)
theorem ix_null (X : ix_X p s m args c K cc own nL) (hd : decode cc pc = .ok (.aconst_null, 1)) {pc1 : Nat} (hp : pc + 1 = pc1) (kk : ix_G p l e R s m args below meth c Q K nL k n pc1 L (.null :: S) w) : ix_G p l e R s m args below meth c Q K nL k n pc L (S) w := by
  subst hp
  exact fun H locs ls hP hz hS hl => lv_null X.1 X.2.1 hd (kk H locs ls hP hz hS hl)
theorem ix_ldc (X : ix_X p s m args c K cc own nL) {i pl : Nat} {v : Int32} (hd : decode cc pc = .ok (.ldc i, 2)) (hw : tables_1[pl]? = some (Cond.constant own i v)) {pc1 : Nat} (hp : pc + 2 = pc1) (kk : ix_G p l e R s m args below meth c Q K nL k n pc1 L (.int v :: S) w) : ix_G p l e R s m args below meth c Q K nL k n pc L S w := by
  subst hp
  exact fun H locs ls hP hz hS hl => lv_ldc X.1 X.2.1 X.2.2.2.1 (X.2.2.2.2.1 _ (ix_tbm (ix_wm hw) rfl)) hd (kk H locs ls hP hz hS hl)
theorem ix_ldcw (X : ix_X p s m args c K cc own nL) {i pl : Nat} {v : Int32} (hd : decode cc pc = .ok (.ldc_w i, 3)) (hw : tables_1[pl]? = some (Cond.constant own i v)) {pc1 : Nat} (hp : pc + 3 = pc1) (kk : ix_G p l e R s m args below meth c Q K nL k n pc1 L (.int v :: S) w) : ix_G p l e R s m args below meth c Q K nL k n pc L S w := by
  subst hp
  exact fun H locs ls hP hz hS hl => lv_ldcw X.1 X.2.1 X.2.2.2.1 (X.2.2.2.2.1 _ (ix_tbm (ix_wm hw) rfl)) hd (kk H locs ls hP hz hS hl)
theorem ix_ldc2 (X : ix_X p s m args c K cc own nL) {i pl : Nat} {v : Int64} (hd : decode cc pc = .ok (.ldc2_w i, 3)) (hw : tables_1[pl]? = some (Cond.constantLong own i v)) {pc1 : Nat} (hp : pc + 3 = pc1) (kk : ix_G p l e R s m args below meth c Q K nL k n pc1 L (.long v :: S) w) : ix_G p l e R s m args below meth c Q K nL k n pc L S w := by
  subst hp
  exact fun H locs ls hP hz hS hl => lv_ldc2 X.1 X.2.1 X.2.2.2.1 (X.2.2.2.2.1 _ (ix_tbm (ix_wm hw) rfl)) hd (kk H locs ls hP hz hS hl)
theorem ix_if_eq (X : ix_X p s m args c K cc own nL) {x : Int32} {off : Int} {tgt : Nat} (hd : decode cc pc = .ok (.ifCond .eq off, 3)) (ht : (pc : Int) + off = (tgt : Int)) {pc1 : Nat} (hp : pc + 3 = pc1) (kt : x = 0 → ix_G p l e R s m args below meth c Q K nL k n tgt L S w) (kf : ¬ x = 0 → ix_G p l e R s m args below meth c Q K nL k n pc1 L S w) : ix_G p l e R s m args below meth c Q K nL k n pc L (.int x :: S) w := by
  subst hp
  exact fun H locs ls hP hz hS hl => lv_if_eq X.1 X.2.1 hd ht (fun h => kt h H locs ls hP hz hS hl) (fun h => kf h H locs ls hP hz hS hl)
theorem ix_if_ne (X : ix_X p s m args c K cc own nL) {x : Int32} {off : Int} {tgt : Nat} (hd : decode cc pc = .ok (.ifCond .ne off, 3)) (ht : (pc : Int) + off = (tgt : Int)) {pc1 : Nat} (hp : pc + 3 = pc1) (kt : ¬ x = 0 → ix_G p l e R s m args below meth c Q K nL k n tgt L S w) (kf : x = 0 → ix_G p l e R s m args below meth c Q K nL k n pc1 L S w) : ix_G p l e R s m args below meth c Q K nL k n pc L (.int x :: S) w := by
  subst hp
  exact fun H locs ls hP hz hS hl => lv_if_ne X.1 X.2.1 hd ht (fun h => kt h H locs ls hP hz hS hl) (fun h => kf h H locs ls hP hz hS hl)
theorem ix_if_lt (X : ix_X p s m args c K cc own nL) {x : Int32} {off : Int} {tgt : Nat} (hd : decode cc pc = .ok (.ifCond .lt off, 3)) (ht : (pc : Int) + off = (tgt : Int)) {pc1 : Nat} (hp : pc + 3 = pc1) (kt : x < 0 → ix_G p l e R s m args below meth c Q K nL k n tgt L S w) (kf : ¬ x < 0 → ix_G p l e R s m args below meth c Q K nL k n pc1 L S w) : ix_G p l e R s m args below meth c Q K nL k n pc L (.int x :: S) w := by
  subst hp
  exact fun H locs ls hP hz hS hl => lv_if_lt X.1 X.2.1 hd ht (fun h => kt h H locs ls hP hz hS hl) (fun h => kf h H locs ls hP hz hS hl)
theorem ix_if_ge (X : ix_X p s m args c K cc own nL) {x : Int32} {off : Int} {tgt : Nat} (hd : decode cc pc = .ok (.ifCond .ge off, 3)) (ht : (pc : Int) + off = (tgt : Int)) {pc1 : Nat} (hp : pc + 3 = pc1) (kt : 0 ≤ x → ix_G p l e R s m args below meth c Q K nL k n tgt L S w) (kf : ¬ 0 ≤ x → ix_G p l e R s m args below meth c Q K nL k n pc1 L S w) : ix_G p l e R s m args below meth c Q K nL k n pc L (.int x :: S) w := by
  subst hp
  exact fun H locs ls hP hz hS hl => lv_if_ge X.1 X.2.1 hd ht (fun h => kt h H locs ls hP hz hS hl) (fun h => kf h H locs ls hP hz hS hl)
theorem ix_if_gt (X : ix_X p s m args c K cc own nL) {x : Int32} {off : Int} {tgt : Nat} (hd : decode cc pc = .ok (.ifCond .gt off, 3)) (ht : (pc : Int) + off = (tgt : Int)) {pc1 : Nat} (hp : pc + 3 = pc1) (kt : 0 < x → ix_G p l e R s m args below meth c Q K nL k n tgt L S w) (kf : ¬ 0 < x → ix_G p l e R s m args below meth c Q K nL k n pc1 L S w) : ix_G p l e R s m args below meth c Q K nL k n pc L (.int x :: S) w := by
  subst hp
  exact fun H locs ls hP hz hS hl => lv_if_gt X.1 X.2.1 hd ht (fun h => kt h H locs ls hP hz hS hl) (fun h => kf h H locs ls hP hz hS hl)
theorem ix_if_le (X : ix_X p s m args c K cc own nL) {x : Int32} {off : Int} {tgt : Nat} (hd : decode cc pc = .ok (.ifCond .le off, 3)) (ht : (pc : Int) + off = (tgt : Int)) {pc1 : Nat} (hp : pc + 3 = pc1) (kt : x ≤ 0 → ix_G p l e R s m args below meth c Q K nL k n tgt L S w) (kf : ¬ x ≤ 0 → ix_G p l e R s m args below meth c Q K nL k n pc1 L S w) : ix_G p l e R s m args below meth c Q K nL k n pc L (.int x :: S) w := by
  subst hp
  exact fun H locs ls hP hz hS hl => lv_if_le X.1 X.2.1 hd ht (fun h => kt h H locs ls hP hz hS hl) (fun h => kf h H locs ls hP hz hS hl)
theorem ix_icmp_eq (X : ix_X p s m args c K cc own nL) {x y : Int32} {off : Int} {tgt : Nat} (hd : decode cc pc = .ok (.if_icmp .eq off, 3)) (ht : (pc : Int) + off = (tgt : Int)) {pc1 : Nat} (hp : pc + 3 = pc1) (kt : x = y → ix_G p l e R s m args below meth c Q K nL k n tgt L S w) (kf : ¬ x = y → ix_G p l e R s m args below meth c Q K nL k n pc1 L S w) : ix_G p l e R s m args below meth c Q K nL k n pc L (.int y :: .int x :: S) w := by
  subst hp
  exact fun H locs ls hP hz hS hl => lv_icmp_eq X.1 X.2.1 hd ht (fun h => kt h H locs ls hP hz hS hl) (fun h => kf h H locs ls hP hz hS hl)
theorem ix_icmp_ne (X : ix_X p s m args c K cc own nL) {x y : Int32} {off : Int} {tgt : Nat} (hd : decode cc pc = .ok (.if_icmp .ne off, 3)) (ht : (pc : Int) + off = (tgt : Int)) {pc1 : Nat} (hp : pc + 3 = pc1) (kt : ¬ x = y → ix_G p l e R s m args below meth c Q K nL k n tgt L S w) (kf : x = y → ix_G p l e R s m args below meth c Q K nL k n pc1 L S w) : ix_G p l e R s m args below meth c Q K nL k n pc L (.int y :: .int x :: S) w := by
  subst hp
  exact fun H locs ls hP hz hS hl => lv_icmp_ne X.1 X.2.1 hd ht (fun h => kt h H locs ls hP hz hS hl) (fun h => kf h H locs ls hP hz hS hl)
theorem ix_icmp_lt (X : ix_X p s m args c K cc own nL) {x y : Int32} {off : Int} {tgt : Nat} (hd : decode cc pc = .ok (.if_icmp .lt off, 3)) (ht : (pc : Int) + off = (tgt : Int)) {pc1 : Nat} (hp : pc + 3 = pc1) (kt : x < y → ix_G p l e R s m args below meth c Q K nL k n tgt L S w) (kf : ¬ x < y → ix_G p l e R s m args below meth c Q K nL k n pc1 L S w) : ix_G p l e R s m args below meth c Q K nL k n pc L (.int y :: .int x :: S) w := by
  subst hp
  exact fun H locs ls hP hz hS hl => lv_icmp_lt X.1 X.2.1 hd ht (fun h => kt h H locs ls hP hz hS hl) (fun h => kf h H locs ls hP hz hS hl)
theorem ix_icmp_ge (X : ix_X p s m args c K cc own nL) {x y : Int32} {off : Int} {tgt : Nat} (hd : decode cc pc = .ok (.if_icmp .ge off, 3)) (ht : (pc : Int) + off = (tgt : Int)) {pc1 : Nat} (hp : pc + 3 = pc1) (kt : y ≤ x → ix_G p l e R s m args below meth c Q K nL k n tgt L S w) (kf : ¬ y ≤ x → ix_G p l e R s m args below meth c Q K nL k n pc1 L S w) : ix_G p l e R s m args below meth c Q K nL k n pc L (.int y :: .int x :: S) w := by
  subst hp
  exact fun H locs ls hP hz hS hl => lv_icmp_ge X.1 X.2.1 hd ht (fun h => kt h H locs ls hP hz hS hl) (fun h => kf h H locs ls hP hz hS hl)
theorem ix_icmp_gt (X : ix_X p s m args c K cc own nL) {x y : Int32} {off : Int} {tgt : Nat} (hd : decode cc pc = .ok (.if_icmp .gt off, 3)) (ht : (pc : Int) + off = (tgt : Int)) {pc1 : Nat} (hp : pc + 3 = pc1) (kt : y < x → ix_G p l e R s m args below meth c Q K nL k n tgt L S w) (kf : ¬ y < x → ix_G p l e R s m args below meth c Q K nL k n pc1 L S w) : ix_G p l e R s m args below meth c Q K nL k n pc L (.int y :: .int x :: S) w := by
  subst hp
  exact fun H locs ls hP hz hS hl => lv_icmp_gt X.1 X.2.1 hd ht (fun h => kt h H locs ls hP hz hS hl) (fun h => kf h H locs ls hP hz hS hl)
theorem ix_icmp_le (X : ix_X p s m args c K cc own nL) {x y : Int32} {off : Int} {tgt : Nat} (hd : decode cc pc = .ok (.if_icmp .le off, 3)) (ht : (pc : Int) + off = (tgt : Int)) {pc1 : Nat} (hp : pc + 3 = pc1) (kt : x ≤ y → ix_G p l e R s m args below meth c Q K nL k n tgt L S w) (kf : ¬ x ≤ y → ix_G p l e R s m args below meth c Q K nL k n pc1 L S w) : ix_G p l e R s m args below meth c Q K nL k n pc L (.int y :: .int x :: S) w := by
  subst hp
  exact fun H locs ls hP hz hS hl => lv_icmp_le X.1 X.2.1 hd ht (fun h => kt h H locs ls hP hz hS hl) (fun h => kf h H locs ls hP hz hS hl)
theorem ix_goto (X : ix_X p s m args c K cc own nL) {off : Int} {tgt : Nat} (hd : decode cc pc = .ok (.goto off, 3)) (ht : (pc : Int) + off = (tgt : Int)) (kk : ix_G p l e R s m args below meth c Q K nL k n tgt L S w) : ix_G p l e R s m args below meth c Q K nL k n pc L S w :=
  fun H locs ls hP hz hS hl => lv_goto X.1 X.2.1 hd ht (kk H locs ls hP hz hS hl)
theorem ix_swin (X : ix_X p s m args c K cc own nL) {dflt lo hi off : Int} {offs : Array Int} {len tgt : Nat} {x : Int32} (hd : decode cc pc = .ok (.tableswitch dflt lo hi offs, len)) (h1 : ¬ x.toInt < lo) (h2 : ¬ hi < x.toInt) (ho : offs[(x.toInt - lo).toNat]? = some off) (ht : (pc : Int) + off = (tgt : Int)) (kk : ix_G p l e R s m args below meth c Q K nL k n tgt L S w) : ix_G p l e R s m args below meth c Q K nL k n pc L (.int x :: S) w :=
  fun H locs ls hP hz hS hl => lv_tableIn X.1 X.2.1 hd h1 h2 ho ht (kk H locs ls hP hz hS hl)
theorem ix_swout (X : ix_X p s m args c K cc own nL) {dflt lo hi : Int} {offs : Array Int} {len tgt : Nat} {x : Int32} (hd : decode cc pc = .ok (.tableswitch dflt lo hi offs, len)) (h : x.toInt < lo ∨ hi < x.toInt) (ht : (pc : Int) + dflt = (tgt : Int)) (kk : ix_G p l e R s m args below meth c Q K nL k n tgt L S w) : ix_G p l e R s m args below meth c Q K nL k n pc L (.int x :: S) w :=
  fun H locs ls hP hz hS hl => lv_tableOut X.1 X.2.1 hd h ht (kk H locs ls hP hz hS hl)
theorem ix_ifnull (X : ix_X p s m args c K cc own nL) {x : Nat} {off : Int} (hd : decode cc pc = .ok (.ifnull off, 3)) {pc1 : Nat} (hp : pc + 3 = pc1) (kk : ix_G p l e R s m args below meth c Q K nL k n pc1 L S w) : ix_G p l e R s m args below meth c Q K nL k n pc L (.ref x :: S) w := by
  subst hp
  exact fun H locs ls hP hz hS hl => lv_ifnull X.1 X.2.1 hd (kk H locs ls hP hz hS hl)
theorem ix_ifnullN (X : ix_X p s m args c K cc own nL) {off : Int} {tgt : Nat} (hd : decode cc pc = .ok (.ifnull off, 3)) (ht : (pc : Int) + off = (tgt : Int)) (kk : ix_G p l e R s m args below meth c Q K nL k n tgt L S w) : ix_G p l e R s m args below meth c Q K nL k n pc L (.null :: S) w :=
  fun H locs ls hP hz hS hl => lv_ifnullN X.1 X.2.1 hd ht (kk H locs ls hP hz hS hl)
theorem ix_ifnonnull (X : ix_X p s m args c K cc own nL) {x : Nat} {off : Int} {tgt : Nat} (hd : decode cc pc = .ok (.ifnonnull off, 3)) (ht : (pc : Int) + off = (tgt : Int)) (kk : ix_G p l e R s m args below meth c Q K nL k n tgt L S w) : ix_G p l e R s m args below meth c Q K nL k n pc L (.ref x :: S) w :=
  fun H locs ls hP hz hS hl => lv_ifnonnull X.1 X.2.1 hd ht (kk H locs ls hP hz hS hl)
theorem ix_ifnonnullN (X : ix_X p s m args c K cc own nL) {off : Int} (hd : decode cc pc = .ok (.ifnonnull off, 3)) {pc1 : Nat} (hp : pc + 3 = pc1) (kk : ix_G p l e R s m args below meth c Q K nL k n pc1 L S w) : ix_G p l e R s m args below meth c Q K nL k n pc L (.null :: S) w := by
  subst hp
  exact fun H locs ls hP hz hS hl => lv_ifnonnullN X.1 X.2.1 hd (kk H locs ls hP hz hS hl)
theorem ix_aI {a t : Nat} (ha : a < ix_N w) (ht : (ix_T w a).1 = t) (h1 : 20 ≤ t) (h2 : t < 23) : (ix_ws K w)[a]? = some (K.2.2.1 + a, .inl (K.2.1 (t - 20), ((ix_T w a).2, .inl (w.1 a)))) := by
  rw [ix_at ha, ix_ei (t := t) (n := (ix_T w a).2) (by rw [← ht]) h1]
  simp only [ix_c]
  rw [if_neg (by omega), if_pos h2]
theorem ix_aJ {a : Nat} (ha : a < ix_N w) (ht : (ix_T w a).1 = 23) : (ix_ws K w)[a]? = some (K.2.2.1 + a, .inl (K.2.1 3, ((ix_T w a).2, .inr (.inl (w.2.1 a))))) := by
  rw [ix_at ha, ix_ei (t := 23) (n := (ix_T w a).2) (by rw [← ht]) (by decide)]
  rfl
theorem ix_aR {a t : Nat} (ha : a < ix_N w) (ht : (ix_T w a).1 = t) (h1 : 24 ≤ t) : (ix_ws K w)[a]? = some (K.2.2.1 + a, .inl (K.2.1 (t - 20), ((ix_T w a).2, .inr (.inr (.inr (.inr (fun i => (w.2.2.1 a i).map (fun a => K.2.2.1 + a)))))))) := by
  rw [ix_at ha, ix_ei (t := t) (n := (ix_T w a).2) (by rw [← ht]) (by omega)]
  simp only [ix_c]
  rw [if_neg (by omega), if_neg (by omega)]
theorem ix_iald (X : ix_X p s m args c K cc own nL) {a : Nat} {i : Int32} (ha : a < ix_N w) (ht : (ix_T w a).1 = 20) (hi : vp_in i (ix_T w a).2) (hd : decode cc pc = .ok (.iaload, 1)) {pc1 : Nat} (hp : pc + 1 = pc1) (kk : ix_G p l e R s m args below meth c Q K nL k n pc1 L (.int (w.1 a i.toNatClampNeg) :: S) w) : ix_G p l e R s m args below meth c Q K nL k n pc L (.int i :: .ref (K.2.2.1 + a) :: S) w := by
  subst hp
  exact fun H locs ls hP hz hS hl => va_iald X.1 X.2.1 X.2.2.2.2.2.1.1 hP a 0 (ix_aI ha ht (by decide) (by decide)) rfl hi hd (kk H locs ls hP hz hS hl)
theorem ix_bald (X : ix_X p s m args c K cc own nL) {a : Nat} {i : Int32} (ha : a < ix_N w) (ht : (ix_T w a).1 = 21) (hi : vp_in i (ix_T w a).2) (hd : decode cc pc = .ok (.baload, 1)) {pc1 : Nat} (hp : pc + 1 = pc1) (kk : ix_G p l e R s m args below meth c Q K nL k n pc1 L (.int (w.1 a i.toNatClampNeg) :: S) w) : ix_G p l e R s m args below meth c Q K nL k n pc L (.int i :: .ref (K.2.2.1 + a) :: S) w := by
  subst hp
  exact fun H locs ls hP hz hS hl => va_bald X.1 X.2.1 X.2.2.2.2.2.1.1 hP a 1 (ix_aI ha ht (by decide) (by decide)) rfl hi hd (kk H locs ls hP hz hS hl)
theorem ix_zald (X : ix_X p s m args c K cc own nL) {a : Nat} {i : Int32} (ha : a < ix_N w) (ht : (ix_T w a).1 = 22) (hi : vp_in i (ix_T w a).2) (hd : decode cc pc = .ok (.baload, 1)) {pc1 : Nat} (hp : pc + 1 = pc1) (kk : ix_G p l e R s m args below meth c Q K nL k n pc1 L (.int (w.1 a i.toNatClampNeg) :: S) w) : ix_G p l e R s m args below meth c Q K nL k n pc L (.int i :: .ref (K.2.2.1 + a) :: S) w := by
  subst hp
  exact fun H locs ls hP hz hS hl => va_zald X.1 X.2.1 X.2.2.2.2.2.1.1 hP a 2 (ix_aI ha ht (by decide) (by decide)) rfl hi hd (kk H locs ls hP hz hS hl)
theorem ix_lald (X : ix_X p s m args c K cc own nL) {a : Nat} {i : Int32} (ha : a < ix_N w) (ht : (ix_T w a).1 = 23) (hi : vp_in i (ix_T w a).2) (hd : decode cc pc = .ok (.laload, 1)) {pc1 : Nat} (hp : pc + 1 = pc1) (kk : ix_G p l e R s m args below meth c Q K nL k n pc1 L (.long (w.2.1 a i.toNatClampNeg) :: S) w) : ix_G p l e R s m args below meth c Q K nL k n pc L (.int i :: .ref (K.2.2.1 + a) :: S) w := by
  subst hp
  exact fun H locs ls hP hz hS hl => va_lald X.1 X.2.1 X.2.2.2.2.2.1.1 hP a 3 (ix_aJ ha ht) rfl hi hd (kk H locs ls hP hz hS hl)
theorem ix_iset {a t j : Nat} {x : Int32} (ha : a < ix_N w) (ht : (ix_T w a).1 = t) (h1 : 20 ≤ t) (h2 : t < 23) : (ix_ws K w).set a (K.2.2.1 + a, .inl (K.2.1 (t - 20), ((ix_T w a).2, .inl (upd (w.1 a) j x)))) = ix_ws K (ix_sI w a j x) := by
  have hE : ∀ b, b ≠ a → ix_e K (ix_sI w a j x) b = ix_e K w b := fun b hb => ix_e_congr (ix_up_ne hb) rfl rfl rfl
  rw [← ix_set (w' := ix_sI w a j x) ha rfl hE, ix_ei (w := ix_sI w a j x) (t := t) (n := (ix_T w a).2) (by rw [← ht]; rfl) h1]
  simp only [ix_c]
  rw [if_neg (by omega), if_pos h2]
  congr 6
  funext j'
  by_cases h : j' = j
  · subst h
    simp [upd, ix_sI, ix_up]
  · simp [upd, ix_sI, ix_up, h]
theorem ix_jset {a j : Nat} {x : Int64} (ha : a < ix_N w) (ht : (ix_T w a).1 = 23) : (ix_ws K w).set a (K.2.2.1 + a, .inl (K.2.1 3, ((ix_T w a).2, .inr (.inl (vp_updL (w.2.1 a) j x))))) = ix_ws K (ix_sJ w a j x) := by
  have hE : ∀ b, b ≠ a → ix_e K (ix_sJ w a j x) b = ix_e K w b := fun b hb => ix_e_congr rfl (ix_up_ne hb) rfl rfl
  rw [← ix_set (w' := ix_sJ w a j x) ha rfl hE, ix_ei (w := ix_sJ w a j x) (t := 23) (n := (ix_T w a).2) (by rw [← ht]; rfl) (by decide)]
  have h2 : vp_updL (w.2.1 a) j x = (ix_sJ w a j x).2.1 a := by
    funext j'
    by_cases h : j' = j
    · subst h
      simp [vp_updL, ix_sJ, ix_up]
    · simp [vp_updL, ix_sJ, ix_up, h]
  rw [h2]
  rfl
theorem ix_iast (X : ix_X p s m args c K cc own nL) {a : Nat} {i x : Int32} {w1 : ix_W} (ha : a < ix_N w) (ht : (ix_T w a).1 = 20) (hi : vp_in i (ix_T w a).2) (hd : decode cc pc = .ok (.iastore, 1)) (hw : ix_sI w a i.toNatClampNeg (x) = w1) {pc1 : Nat} (hp : pc + 1 = pc1) (kk : ix_G p l e R s m args below meth c Q K nL k n pc1 L S w1) : ix_G p l e R s m args below meth c Q K nL k n pc L (.int x :: .int i :: .ref (K.2.2.1 + a) :: S) w := by
  subst hp
  subst hw
  intro H locs ls hP hz hS hl
  have hA := ix_aI (K := K) ha ht (by decide) (by decide)
  refine W.iast X.1 X.2.1 (hP a _ hA) ((X.2.2.2.2.2.1.1.2 0 _ rfl).1 _ (fun j => .int (w.1 a j))) (fun q => by cases q) (by show ¬ (i < 0 ∨ (arrV _ _ _).slots.size ≤ _); rw [arrV_size]; exact hi) rfl rfl hd fun H1 e1 z oq => ?_
  refine kk H1 _ ls ?_ (z.trans hz) (hS.put z oq (Nat.le_add_right _ _)) hl
  rw [← ix_iset ha ht (by decide) (by decide)]
  refine hP.set ix_D hA ?_ oq
  show H1[K.2.2.1 + a]? = some (vp_cell _ _)
  rw [e1, vp_cell_i, vp_cell_i, arrV_store]
  congr 2
  funext q
  by_cases hq : q = i.toNatClampNeg
  · subst hq
    simp [updV, upd, vp_nar, narrow]
  · simp [updV, upd, hq]
theorem ix_bast (X : ix_X p s m args c K cc own nL) {a : Nat} {i x : Int32} {w1 : ix_W} (ha : a < ix_N w) (ht : (ix_T w a).1 = 21) (hi : vp_in i (ix_T w a).2) (hd : decode cc pc = .ok (.bastore, 1)) (hw : ix_sI w a i.toNatClampNeg (vp_nar .byte x) = w1) {pc1 : Nat} (hp : pc + 1 = pc1) (kk : ix_G p l e R s m args below meth c Q K nL k n pc1 L S w1) : ix_G p l e R s m args below meth c Q K nL k n pc L (.int x :: .int i :: .ref (K.2.2.1 + a) :: S) w := by
  subst hp
  subst hw
  intro H locs ls hP hz hS hl
  have hA := ix_aI (K := K) ha ht (by decide) (by decide)
  refine W.bast X.1 X.2.1 (hP a _ hA) ((X.2.2.2.2.2.1.1.2 1 _ rfl).1 _ (fun j => .int (w.1 a j))) (fun q => by cases q) (by show ¬ (i < 0 ∨ (arrV _ _ _).slots.size ≤ _); rw [arrV_size]; exact hi) rfl rfl hd fun H1 e1 z oq => ?_
  refine kk H1 _ ls ?_ (z.trans hz) (hS.put z oq (Nat.le_add_right _ _)) hl
  rw [← ix_iset ha ht (by decide) (by decide)]
  refine hP.set ix_D hA ?_ oq
  show H1[K.2.2.1 + a]? = some (vp_cell _ _)
  rw [e1, vp_cell_i, vp_cell_i, arrV_store]
  congr 2
  funext q
  by_cases hq : q = i.toNatClampNeg
  · subst hq
    simp [updV, upd, vp_nar, narrow]
  · simp [updV, upd, hq]
theorem ix_zast (X : ix_X p s m args c K cc own nL) {a : Nat} {i x : Int32} {w1 : ix_W} (ha : a < ix_N w) (ht : (ix_T w a).1 = 22) (hi : vp_in i (ix_T w a).2) (hd : decode cc pc = .ok (.bastore, 1)) (hw : ix_sI w a i.toNatClampNeg (vp_nar .boolean x) = w1) {pc1 : Nat} (hp : pc + 1 = pc1) (kk : ix_G p l e R s m args below meth c Q K nL k n pc1 L S w1) : ix_G p l e R s m args below meth c Q K nL k n pc L (.int x :: .int i :: .ref (K.2.2.1 + a) :: S) w := by
  subst hp
  subst hw
  intro H locs ls hP hz hS hl
  have hA := ix_aI (K := K) ha ht (by decide) (by decide)
  refine W.zast X.1 X.2.1 (hP a _ hA) ((X.2.2.2.2.2.1.1.2 2 _ rfl).1 _ (fun j => .int (w.1 a j))) (fun q => by cases q) (by show ¬ (i < 0 ∨ (arrV _ _ _).slots.size ≤ _); rw [arrV_size]; exact hi) rfl rfl hd fun H1 e1 z oq => ?_
  refine kk H1 _ ls ?_ (z.trans hz) (hS.put z oq (Nat.le_add_right _ _)) hl
  rw [← ix_iset ha ht (by decide) (by decide)]
  refine hP.set ix_D hA ?_ oq
  show H1[K.2.2.1 + a]? = some (vp_cell _ _)
  rw [e1, vp_cell_i, vp_cell_i, arrV_store]
  congr 2
  funext q
  by_cases hq : q = i.toNatClampNeg
  · subst hq
    simp [updV, upd, vp_nar, narrow]
  · simp [updV, upd, hq]
theorem ix_last (X : ix_X p s m args c K cc own nL) {a : Nat} {i : Int32} {x : Int64} {w1 : ix_W} (ha : a < ix_N w) (ht : (ix_T w a).1 = 23) (hi : vp_in i (ix_T w a).2) (hd : decode cc pc = .ok (.lastore, 1)) (hw : ix_sJ w a i.toNatClampNeg x = w1) {pc1 : Nat} (hp : pc + 1 = pc1) (kk : ix_G p l e R s m args below meth c Q K nL k n pc1 L S w1) : ix_G p l e R s m args below meth c Q K nL k n pc L (.long x :: .int i :: .ref (K.2.2.1 + a) :: S) w := by
  subst hp
  subst hw
  intro H locs ls hP hz hS hl
  have hA := ix_aJ (K := K) ha ht
  refine W.last X.1 X.2.1 (hP a _ hA) ((X.2.2.2.2.2.1.1.2 3 _ rfl).1 _ (fun j => .long (w.2.1 a j))) (fun q => by cases q) (by show ¬ (i < 0 ∨ (arrV _ _ _).slots.size ≤ _); rw [arrV_size]; exact hi) rfl rfl hd fun H1 e1 z oq => ?_
  refine kk H1 _ ls ?_ (z.trans hz) (hS.put z oq (Nat.le_add_right _ _)) hl
  rw [← ix_jset ha ht]
  refine hP.set ix_D hA ?_ oq
  show H1[K.2.2.1 + a]? = some (vp_cell _ _)
  rw [e1, vp_cell_l, vp_cell_l, arrV_store]
  congr 2
  funext q
  by_cases hq : q = i.toNatClampNeg
  · subst hq
    simp [updV, vp_updL]
  · simp [updV, vp_updL, hq]
theorem ix_alen (X : ix_X p s m args c K cc own nL) {a t n0 : Nat} (ha : a < ix_N w) (ht : ix_T w a = (t, n0)) (h1 : 20 ≤ t) (h2 : t < 26) (hd : decode cc pc = .ok (.arraylength, 1)) {pc1 : Nat} (hp : pc + 1 = pc1) (kk : ix_G p l e R s m args below meth c Q K nL k n pc1 L (.int (nI n0) :: S) w) : ix_G p l e R s m args below meth c Q K nL k n pc L (.ref (K.2.2.1 + a) :: S) w := by
  subst hp
  intro H locs ls hP hz hS hl
  have hh : (ix_tys K)[t - 20]? = some (K.2.1 (t - 20), ((ix_tys K).getD (t - 20) (0, .int)).2) := by
    rcases (show t = 20 ∨ t = 21 ∨ t = 22 ∨ t = 23 ∨ t = 24 ∨ t = 25 by omega) with rfl | rfl | rfl | rfl | rfl | rfl <;> rfl
  refine va_alen X.1 X.2.1 X.2.2.2.2.2.1.1 hP a (t - 20) (by rw [ix_at ha, ix_ei ht h1]) hh (v := nI n0) rfl hd (kk H locs ls hP hz hS hl)
/-- which words a putfield needs: as ix_flb, with the descriptor d and whether the field is final -/
def ix_fpb (pl ps : Nat) (nest : Bool) (own : String) (idx : Nat) (ref : String) (cs : List Nat) (k : Nat) (d : String) (fin : Bool) : Bool := ix_flb pl ps nest own idx ref cs k (ix_ft d) && cs.all (fun ci => match ix_cl[ci]? with
  | none => false
  | some r => decide ((r.2.1 k).2.2.1 = d) && decide ((r.2.1 k).2.2.2 = fin) && (!fin || decide ((r.2.1 k).1 = own)))
theorem ix_fpb_spec {pl ps : Nat} {nest : Bool} {own : String} {idx : Nat} {ref : String} {cs : List Nat} {k ci : Nat} {d : String} {fin : Bool} (h : ix_fpb pl ps nest own idx ref cs k d fin = true) (hc : ci ∈ cs) : ci < 20 ∧ ∃ r, ix_cl[ci]? = some r ∧ k < r.2.2 ∧ (r.2.1 k).2.2.1 = d ∧ (nest = false → Cond.fieldLink own idx ref (r.2.1 k).2.1 (r.2.1 k).2.2.1 ∈ lw_tbl) ∧ (nest = true → Cond.fieldLinkNest own idx ref (r.2.1 k).2.1 (r.2.1 k).2.2.1 "ClauseCourt" ∈ lw_tbl) ∧ (ref = (r.2.1 k).1 ∨ Cond.sameField ref (r.2.1 k).1 (r.2.1 k).2.1 (r.2.1 k).2.2.1 ∈ lw_tbl) ∧ (r.2.1 k).2.2.2 = fin ∧ (fin = true → (r.2.1 k).1 = own) := by
  unfold ix_fpb at h
  rw [Bool.and_eq_true] at h
  obtain ⟨h1, r, hr, h2, h3, h4, h5, h6⟩ := ix_flb_spec h.1 hc
  have h7 := List.all_eq_true.mp h.2 ci hc
  rw [hr] at h7
  simp only [Bool.and_eq_true, Bool.or_eq_true, decide_eq_true_eq, Bool.not_eq_true'] at h7
  obtain ⟨⟨g1, g2⟩, g3⟩ := h7
  refine ⟨h1, r, hr, h2, g1, h4, h5, h6, g2, fun hf => ?_⟩
  rcases g3 with g | g
  · rw [hf] at g; cases g
  · exact g
theorem ix_put0 (X : ix_X p s m args c K cc own nL) {pl ps : Nat} {nest fin : Bool} {a idx kf : Nat} {ref d : String} {cs : List Nat} {v : Value} {w1 : ix_W} (hf : ix_fpb pl ps nest own idx ref cs kf d fin = true) (hfi : fin = true → nest = false ∧ meth.name = "<init>") (hc : a < ix_N w ∧ (ix_T w a).1 ∈ cs) (hd : decode cc pc = .ok (.putfield idx, 3)) {ty : FieldType} (hty : parseFieldDescriptor d = some ty) (hn : narrow ty v = v) (hfit : fits ty v = true)
    (hN : ix_N w1 = ix_N w) (hE : ∀ b, b ≠ a → ix_e K w1 b = ix_e K w b) (hT : ix_T w1 a = ix_T w a) (h1 : ix_fv K w1 a d kf = v) (h2 : ∀ j dj, j ≠ kf → ix_fv K w1 a dj j = ix_fv K w a dj j)
    {pc1 : Nat} (hp : pc + 3 = pc1) (kk : ix_G p l e R s m args below meth c Q K nL k n pc1 L S w1) : ix_G p l e R s m args below meth c Q K nL k n pc L (v :: .ref (K.2.2.1 + a) :: S) w := by
  subst hp
  intro H locs ls hP hz hS0 hl
  obtain ⟨hx, hb, hml, hown, hts, hO, hN0, hKp⟩ := X
  obtain ⟨hci, r, hr, hk, hde, hl1, hl2, hsm, hfin, hdecl⟩ := ix_fpb_spec hf hc.2
  have hrm := List.mem_of_getElem? hr
  have hin : ∀ w ∈ u_ws r.1 r.2.1 r.2.2, w ∈ ix_tb := fun w hw => ix_tbm (ix_in r hrm w hw).1 (ix_in r hrm w hw).2
  obtain ⟨ty0, hty0⟩ := ix_ty r hrm
  have hap := va_apart (own := own) hts hin ty0 hty0 (ix_nm r hrm) hO.1 hr
  have he : (ix_ws K w)[a]? = some (K.2.2.1 + a, .inr ((ix_T w a).1, (List.range r.2.2).map (fun k => ix_fv K w a (r.2.1 k).2.2.1 k))) := by rw [ix_at hc.1, ix_eo rfl hci hr]
  obtain ⟨r', g1, cell, q1, q2, q3, q4⟩ := hP a _ he
  have hrr : r' = r := Option.some.inj (g1.symm.trans hr)
  subst hrr
  obtain ⟨hS, hfc, kC, hkC, hkind⟩ := hO.1.1 _ _ hr
  obtain ⟨cf, kfl, fi, f, hi, hsl⟩ := hS kf hk
  have hlay := hts _ (hin _ (u_in_lay hk))
  unfold u_lay at hlay
  have hst := (u_facts hfc hkC (u_lays hts hin hk) hi).1
  have hgo : ∀ (H' : Heap) , H'[K.2.2.1 + a]? = some (cell.setSlot f.slot v) → H'.size = H.size → (∀ q : Nat, q ≠ K.2.2.1 + a → H'[q]? = H[q]?) → W p l e R s m args below meth c H' (locs ++ [⟨K.2.2.1 + a, f.slot⟩]) k n Q (F0 m (pc + 3) ls S) := by
    intro H' e1 e2 e3
    refine kk H' _ ls ?_ (e2.trans (by rw [hN]; exact hz)) (hS0.put e2 e3 (Nat.le_add_right _ _)) hl
    rw [← ix_oset (w' := w1) (v := v) hc.1 hN hE hT rfl hci hr hk (by rw [hde]; exact h1) (fun j hj => h2 j _ hj)]
    rw [hsl] at e1
    exact hP.set ix_D he ⟨_, hr, t_OB.to (V := updV (vp_V _) kf v) ⟨_, e1, q2, q3, t_set q4 hap hk v⟩ (fun j _ => vp_updV_set (by simpa using hk) v j)⟩ e3
  cases fin with
  | false =>
    rw [if_neg (by rw [hfin]; decide)] at hlay
    have h6 := u_store hfc hkC hkind hlay hi (by rw [hde]; exact hty) hn hfit
    cases nest with
    | false => exact W.putK hx hb (f := f) ⟨hown, hts _ (ix_tbm (hl1 rfl) rfl), ⟨_, _, _, ix_hsame hts hsm _ hi⟩, hst⟩ (by rw [q2]; exact h6) q1 q3 (by rw [hsl]; exact k2_hasslot (q4 kf hk)) rfl rfl hd fun H' e1 e2 e3 => hgo H' e1 e2 e3
    | true => exact va_WputK hx hb (f := f) hown (va_Nw.use rfl (hO.2.1 _ (ix_ntm (hl2 rfl) rfl))) (ix_hsame hts hsm _ hi) hst (by rw [q2]; exact h6) q1 q3 (by rw [hsl]; exact k2_hasslot (q4 kf hk)) rfl rfl hd fun H' e1 e2 e3 => hgo H' e1 e2 e3
  | true =>
    rw [if_pos hfin] at hlay
    obtain ⟨hnest, hin2⟩ := hfi rfl
    subst hnest
    have hcf : m.cls = cf := by
      obtain ⟨_, _, c', _, _, _, -, -, hf', -, -, -, hown2, -⟩ := Cond.laysFinal_spec hlay
      have e1 : c' = cf := by have := hi.symm.trans hf'; simp at this; exact this.1.symm
      rw [hdecl rfl] at hown2
      rw [← e1]; exact Option.some.inj (hown.symm.trans hown2)
    have h6 := u_fits hfc hkC hkind (Or.inr hlay) hi (by rw [hde]; exact hty) hn hfit
    exact W.putFinK hx hb hown (hts _ (ix_tbm (hl1 rfl) rfl)) (ix_hsame hts hsm _ hi) hst hcf hin2 (by rw [q2]; exact h6) q1 q3 (by rw [hsl]; exact k2_hasslot (q4 kf hk)) rfl rfl hd fun H' e1 e2 e3 => hgo H' e1 e2 e3
theorem ix_sI_o {a kf : Nat} {x : Int32} : (∀ b, b ≠ a → ix_e K (ix_sI w a kf x) b = ix_e K w b) ∧ (∀ d, ix_ft d = 0 → ix_fv K (ix_sI w a kf x) a d kf = .int x) ∧ ∀ j dj, j ≠ kf → ix_fv K (ix_sI w a kf x) a dj j = ix_fv K w a dj j := by
  refine ⟨fun b hb => ix_e_congr (ix_up_ne hb) rfl rfl rfl, fun d hd => ?_, fun j dj hj => ?_⟩
  · simp [ix_fv, hd, ix_sI, ix_up]
  · simp [ix_fv, ix_sI, ix_up, hj]
theorem ix_sJ_o {a kf : Nat} {x : Int64} : (∀ b, b ≠ a → ix_e K (ix_sJ w a kf x) b = ix_e K w b) ∧ (∀ d, ix_ft d = 1 → ix_fv K (ix_sJ w a kf x) a d kf = .long x) ∧ ∀ j dj, j ≠ kf → ix_fv K (ix_sJ w a kf x) a dj j = ix_fv K w a dj j := by
  refine ⟨fun b hb => ix_e_congr rfl (ix_up_ne hb) rfl rfl, fun d hd => ?_, fun j dj hj => ?_⟩
  · simp [ix_fv, hd, ix_sJ, ix_up]
  · simp [ix_fv, ix_sJ, ix_up, hj]
theorem ix_sR_o {a kf : Nat} {x : Option Nat} : (∀ b, b ≠ a → ix_e K (ix_sR w a kf x) b = ix_e K w b) ∧ (∀ d, ix_ft d = 2 → ix_fv K (ix_sR w a kf x) a d kf = ix_rv K x) ∧ ∀ j dj, j ≠ kf → ix_fv K (ix_sR w a kf x) a dj j = ix_fv K w a dj j := by
  refine ⟨fun b hb => ix_e_congr rfl rfl (ix_up_ne hb) rfl, fun d hd => ?_, fun j dj hj => ?_⟩
  · simp [ix_fv, hd, ix_sR, ix_up]
  · simp [ix_fv, ix_sR, ix_up, hj]
theorem ix_putI (X : ix_X p s m args c K cc own nL) {pl ps : Nat} {nest fin : Bool} {a idx kf : Nat} {ref : String} {cs : List Nat} {x : Int32} {w1 : ix_W} (hf : ix_fpb pl ps nest own idx ref cs kf "I" fin = true) (hfi : fin = true → nest = false ∧ meth.name = "<init>") (hc : a < ix_N w ∧ (ix_T w a).1 ∈ cs) (hd : decode cc pc = .ok (.putfield idx, 3)) (hw : ix_sI w a kf x = w1) {pc1 : Nat} (hp : pc + 3 = pc1) (kk : ix_G p l e R s m args below meth c Q K nL k n pc1 L S w1) : ix_G p l e R s m args below meth c Q K nL k n pc L (.int x :: .ref (K.2.2.1 + a) :: S) w := by
  subst hp
  subst hw
  exact ix_put0 (w1 := ix_sI w a kf x) X hf hfi hc hd (ty := .int) (by decide +kernel) rfl rfl rfl ix_sI_o.1 rfl (ix_sI_o.2.1 _ (by decide +kernel)) ix_sI_o.2.2 rfl kk
theorem ix_putZ (X : ix_X p s m args c K cc own nL) {pl ps : Nat} {nest fin : Bool} {a idx kf : Nat} {ref : String} {cs : List Nat} {x : Int32} {w1 : ix_W} (hf : ix_fpb pl ps nest own idx ref cs kf "Z" fin = true) (hfi : fin = true → nest = false ∧ meth.name = "<init>") (hc : a < ix_N w ∧ (ix_T w a).1 ∈ cs) (hd : decode cc pc = .ok (.putfield idx, 3)) (hz : x = 0 ∨ x = 1) (hw : ix_sI w a kf x = w1) {pc1 : Nat} (hp : pc + 3 = pc1) (kk : ix_G p l e R s m args below meth c Q K nL k n pc1 L S w1) : ix_G p l e R s m args below meth c Q K nL k n pc L (.int x :: .ref (K.2.2.1 + a) :: S) w := by
  subst hp
  subst hw
  exact ix_put0 (w1 := ix_sI w a kf x) X hf hfi hc hd (ty := .boolean) (by decide +kernel) (by rcases hz with rfl | rfl <;> rfl) (by rcases hz with rfl | rfl <;> rfl) rfl ix_sI_o.1 rfl (ix_sI_o.2.1 _ (by decide +kernel)) ix_sI_o.2.2 rfl kk
theorem ix_putJ (X : ix_X p s m args c K cc own nL) {pl ps : Nat} {nest fin : Bool} {a idx kf : Nat} {ref : String} {cs : List Nat} {x : Int64} {w1 : ix_W} (hf : ix_fpb pl ps nest own idx ref cs kf "J" fin = true) (hfi : fin = true → nest = false ∧ meth.name = "<init>") (hc : a < ix_N w ∧ (ix_T w a).1 ∈ cs) (hd : decode cc pc = .ok (.putfield idx, 3)) (hw : ix_sJ w a kf x = w1) {pc1 : Nat} (hp : pc + 3 = pc1) (kk : ix_G p l e R s m args below meth c Q K nL k n pc1 L S w1) : ix_G p l e R s m args below meth c Q K nL k n pc L (.long x :: .ref (K.2.2.1 + a) :: S) w := by
  subst hp
  subst hw
  exact ix_put0 (w1 := ix_sJ w a kf x) X hf hfi hc hd (ty := .long) (by decide +kernel) rfl rfl rfl ix_sJ_o.1 rfl (ix_sJ_o.2.1 _ (by decide +kernel)) ix_sJ_o.2.2 rfl kk
theorem ix_putR (X : ix_X p s m args c K cc own nL) {pl ps : Nat} {nest fin : Bool} {a idx kf : Nat} {ref : String} {cs : List Nat} {d : String} {b : Nat} {w1 : ix_W} (hf : ix_fpb pl ps nest own idx ref cs kf d fin = true) (hfi : fin = true → nest = false ∧ meth.name = "<init>") (hc : a < ix_N w ∧ (ix_T w a).1 ∈ cs) (hd : decode cc pc = .ok (.putfield idx, 3)) {ty : FieldType} (hty : parseFieldDescriptor d = some ty) (hft : ix_ft d = 2) (hn : narrow ty (.ref (K.2.2.1 + b)) = .ref (K.2.2.1 + b)) (hfit : fits ty (.ref (K.2.2.1 + b)) = true) (hw : ix_sR w a kf (some b) = w1) {pc1 : Nat} (hp : pc + 3 = pc1) (kk : ix_G p l e R s m args below meth c Q K nL k n pc1 L S w1) : ix_G p l e R s m args below meth c Q K nL k n pc L (.ref (K.2.2.1 + b) :: .ref (K.2.2.1 + a) :: S) w := by
  subst hp
  subst hw
  exact ix_put0 (w1 := ix_sR w a kf (some b)) X hf hfi hc hd hty hn hfit rfl ix_sR_o.1 rfl (ix_sR_o.2.1 _ hft) ix_sR_o.2.2 rfl kk
end IXS

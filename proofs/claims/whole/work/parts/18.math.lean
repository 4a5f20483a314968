/-! Math's four, as rows -/
def ix_abs (x : Int32) : Int32 := if 0 ≤ x then x else 0 - x
def ix_min (x y : Int32) : Int32 := if y < x then y else x
def ix_max (x y : Int32) : Int32 := if x < y then y else x
def ix_maxl (x y : Int64) : Int64 := if y < x then x else y
section IXJ
variable {p : Program} {l : Launch} {e : Env} {R : Room} {s : State} {m : MethodId} {args : Array Value} {below : List Frame} {meth : Method} {c : Code} {Q : State → Prop} {K : ix_Cx} {nL k n : Nat} {cc : ByteArray} {own : String} {pc : Nat} {L : List (Nat × Value)} {S : List Value} {w : ix_W}
theorem ix_mabs (X : ix_X p s m args c K cc own nL) {idx pl : Nat} {x : Int32} (hl : tables_1[pl]? = some (Cond.methodLink own idx Lib.Math.abs.name)) (hfr : 1 ≤ R.frames) (hlo : (S.map fun v => v.category).sum + 13 ≤ R.locals) (hf : k ≤ R.cells ∧ n ≤ R.slots) (hd : decode cc pc = .ok (.invokestatic idx, 3)) {pc1 : Nat} (hp : pc + 3 = pc1) (kk : ix_G p l e R s m args below meth c Q K nL k n pc1 L (.int (ix_abs x) :: S) w) : ix_G p l e R s m args below meth c Q K nL k n pc L (.int x :: S) w := by
  subst hp
  intro H locs ls hP hz hS hl1
  exact va_mabs X.1 X.2.1 (X.2.2.1.trans hl1.1.symm) X.2.2.2.1 (X.2.2.2.2.1 _ (ix_tbm (ix_wm hl) rfl)) (X.2.2.2.2.1 _ (ix_tbm (ix_wm (i := 480) (by decide +kernel)) rfl)) (X.2.2.2.2.1 _ (ix_tbm (ix_wm (i := 10) (by decide +kernel)) rfl)) (X.2.2.2.2.1 _ (ix_tbm (ix_wm (i := 481) (by decide +kernel)) rfl)) hfr hlo hf.1 hf.2 hd (kk H locs ls hP hz hS hl1)
theorem ix_mmin (X : ix_X p s m args c K cc own nL) {idx pl : Nat} {x y : Int32} (hl : tables_1[pl]? = some (Cond.methodLink own idx Lib.Math.min.name)) (hfr : 1 ≤ R.frames) (hlo : (S.map fun v => v.category).sum + 13 ≤ R.locals) (hf : k ≤ R.cells ∧ n ≤ R.slots) (hd : decode cc pc = .ok (.invokestatic idx, 3)) {pc1 : Nat} (hp : pc + 3 = pc1) (kk : ix_G p l e R s m args below meth c Q K nL k n pc1 L (.int (ix_min x y) :: S) w) : ix_G p l e R s m args below meth c Q K nL k n pc L (.int y :: .int x :: S) w := by
  subst hp
  intro H locs ls hP hz hS hl1
  exact va_mmin X.1 X.2.1 (X.2.2.1.trans hl1.1.symm) X.2.2.2.1 (X.2.2.2.2.1 _ (ix_tbm (ix_wm hl) rfl)) (X.2.2.2.2.1 _ (ix_tbm (ix_wm (i := 499) (by decide +kernel)) rfl)) (X.2.2.2.2.1 _ (ix_tbm (ix_wm (i := 10) (by decide +kernel)) rfl)) (X.2.2.2.2.1 _ (ix_tbm (ix_wm (i := 500) (by decide +kernel)) rfl)) hfr hlo hf.1 hf.2 hd (kk H locs ls hP hz hS hl1)
theorem ix_mmax (X : ix_X p s m args c K cc own nL) {idx pl : Nat} {x y : Int32} (hl : tables_1[pl]? = some (Cond.methodLink own idx Lib.Math.max.name)) (hfr : 1 ≤ R.frames) (hlo : (S.map fun v => v.category).sum + 13 ≤ R.locals) (hf : k ≤ R.cells ∧ n ≤ R.slots) (hd : decode cc pc = .ok (.invokestatic idx, 3)) {pc1 : Nat} (hp : pc + 3 = pc1) (kk : ix_G p l e R s m args below meth c Q K nL k n pc1 L (.int (ix_max x y) :: S) w) : ix_G p l e R s m args below meth c Q K nL k n pc L (.int y :: .int x :: S) w := by
  subst hp
  intro H locs ls hP hz hS hl1
  exact va_mmax X.1 X.2.1 (X.2.2.1.trans hl1.1.symm) X.2.2.2.1 (X.2.2.2.2.1 _ (ix_tbm (ix_wm hl) rfl)) (X.2.2.2.2.1 _ (ix_tbm (ix_wm (i := 596) (by decide +kernel)) rfl)) (X.2.2.2.2.1 _ (ix_tbm (ix_wm (i := 10) (by decide +kernel)) rfl)) (X.2.2.2.2.1 _ (ix_tbm (ix_wm (i := 597) (by decide +kernel)) rfl)) hfr hlo hf.1 hf.2 hd (kk H locs ls hP hz hS hl1)
theorem ix_mmax_long (X : ix_X p s m args c K cc own nL) {idx pl : Nat} {x y : Int64} (hl : tables_1[pl]? = some (Cond.methodLink own idx Lib.MathLoose.max_long.x)) (hfr : 1 ≤ R.frames) (hlo : (S.map fun v => v.category).sum + 15 ≤ R.locals) (hf : k ≤ R.cells ∧ n ≤ R.slots) (hd : decode cc pc = .ok (.invokestatic idx, 3)) {pc1 : Nat} (hp : pc + 3 = pc1) (kk : ix_G p l e R s m args below meth c Q K nL k n pc1 L (.long (ix_maxl x y) :: S) w) : ix_G p l e R s m args below meth c Q K nL k n pc L (.long y :: .long x :: S) w := by
  subst hp
  intro H locs ls hP hz hS hl1
  exact va_mmax_long X.1 X.2.1 (X.2.2.1.trans hl1.1.symm) X.2.2.2.1 (X.2.2.2.2.1 _ (ix_tbm (ix_wm hl) rfl)) (X.2.2.2.2.1 _ (ix_tbm (ix_wm (i := 1272) (by decide +kernel)) rfl)) (X.2.2.2.2.1 _ (ix_tbm (ix_wm (i := 10) (by decide +kernel)) rfl)) (X.2.2.2.2.1 _ (ix_tbm (ix_wm (i := 1273) (by decide +kernel)) rfl)) hfr hlo hf.1 hf.2 hd (kk H locs ls hP hz hS hl1)
end IXJ

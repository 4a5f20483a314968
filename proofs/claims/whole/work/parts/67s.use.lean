/-! uses go up by a list of places -/
def ux_ (u : Nat → Int32) (q : Nat → Nat) : Nat → Nat → Int32
  | 0 => u
  | p + 1 => fun j => if j = q p then ux_ u q p j + 1 else ux_ u q p j
def us_ (u : Nat → Int32) (ks : Nat → Nat) (F : Nat) : Nat → Nat → Int32
  | 0 => u
  | i + 1 => if F ≤ ks i then (fun j => if j = ks i - F then us_ u ks F i j + 1 else us_ u ks F i j) else us_ u ks F i
theorem us_x {u : Nat → Int32} {ks q : Nat → Nat} {F : Nat} : ∀ U, (∀ i, i < U → F ≤ ks i → q (qc_ ks F i) = ks i - F) → us_ u ks F U = ux_ u q (qc_ ks F U)
  | 0, _ => rfl
  | U + 1, h => by
    have ih := us_x (u := u) U (fun i hi hf => h i (by omega) hf)
    by_cases c : F ≤ ks U
    · have e1 : us_ u ks F (U + 1) = fun j => if j = ks U - F then us_ u ks F U j + 1 else us_ u ks F U j := if_pos c
      have e2 : qc_ ks F (U + 1) = qc_ ks F U + 1 := by show qc_ ks F U + (if F ≤ ks U then 1 else 0) = _; rw [if_pos c]
      rw [e1, e2, ih]
      show _ = fun j => if j = q (qc_ ks F U) then ux_ u q (qc_ ks F U) j + 1 else ux_ u q (qc_ ks F U) j
      rw [h U (by omega) c]
    · have e1 : us_ u ks F (U + 1) = us_ u ks F U := if_neg c
      have e2 : qc_ ks F (U + 1) = qc_ ks F U := by show qc_ ks F U + (if F ≤ ks U then 1 else 0) = _; rw [if_neg c]; rfl
      rw [e1, e2, ih]
theorem qc_s {ks : Nat → Nat} {F : Nat} : ∀ {U p : Nat}, p < qc_ ks F U → ∃ i, i < U ∧ F ≤ ks i ∧ qc_ ks F i = p
  | 0, p, h => absurd h (Nat.not_lt_zero _)
  | U + 1, p, h => by
    have e : qc_ ks F (U + 1) = qc_ ks F U + (if F ≤ ks U then 1 else 0) := rfl
    by_cases c : p < qc_ ks F U
    · obtain ⟨i, i1, i2, i3⟩ := qc_s (U := U) c
      exact ⟨i, by omega, i2, i3⟩
    · by_cases c2 : F ≤ ks U
      · rw [e, if_pos c2] at h
        exact ⟨U, by omega, c2, by omega⟩
      · rw [e, if_neg c2] at h
        omega
theorem gp_l {it lv : Nat → Int32} {ns : Nat → Nat → Int64} {w a : Nat} {g : Int64} : ∀ j, gp_ it lv ns w g a j = gl_ (fun j => it (a + j)) (fun m => (lv m).toInt = 0) ns w g j
  | 0 => rfl
  | j + 1 => by
    show (if (lv (ix_n (ix_abs (it (a + j))))).toInt = 0 then gp_ it lv ns w g a j ||| _ else gp_ it lv ns w g a j) = if (lv (ix_n (ix_abs (it (a + j))))).toInt = 0 then gl_ _ _ ns w g j ||| _ else gl_ _ _ ns w g j
    rw [gp_l j]
theorem gl_cg {it it' : Nat → Int32} {P P' : Nat → Prop} [DecidablePred P] [DecidablePred P'] {ns ns' : Nat → Nat → Int64} {w : Nat} {g : Int64} : ∀ j, (∀ i, i < j → it i = it' i ∧ (P (ix_n (ix_abs (it i))) ↔ P' (ix_n (ix_abs (it i)))) ∧ (P (ix_n (ix_abs (it i))) → ns (ix_n (ix_abs (it i))) w = ns' (ix_n (ix_abs (it i))) w)) → gl_ it P ns w g j = gl_ it' P' ns' w g j
  | 0, _ => rfl
  | j + 1, h => by
    have ih := gl_cg (g := g) j (fun i hi => h i (by omega))
    obtain ⟨h1, h2, h3⟩ := h j (by omega)
    show (if P (ix_n (ix_abs (it j))) then gl_ it P ns w g j ||| ns (ix_n (ix_abs (it j))) w else gl_ it P ns w g j) = if P' (ix_n (ix_abs (it' j))) then gl_ it' P' ns' w g j ||| ns' (ix_n (ix_abs (it' j))) w else gl_ it' P' ns' w g j
    rw [ih, ← h1]
    by_cases c : P (ix_n (ix_abs (it j)))
    · rw [if_pos c, if_pos (h2.mp c), h3 c]
    · rw [if_neg c, if_neg (fun q => c (h2.mpr q))]

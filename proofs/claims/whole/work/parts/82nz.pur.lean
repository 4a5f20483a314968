/-! small things for learn -/
theorem wp_s3 {α β γ : Type} {a : Option α} {k : α → Option β} {b : Option γ} {Q : γ → β → Prop} (h : wp_t b (fun u => wp_t a (fun t => wp_t (k t) (fun w => Q u w)))) : wp_t a (fun t => wp_t (k t) (fun w => wp_t b (fun u => Q u w))) := by
  obtain ⟨u, hb, t, ha, w, hk, q⟩ := h
  exact ⟨t, ha, w, hk, u, hb, q⟩
theorem us_r {u : Nat → Int32} {ks kr : Nat → Nat} {F R : Nat} : ∀ U, (∀ i, i < U → (R ≤ kr i ↔ F ≤ ks i) ∧ (F ≤ ks i → kr i - R = ks i - F)) → us_ u kr R U = us_ u ks F U
  | 0, _ => rfl
  | U + 1, h => by
    have ih := us_r (u := u) U (fun i hi => h i (by omega))
    obtain ⟨h1, h2⟩ := h U (by omega)
    show (if R ≤ kr U then (fun j => if j = kr U - R then us_ u kr R U j + 1 else us_ u kr R U j) else us_ u kr R U) = if F ≤ ks U then (fun j => if j = ks U - F then us_ u ks F U j + 1 else us_ u ks F U j) else us_ u ks F U
    rw [ih]
    by_cases c : F ≤ ks U
    · rw [if_pos c, if_pos (h1.mpr c), h2 c]
    · rw [if_neg c, if_neg (fun q => c (h1.mp q))]
theorem ux_c {u u' : Nat → Int32} {q : Nat → Nat} {j : Nat} : ∀ P, u j = u' j → ux_ u q P j = ux_ u' q P j
  | 0, h => h
  | P + 1, h => by
    have ih := ux_c (q := q) P h
    show (if j = q P then ux_ u q P j + 1 else ux_ u q P j) = if j = q P then ux_ u' q P j + 1 else ux_ u' q P j
    rw [ih]
/-- a property of the words of sets that their union keeps -/
def cl_ (P : Nat → Int64 → Prop) : Prop := (∀ w, P w 0) ∧ ∀ w x y, P w x → P w y → P w (x ||| y)
theorem gl_P {P : Nat → Int64 → Prop} (hP : cl_ P) {it : Nat → Int32} {C : Nat → Prop} [DecidablePred C] {ns : Nat → Nat → Int64} {w : Nat} {g : Int64} (hg : P w g) : ∀ j, (∀ i, i < j → C (ix_n (ix_abs (it i))) → P w (ns (ix_n (ix_abs (it i))) w)) → P w (gl_ it C ns w g j)
  | 0, _ => hg
  | j + 1, h => by
    have ih := gl_P hP hg j (fun i hi hc => h i (by omega) hc)
    show P w (if C (ix_n (ix_abs (it j))) then gl_ it C ns w g j ||| ns (ix_n (ix_abs (it j))) w else gl_ it C ns w g j)
    by_cases c : C (ix_n (ix_abs (it j)))
    · rw [if_pos c]; exact hP.2 _ _ _ ih (h j (by omega) c)
    · rw [if_neg c]; exact ih

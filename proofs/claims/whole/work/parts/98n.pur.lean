/-! THE PURE PART: what the law's start owes -/
theorem st_all (Ls : Nat) (xs : Nat → Int32) (hL : Ls ≤ 3072) : st_pure Ls xs :=
  ⟨100000, Zl zC_, Zl zR_, Dl dC_l, Dl dR_l, J_, e_coC (Nat.le_refl _), e_coR (Nat.le_refl _), st_J, fun j z d h6 hj => jl_body (Nat.le_refl _) h6 hL hj⟩

/-! THE CLASS'S CONSTRUCTOR -/
section COC
variable {n : Nat}
set_option maxRecDepth 100000 in
set_option maxHeartbeats 8000000 in
theorem e_coC (hn : 100000 ≤ n) : f_X11_init n (ix_zn st_z 10 18) 0 (ix_dn st_d 0) = some (Zl zC_, Dl dC_l) := by
  rw [st_zl, st_dl]
  refine eq_wp ?_
  unfold f_X11_init
  refine w_zm ?_
  refine w_dm ?_
  refine w_ok (by decide +kernel) ?_
  refine w_zr (by decide +kernel) ?_
  refine w_zn (by decide +kernel) ?_
  refine w_dn (by decide +kernel) ?_
  refine w_ok (by decide +kernel) ?_
  refine w_zr (by decide +kernel) ?_
  refine w_zn (by decide +kernel) ?_
  refine w_dn (by decide +kernel) ?_
  apply w_b4
  · refine eq_wp ?_
    unfold f_X4_init
    refine w_zn (by decide +kernel) ?_
    refine w_dn (by decide +kernel) ?_
    refine w_ok (by decide +kernel) ?_
    refine w_zr (by decide +kernel) ?_
    refine w_zn (by decide +kernel) ?_
    refine w_dn (by decide +kernel) ?_
    refine w_ok (by decide +kernel) ?_
    refine w_zr (by decide +kernel) ?_
    refine w_zn (by decide +kernel) ?_
    refine w_dn (by decide +kernel) ?_
    refine w_ok (by decide +kernel) ?_
    refine w_zr (by decide +kernel) ?_
    refine w_zn (by decide +kernel) ?_
    refine w_dn (by decide +kernel) ?_
    refine w_ok (by decide +kernel) ?_
    refine w_zr (by decide +kernel) ?_
    refine w_zn (by decide +kernel) ?_
    refine w_dn (by decide +kernel) ?_
    refine w_ok (by decide +kernel) ?_
    refine w_zr (by decide +kernel) ?_
    refine w_zn (by decide +kernel) ?_
    refine w_dn (by decide +kernel) ?_
    refine w_ok (by decide +kernel) ?_
    refine w_zr (by decide +kernel) ?_
    refine w_zn (by decide +kernel) ?_
    refine w_dn (by decide +kernel) ?_
    refine w_ok (by decide +kernel) ?_
    refine w_zr (by decide +kernel) ?_
    exact wi_some rfl
  refine w_ok (by decide +kernel) ?_
  refine w_zr (by decide +kernel) ?_
  refine w_zn (by decide +kernel) ?_
  refine w_dn (by decide +kernel) ?_
  apply w_b4
  · refine eq_wp ?_
    unfold f_X2_init
    refine w_zn (by decide +kernel) ?_
    refine w_dn (by decide +kernel) ?_
    apply w_b4
    · refine eq_wp ?_
      unfold f_X7_init
      refine wi_ck (by decide +kernel) ?_
      refine w_zn (by decide +kernel) ?_
      refine w_dn (by decide +kernel) ?_
      refine w_ok (by decide +kernel) ?_
      refine w_zr (by decide +kernel) ?_
      refine wi_ck (by decide +kernel) ?_
      refine w_zn (by decide +kernel) ?_
      refine w_dn (by decide +kernel) ?_
      refine w_ok (by decide +kernel) ?_
      refine w_zr (by decide +kernel) ?_
      exact wi_some rfl
    refine w_ok (by decide +kernel) ?_
    refine w_zr (by decide +kernel) ?_
    refine w_zn (by decide +kernel) ?_
    refine w_dn (by decide +kernel) ?_
    refine w_ok (by decide +kernel) ?_
    refine w_zr (by decide +kernel) ?_
    refine w_zn (by decide +kernel) ?_
    refine w_dn (by decide +kernel) ?_
    refine w_ok (by decide +kernel) ?_
    refine w_zr (by decide +kernel) ?_
    refine w_zn (by decide +kernel) ?_
    refine w_dn (by decide +kernel) ?_
    refine w_ok (by decide +kernel) ?_
    refine w_zr (by decide +kernel) ?_
    refine w_zn (by decide +kernel) ?_
    refine w_dn (by decide +kernel) ?_
    refine w_ok (by decide +kernel) ?_
    refine w_zr (by decide +kernel) ?_
    exact wi_some rfl
  refine w_ok (by decide +kernel) ?_
  refine w_zr (by decide +kernel) ?_
  refine w_zn (by decide +kernel) ?_
  refine w_dn (by decide +kernel) ?_
  refine w_ok (by decide +kernel) ?_
  refine w_zr (by decide +kernel) ?_
  refine w_zn (by decide +kernel) ?_
  refine w_dn (by decide +kernel) ?_
  apply w_b4
  · refine eq_wp ?_
    unfold f_X9_init
    refine w_zn (by decide +kernel) ?_
    refine w_dn (by decide +kernel) ?_
    apply w_b4
    · refine eq_wp ?_
      unfold f_X1_init
      refine w_zn (by decide +kernel) ?_
      refine w_dn (by decide +kernel) ?_
      apply w_b4
      · refine eq_wp ?_
        unfold f_X7_init
        refine wi_ck (by decide +kernel) ?_
        refine w_zn (by decide +kernel) ?_
        refine w_dn (by decide +kernel) ?_
        refine w_ok (by decide +kernel) ?_
        refine w_zr (by decide +kernel) ?_
        refine wi_ck (by decide +kernel) ?_
        refine w_zn (by decide +kernel) ?_
        refine w_dn (by decide +kernel) ?_
        refine w_ok (by decide +kernel) ?_
        refine w_zr (by decide +kernel) ?_
        exact wi_some rfl
      refine w_ok (by decide +kernel) ?_
      refine w_zr (by decide +kernel) ?_
      refine w_zn (by decide +kernel) ?_
      refine w_dn (by decide +kernel) ?_
      refine w_ok (by decide +kernel) ?_
      refine w_zr (by decide +kernel) ?_
      refine w_zn (by decide +kernel) ?_
      refine w_dn (by decide +kernel) ?_
      refine w_ok (by decide +kernel) ?_
      refine w_zr (by decide +kernel) ?_
      refine w_zn (by decide +kernel) ?_
      refine w_dn (by decide +kernel) ?_
      refine w_ok (by decide +kernel) ?_
      refine w_zr (by decide +kernel) ?_
      refine w_zn (by decide +kernel) ?_
      refine w_dn (by decide +kernel) ?_
      refine w_ok (by decide +kernel) ?_
      refine w_zr (by decide +kernel) ?_
      refine w_zn (by decide +kernel) ?_
      refine w_dn (by decide +kernel) ?_
      refine w_ok (by decide +kernel) ?_
      refine w_zr (by decide +kernel) ?_
      refine w_zn (by decide +kernel) ?_
      refine w_dn (by decide +kernel) ?_
      refine w_ok (by decide +kernel) ?_
      refine w_zr (by decide +kernel) ?_
      refine w_zn (by decide +kernel) ?_
      refine w_dn (by decide +kernel) ?_
      refine w_ok (by decide +kernel) ?_
      refine w_zr (by decide +kernel) ?_
      refine w_zn (by decide +kernel) ?_
      refine w_dn (by decide +kernel) ?_
      refine w_ok (by decide +kernel) ?_
      refine w_zr (by decide +kernel) ?_
      refine w_zn (by decide +kernel) ?_
      refine w_dn (by decide +kernel) ?_
      refine w_ok (by decide +kernel) ?_
      refine w_zr (by decide +kernel) ?_
      refine w_zn (by decide +kernel) ?_
      refine w_dn (by decide +kernel) ?_
      refine w_ok (by decide +kernel) ?_
      refine w_zr (by decide +kernel) ?_
      refine w_zn (by decide +kernel) ?_
      refine w_dn (by decide +kernel) ?_
      refine w_ok (by decide +kernel) ?_
      refine w_zr (by decide +kernel) ?_
      exact wi_some rfl
    refine w_ok (by decide +kernel) ?_
    refine w_zr (by decide +kernel) ?_
    refine w_zn (by decide +kernel) ?_
    refine w_dn (by decide +kernel) ?_
    apply w_b4
    · refine eq_wp ?_
      unfold f_X7_init
      refine wi_ck (by decide +kernel) ?_
      refine w_zn (by decide +kernel) ?_
      refine w_dn (by decide +kernel) ?_
      refine w_ok (by decide +kernel) ?_
      refine w_zr (by decide +kernel) ?_
      refine wi_ck (by decide +kernel) ?_
      refine w_zn (by decide +kernel) ?_
      refine w_dn (by decide +kernel) ?_
      refine w_ok (by decide +kernel) ?_
      refine w_zr (by decide +kernel) ?_
      exact wi_some rfl
    refine w_ok (by decide +kernel) ?_
    refine w_zr (by decide +kernel) ?_
    refine w_zn (by decide +kernel) ?_
    refine w_dn (by decide +kernel) ?_
    refine w_ok (by decide +kernel) ?_
    refine w_zr (by decide +kernel) ?_
    refine w_zn (by decide +kernel) ?_
    refine w_dn (by decide +kernel) ?_
    refine w_ok (by decide +kernel) ?_
    refine w_zr (by decide +kernel) ?_
    refine w_zn (by decide +kernel) ?_
    refine w_dn (by decide +kernel) ?_
    refine w_ok (by decide +kernel) ?_
    refine w_zr (by decide +kernel) ?_
    refine w_zn (by decide +kernel) ?_
    refine w_dn (by decide +kernel) ?_
    refine w_ok (by decide +kernel) ?_
    refine w_zr (by decide +kernel) ?_
    refine w_zn (by decide +kernel) ?_
    refine w_dn (by decide +kernel) ?_
    refine w_ok (by decide +kernel) ?_
    refine w_zr (by decide +kernel) ?_
    refine w_zn (by decide +kernel) ?_
    refine w_dn (by decide +kernel) ?_
    refine w_ok (by decide +kernel) ?_
    refine w_zr (by decide +kernel) ?_
    refine w_zn (by decide +kernel) ?_
    refine w_dn (by decide +kernel) ?_
    refine w_ok (by decide +kernel) ?_
    refine w_zr (by decide +kernel) ?_
    refine w_zn (by decide +kernel) ?_
    refine w_dn (by decide +kernel) ?_
    refine w_ok (by decide +kernel) ?_
    refine w_zr (by decide +kernel) ?_
    refine w_zn (by decide +kernel) ?_
    refine w_dn (by decide +kernel) ?_
    refine w_ok (by decide +kernel) ?_
    refine w_zr (by decide +kernel) ?_
    refine w_zn (by decide +kernel) ?_
    refine w_dn (by decide +kernel) ?_
    refine w_ok (by decide +kernel) ?_
    refine w_zr (by decide +kernel) ?_
    refine w_zn (by decide +kernel) ?_
    refine w_dn (by decide +kernel) ?_
    refine w_ok (by decide +kernel) ?_
    refine w_zr (by decide +kernel) ?_
    refine w_ok (by decide +kernel) ?_
    refine w_r1 (b := 85) (by decide +kernel) ?_
    refine wi_ck (ix_l (len := 10) (by decide +kernel) (by decide +kernel) (by decide +kernel) (by decide) (by decide)) ?_
    refine w_di ?_
    refine w_r1 (b := 86) (by decide +kernel) ?_
    refine w_fl (len := 5) (by omega) (by decide +kernel) (by decide +kernel) (by decide +kernel) ?_
    exact wi_some rfl
  refine w_ok (by decide +kernel) ?_
  refine w_zr (by decide +kernel) ?_
  refine w_zn (by decide +kernel) ?_
  refine w_dn (by decide +kernel) ?_
  apply w_b4
  · refine eq_wp ?_
    unfold f_X9_init
    refine w_zn (by decide +kernel) ?_
    refine w_dn (by decide +kernel) ?_
    apply w_b4
    · refine eq_wp ?_
      unfold f_X1_init
      refine w_zn (by decide +kernel) ?_
      refine w_dn (by decide +kernel) ?_
      apply w_b4
      · refine eq_wp ?_
        unfold f_X7_init
        refine wi_ck (by decide +kernel) ?_
        refine w_zn (by decide +kernel) ?_
        refine w_dn (by decide +kernel) ?_
        refine w_ok (by decide +kernel) ?_
        refine w_zr (by decide +kernel) ?_
        refine wi_ck (by decide +kernel) ?_
        refine w_zn (by decide +kernel) ?_
        refine w_dn (by decide +kernel) ?_
        refine w_ok (by decide +kernel) ?_
        refine w_zr (by decide +kernel) ?_
        exact wi_some rfl
      refine w_ok (by decide +kernel) ?_
      refine w_zr (by decide +kernel) ?_
      refine w_zn (by decide +kernel) ?_
      refine w_dn (by decide +kernel) ?_
      refine w_ok (by decide +kernel) ?_
      refine w_zr (by decide +kernel) ?_
      refine w_zn (by decide +kernel) ?_
      refine w_dn (by decide +kernel) ?_
      refine w_ok (by decide +kernel) ?_
      refine w_zr (by decide +kernel) ?_
      refine w_zn (by decide +kernel) ?_
      refine w_dn (by decide +kernel) ?_
      refine w_ok (by decide +kernel) ?_
      refine w_zr (by decide +kernel) ?_
      refine w_zn (by decide +kernel) ?_
      refine w_dn (by decide +kernel) ?_
      refine w_ok (by decide +kernel) ?_
      refine w_zr (by decide +kernel) ?_
      refine w_zn (by decide +kernel) ?_
      refine w_dn (by decide +kernel) ?_
      refine w_ok (by decide +kernel) ?_
      refine w_zr (by decide +kernel) ?_
      refine w_zn (by decide +kernel) ?_
      refine w_dn (by decide +kernel) ?_
      refine w_ok (by decide +kernel) ?_
      refine w_zr (by decide +kernel) ?_
      refine w_zn (by decide +kernel) ?_
      refine w_dn (by decide +kernel) ?_
      refine w_ok (by decide +kernel) ?_
      refine w_zr (by decide +kernel) ?_
      refine w_zn (by decide +kernel) ?_
      refine w_dn (by decide +kernel) ?_
      refine w_ok (by decide +kernel) ?_
      refine w_zr (by decide +kernel) ?_
      refine w_zn (by decide +kernel) ?_
      refine w_dn (by decide +kernel) ?_
      refine w_ok (by decide +kernel) ?_
      refine w_zr (by decide +kernel) ?_
      refine w_zn (by decide +kernel) ?_
      refine w_dn (by decide +kernel) ?_
      refine w_ok (by decide +kernel) ?_
      refine w_zr (by decide +kernel) ?_
      refine w_zn (by decide +kernel) ?_
      refine w_dn (by decide +kernel) ?_
      refine w_ok (by decide +kernel) ?_
      refine w_zr (by decide +kernel) ?_
      exact wi_some rfl
    refine w_ok (by decide +kernel) ?_
    refine w_zr (by decide +kernel) ?_
    refine w_zn (by decide +kernel) ?_
    refine w_dn (by decide +kernel) ?_
    apply w_b4
    · refine eq_wp ?_
      unfold f_X7_init
      refine wi_ck (by decide +kernel) ?_
      refine w_zn (by decide +kernel) ?_
      refine w_dn (by decide +kernel) ?_
      refine w_ok (by decide +kernel) ?_
      refine w_zr (by decide +kernel) ?_
      refine wi_ck (by decide +kernel) ?_
      refine w_zn (by decide +kernel) ?_
      refine w_dn (by decide +kernel) ?_
      refine w_ok (by decide +kernel) ?_
      refine w_zr (by decide +kernel) ?_
      exact wi_some rfl
    refine w_ok (by decide +kernel) ?_
    refine w_zr (by decide +kernel) ?_
    refine w_zn (by decide +kernel) ?_
    refine w_dn (by decide +kernel) ?_
    refine w_ok (by decide +kernel) ?_
    refine w_zr (by decide +kernel) ?_
    refine w_zn (by decide +kernel) ?_
    refine w_dn (by decide +kernel) ?_
    refine w_ok (by decide +kernel) ?_
    refine w_zr (by decide +kernel) ?_
    refine w_zn (by decide +kernel) ?_
    refine w_dn (by decide +kernel) ?_
    refine w_ok (by decide +kernel) ?_
    refine w_zr (by decide +kernel) ?_
    refine w_zn (by decide +kernel) ?_
    refine w_dn (by decide +kernel) ?_
    refine w_ok (by decide +kernel) ?_
    refine w_zr (by decide +kernel) ?_
    refine w_zn (by decide +kernel) ?_
    refine w_dn (by decide +kernel) ?_
    refine w_ok (by decide +kernel) ?_
    refine w_zr (by decide +kernel) ?_
    refine w_zn (by decide +kernel) ?_
    refine w_dn (by decide +kernel) ?_
    refine w_ok (by decide +kernel) ?_
    refine w_zr (by decide +kernel) ?_
    refine w_zn (by decide +kernel) ?_
    refine w_dn (by decide +kernel) ?_
    refine w_ok (by decide +kernel) ?_
    refine w_zr (by decide +kernel) ?_
    refine w_zn (by decide +kernel) ?_
    refine w_dn (by decide +kernel) ?_
    refine w_ok (by decide +kernel) ?_
    refine w_zr (by decide +kernel) ?_
    refine w_zn (by decide +kernel) ?_
    refine w_dn (by decide +kernel) ?_
    refine w_ok (by decide +kernel) ?_
    refine w_zr (by decide +kernel) ?_
    refine w_zn (by decide +kernel) ?_
    refine w_dn (by decide +kernel) ?_
    refine w_ok (by decide +kernel) ?_
    refine w_zr (by decide +kernel) ?_
    refine w_zn (by decide +kernel) ?_
    refine w_dn (by decide +kernel) ?_
    refine w_ok (by decide +kernel) ?_
    refine w_zr (by decide +kernel) ?_
    refine w_ok (by decide +kernel) ?_
    refine w_r1 (b := 115) (by decide +kernel) ?_
    refine wi_ck (ix_l (len := 10) (by decide +kernel) (by decide +kernel) (by decide +kernel) (by decide) (by decide)) ?_
    refine w_di ?_
    refine w_r1 (b := 116) (by decide +kernel) ?_
    refine w_fl (len := 5) (by omega) (by decide +kernel) (by decide +kernel) (by decide +kernel) ?_
    exact wi_some rfl
  refine w_ok (by decide +kernel) ?_
  refine w_zr (by decide +kernel) ?_
  refine w_zn (by decide +kernel) ?_
  refine w_dn (by decide +kernel) ?_
  apply w_b4
  · refine eq_wp ?_
    unfold f_X7_init
    refine wi_ck (by decide +kernel) ?_
    refine w_zn (by decide +kernel) ?_
    refine w_dn (by decide +kernel) ?_
    refine w_ok (by decide +kernel) ?_
    refine w_zr (by decide +kernel) ?_
    refine wi_ck (by decide +kernel) ?_
    refine w_zn (by decide +kernel) ?_
    refine w_dn (by decide +kernel) ?_
    refine w_ok (by decide +kernel) ?_
    refine w_zr (by decide +kernel) ?_
    exact wi_some rfl
  refine w_ok (by decide +kernel) ?_
  refine w_zr (by decide +kernel) ?_
  refine w_zn (by decide +kernel) ?_
  refine w_dn (by decide +kernel) ?_
  refine w_ok (by decide +kernel) ?_
  refine w_zr (by decide +kernel) ?_
  refine w_zn (by decide +kernel) ?_
  refine w_dn (by decide +kernel) ?_
  refine w_ok (by decide +kernel) ?_
  refine w_zr (by decide +kernel) ?_
  refine w_ok (by decide +kernel) ?_
  refine w_di ?_
  refine w_r1 (b := 42) (by decide +kernel) ?_
  refine w_fl (len := 40) (by omega) (by decide +kernel) (by decide +kernel) (by decide +kernel) ?_
  refine wi_some (Prod.ext (congrArg Zl ?_) rfl)
  decide +kernel
end COC

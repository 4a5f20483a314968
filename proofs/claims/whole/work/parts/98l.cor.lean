/-! THE REFERENCE'S CONSTRUCTOR -/
section COR
variable {n : Nat}
/-- its last loop -/
theorem e_757 (hn : 100000 ≤ n) {L : List (Nat × Nat × Nat × Int32)} : f_X12_init_757 n (Zl zR_) 125 0 (Dl L) = some (Zl zR_, Dl ((125, 111, 112, -1005) :: (166, 1, 2, -1005) :: (166, 0, 1, -1005) :: (128, 0, 40, -1005) :: L)) := by
  refine eq_wp ?_
  unfold f_X12_init_757
  refine wp_fx2 (J := fun x1 d' => ∃ i : Nat, i ≤ 40 ∧ x1 = nI i ∧ d' = Dl ((128, 0, i, -1005) :: L)) (μ := fun x1 _ => 50 - ix_n x1) ?_ n 0 (Dl L) ⟨0, by omega, rfl, ?_⟩ (by omega)
  · rintro rec x1 d' ⟨i, hi, rfl, rfl⟩ ih
    have ei : (nI i).toInt = i := nI_ti (by omega)
    have n0 : ix_n (nI i) = i := nI_n (by omega)
    have n1 : ix_n (nI (i + 1)) = i + 1 := nI_n (by omega)
    have e40 : (40 : Int32).toInt = 40 := rfl
    unfold b_X12_init_757
    by_cases c : 40 ≤ i
    · refine wi_ifp (by rw [ti_le]; omega) ?_
      refine w_ok (by decide +kernel) ?_
      refine w_r1 (b := 166) (by decide +kernel) ?_
      refine wi_ck (ix_l (len := 2) (by decide +kernel) (by decide +kernel) (by decide +kernel) (by decide) (by decide)) ?_
      refine w_di ?_
      refine wi_ck (ix_l (len := 2) (by decide +kernel) (by decide +kernel) (by decide +kernel) (by decide) (by decide)) ?_
      refine w_di ?_
      refine w_di ?_
      refine wi_some ?_
      rw [show i = 40 by omega]
      rfl
    · refine wi_ifn (by rw [ti_le]; omega) ?_
      refine w_ok (by decide +kernel) ?_
      refine w_r1 (b := 128) (by decide +kernel) ?_
      refine wi_ck (ix_l (len := 40) (by decide +kernel) (by decide +kernel) (by decide +kernel) (by omega) (by omega)) ?_
      refine wi_lt (wi_lt ?_)
      rw [n0, nI_1]
      refine ih _ _ ⟨i + 1, by omega, rfl, ?_⟩ (by rw [n1, n0]; omega)
      rw [di_l]
      unfold Dl
      refine Prod.ext (funext fun a' => funext fun k' => ?_) rfl
      show (if a' = 128 ∧ i ≤ k' ∧ k' < i + 1 then -1005 else (if a' = 128 ∧ 0 ≤ k' ∧ k' < i then -1005 else lk_ L a' k')) = (if a' = 128 ∧ 0 ≤ k' ∧ k' < i + 1 then -1005 else lk_ L a' k')
      by_cases c1 : a' = 128 ∧ k' < i + 1
      · rw [if_pos (show a' = 128 ∧ 0 ≤ k' ∧ k' < i + 1 by omega)]
        by_cases c2 : k' = i
        · rw [if_pos (by omega)]
        · rw [if_neg (by omega), if_pos (by omega)]
      · rw [if_neg (show ¬ (a' = 128 ∧ 0 ≤ k' ∧ k' < i + 1) by omega), if_neg (by omega), if_neg (by omega)]
  · unfold Dl
    refine Prod.ext (funext fun a' => funext fun k' => ?_) rfl
    show lk_ L a' k' = (if a' = 128 ∧ 0 ≤ k' ∧ k' < 0 then -1005 else lk_ L a' k')
    rw [if_neg (by omega)]
set_option maxRecDepth 100000 in
set_option maxHeartbeats 8000000 in
theorem e_coR (hn : 100000 ≤ n) : f_X12_init n (ix_zn (Zl zC_) 11 116) 125 (ix_dn (Dl dC_l) 125) = some (Zl zR_, Dl dR_l) := by
  rw [zn_l (by decide +kernel), dn_l (by decide +kernel)]
  refine eq_wp ?_
  unfold f_X12_init
  refine w_zn (by decide +kernel) ?_
  refine w_dn (by decide +kernel) ?_
  refine w_ok (by decide +kernel) ?_
  refine w_zr (by decide +kernel) ?_
  refine w_zn (by decide +kernel) ?_
  refine w_dn (by decide +kernel) ?_
  refine w_ok (by decide +kernel) ?_
  refine w_zr (by decide +kernel) ?_
  refine w_zn (by decide +kernel) ?_
  refine w_dn (by decide +kernel) ?_
  refine w_ok (by decide +kernel) ?_
  refine w_zr (by decide +kernel) ?_
  refine w_zn (by decide +kernel) ?_
  refine w_dn (by decide +kernel) ?_
  refine w_ok (by decide +kernel) ?_
  refine w_zr (by decide +kernel) ?_
  refine w_zn (by decide +kernel) ?_
  refine w_dn (by decide +kernel) ?_
  refine w_ok (by decide +kernel) ?_
  refine w_zr (by decide +kernel) ?_
  refine w_zn (by decide +kernel) ?_
  refine w_dn (by decide +kernel) ?_
  refine w_ok (by decide +kernel) ?_
  refine w_zr (by decide +kernel) ?_
  refine w_zn (by decide +kernel) ?_
  refine w_dn (by decide +kernel) ?_
  refine w_ok (by decide +kernel) ?_
  refine w_zr (by decide +kernel) ?_
  refine w_zn (by decide +kernel) ?_
  refine w_dn (by decide +kernel) ?_
  refine w_ok (by decide +kernel) ?_
  refine w_zr (by decide +kernel) ?_
  refine w_zn (by decide +kernel) ?_
  refine w_dn (by decide +kernel) ?_
  refine w_ok (by decide +kernel) ?_
  refine w_zr (by decide +kernel) ?_
  refine w_zn (by decide +kernel) ?_
  refine w_dn (by decide +kernel) ?_
  refine w_ok (by decide +kernel) ?_
  refine w_zr (by decide +kernel) ?_
  refine w_zn (by decide +kernel) ?_
  refine w_dn (by decide +kernel) ?_
  refine w_ok (by decide +kernel) ?_
  refine w_zr (by decide +kernel) ?_
  refine w_zn (by decide +kernel) ?_
  refine w_dn (by decide +kernel) ?_
  refine w_ok (by decide +kernel) ?_
  refine w_zr (by decide +kernel) ?_
  refine w_zn (by decide +kernel) ?_
  refine w_dn (by decide +kernel) ?_
  refine w_ok (by decide +kernel) ?_
  refine w_zr (by decide +kernel) ?_
  refine w_zn (by decide +kernel) ?_
  refine w_dn (by decide +kernel) ?_
  refine w_ok (by decide +kernel) ?_
  refine w_zr (by decide +kernel) ?_
  refine w_zn (by decide +kernel) ?_
  refine w_dn (by decide +kernel) ?_
  refine w_ok (by decide +kernel) ?_
  refine w_zr (by decide +kernel) ?_
  refine w_zn (by decide +kernel) ?_
  refine w_dn (by decide +kernel) ?_
  refine w_ok (by decide +kernel) ?_
  refine w_zr (by decide +kernel) ?_
  refine w_zn (by decide +kernel) ?_
  refine w_dn (by decide +kernel) ?_
  refine w_ok (by decide +kernel) ?_
  refine w_zr (by decide +kernel) ?_
  refine w_zn (by decide +kernel) ?_
  refine w_dn (by decide +kernel) ?_
  refine w_ok (by decide +kernel) ?_
  refine w_zr (by decide +kernel) ?_
  refine w_zn (by decide +kernel) ?_
  refine w_dn (by decide +kernel) ?_
  refine w_ok (by decide +kernel) ?_
  refine w_zr (by decide +kernel) ?_
  refine w_zn (by decide +kernel) ?_
  refine w_dn (by decide +kernel) ?_
  refine w_ok (by decide +kernel) ?_
  refine w_zr (by decide +kernel) ?_
  refine w_zn (by decide +kernel) ?_
  refine w_dn (by decide +kernel) ?_
  refine w_ok (by decide +kernel) ?_
  refine w_zr (by decide +kernel) ?_
  refine w_zn (by decide +kernel) ?_
  refine w_dn (by decide +kernel) ?_
  refine w_ok (by decide +kernel) ?_
  refine w_zr (by decide +kernel) ?_
  refine w_zn (by decide +kernel) ?_
  refine w_dn (by decide +kernel) ?_
  refine w_ok (by decide +kernel) ?_
  refine w_zr (by decide +kernel) ?_
  refine w_zn (by decide +kernel) ?_
  refine w_dn (by decide +kernel) ?_
  refine w_ok (by decide +kernel) ?_
  refine w_zr (by decide +kernel) ?_
  refine w_zn (by decide +kernel) ?_
  refine w_dn (by decide +kernel) ?_
  refine w_ok (by decide +kernel) ?_
  refine w_zr (by decide +kernel) ?_
  refine w_zn (by decide +kernel) ?_
  refine w_dn (by decide +kernel) ?_
  refine w_ok (by decide +kernel) ?_
  refine w_zr (by decide +kernel) ?_
  refine w_zn (by decide +kernel) ?_
  refine w_dn (by decide +kernel) ?_
  refine w_ok (by decide +kernel) ?_
  refine w_zr (by decide +kernel) ?_
  refine w_zn (by decide +kernel) ?_
  refine w_dn (by decide +kernel) ?_
  refine w_ok (by decide +kernel) ?_
  refine w_zr (by decide +kernel) ?_
  refine w_zn (by decide +kernel) ?_
  refine w_dn (by decide +kernel) ?_
  refine w_ok (by decide +kernel) ?_
  refine w_zr (by decide +kernel) ?_
  refine w_zn (by decide +kernel) ?_
  refine w_dn (by decide +kernel) ?_
  refine w_ok (by decide +kernel) ?_
  refine w_zr (by decide +kernel) ?_
  refine w_zn (by decide +kernel) ?_
  refine w_dn (by decide +kernel) ?_
  refine w_ok (by decide +kernel) ?_
  refine w_zr (by decide +kernel) ?_
  refine w_zn (by decide +kernel) ?_
  refine w_dn (by decide +kernel) ?_
  refine w_ok (by decide +kernel) ?_
  refine w_zr (by decide +kernel) ?_
  refine w_zn (by decide +kernel) ?_
  refine w_dn (by decide +kernel) ?_
  refine w_ok (by decide +kernel) ?_
  refine w_zr (by decide +kernel) ?_
  refine w_zn (by decide +kernel) ?_
  refine w_dn (by decide +kernel) ?_
  refine wi_ck (ix_l (len := 26) (by decide +kernel) (by decide +kernel) (by decide +kernel) (by decide) (by decide)) ?_
  refine w_di ?_
  refine wi_ck (ix_l (len := 26) (by decide +kernel) (by decide +kernel) (by decide +kernel) (by decide) (by decide)) ?_
  refine w_di ?_
  refine wi_ck (ix_l (len := 26) (by decide +kernel) (by decide +kernel) (by decide +kernel) (by decide) (by decide)) ?_
  refine w_di ?_
  refine wi_ck (ix_l (len := 26) (by decide +kernel) (by decide +kernel) (by decide +kernel) (by decide) (by decide)) ?_
  refine w_di ?_
  refine wi_ck (ix_l (len := 26) (by decide +kernel) (by decide +kernel) (by decide +kernel) (by decide) (by decide)) ?_
  refine w_di ?_
  refine wi_ck (ix_l (len := 26) (by decide +kernel) (by decide +kernel) (by decide +kernel) (by decide) (by decide)) ?_
  refine w_di ?_
  refine wi_ck (ix_l (len := 26) (by decide +kernel) (by decide +kernel) (by decide +kernel) (by decide) (by decide)) ?_
  refine w_di ?_
  refine wi_ck (ix_l (len := 26) (by decide +kernel) (by decide +kernel) (by decide +kernel) (by decide) (by decide)) ?_
  refine w_di ?_
  refine wi_ck (ix_l (len := 26) (by decide +kernel) (by decide +kernel) (by decide +kernel) (by decide) (by decide)) ?_
  refine w_di ?_
  refine wi_ck (ix_l (len := 26) (by decide +kernel) (by decide +kernel) (by decide +kernel) (by decide) (by decide)) ?_
  refine w_di ?_
  refine wi_ck (ix_l (len := 26) (by decide +kernel) (by decide +kernel) (by decide +kernel) (by decide) (by decide)) ?_
  refine w_di ?_
  refine wi_ck (ix_l (len := 26) (by decide +kernel) (by decide +kernel) (by decide +kernel) (by decide) (by decide)) ?_
  refine w_di ?_
  refine wi_ck (ix_l (len := 26) (by decide +kernel) (by decide +kernel) (by decide +kernel) (by decide) (by decide)) ?_
  refine w_di ?_
  refine wi_ck (ix_l (len := 26) (by decide +kernel) (by decide +kernel) (by decide +kernel) (by decide) (by decide)) ?_
  refine w_di ?_
  refine wi_ck (ix_l (len := 26) (by decide +kernel) (by decide +kernel) (by decide +kernel) (by decide) (by decide)) ?_
  refine w_di ?_
  refine wi_ck (ix_l (len := 26) (by decide +kernel) (by decide +kernel) (by decide +kernel) (by decide) (by decide)) ?_
  refine w_di ?_
  refine wi_ck (ix_l (len := 26) (by decide +kernel) (by decide +kernel) (by decide +kernel) (by decide) (by decide)) ?_
  refine w_di ?_
  refine wi_ck (ix_l (len := 26) (by decide +kernel) (by decide +kernel) (by decide +kernel) (by decide) (by decide)) ?_
  refine w_di ?_
  refine wi_ck (ix_l (len := 26) (by decide +kernel) (by decide +kernel) (by decide +kernel) (by decide) (by decide)) ?_
  refine w_di ?_
  refine wi_ck (ix_l (len := 26) (by decide +kernel) (by decide +kernel) (by decide +kernel) (by decide) (by decide)) ?_
  refine w_di ?_
  refine wi_ck (ix_l (len := 26) (by decide +kernel) (by decide +kernel) (by decide +kernel) (by decide) (by decide)) ?_
  refine w_di ?_
  refine wi_ck (ix_l (len := 26) (by decide +kernel) (by decide +kernel) (by decide +kernel) (by decide) (by decide)) ?_
  refine w_di ?_
  refine wi_ck (ix_l (len := 26) (by decide +kernel) (by decide +kernel) (by decide +kernel) (by decide) (by decide)) ?_
  refine w_di ?_
  refine wi_ck (ix_l (len := 26) (by decide +kernel) (by decide +kernel) (by decide +kernel) (by decide) (by decide)) ?_
  refine w_di ?_
  refine wi_ck (ix_l (len := 26) (by decide +kernel) (by decide +kernel) (by decide +kernel) (by decide) (by decide)) ?_
  refine w_di ?_
  refine wi_ck (ix_l (len := 26) (by decide +kernel) (by decide +kernel) (by decide +kernel) (by decide) (by decide)) ?_
  refine w_di ?_
  refine w_ok (by decide +kernel) ?_
  refine w_zr (by decide +kernel) ?_
  refine w_zn (by decide +kernel) ?_
  refine w_dn (by decide +kernel) ?_
  refine w_ok (by decide +kernel) ?_
  refine w_zr (by decide +kernel) ?_
  refine w_zn (by decide +kernel) ?_
  refine w_dn (by decide +kernel) ?_
  refine w_ok (by decide +kernel) ?_
  refine w_zr (by decide +kernel) ?_
  refine w_zn (by decide +kernel) ?_
  refine w_dn (by decide +kernel) ?_
  refine w_ok (by decide +kernel) ?_
  refine w_zr (by decide +kernel) ?_
  refine w_zn (by decide +kernel) ?_
  refine w_dn (by decide +kernel) ?_
  refine w_ok (by decide +kernel) ?_
  refine w_zr (by decide +kernel) ?_
  refine w_zn (by decide +kernel) ?_
  refine w_dn (by decide +kernel) ?_
  refine w_ok (by decide +kernel) ?_
  refine w_zr (by decide +kernel) ?_
  refine w_zn (by decide +kernel) ?_
  refine w_dn (by decide +kernel) ?_
  refine w_ok (by decide +kernel) ?_
  refine w_zr (by decide +kernel) ?_
  refine w_zn (by decide +kernel) ?_
  refine w_dn (by decide +kernel) ?_
  refine w_ok (by decide +kernel) ?_
  refine w_zr (by decide +kernel) ?_
  refine w_zn (by decide +kernel) ?_
  refine w_dn (by decide +kernel) ?_
  refine w_ok (by decide +kernel) ?_
  refine w_zr (by decide +kernel) ?_
  refine w_zn (by decide +kernel) ?_
  refine w_dn (by decide +kernel) ?_
  refine w_ok (by decide +kernel) ?_
  refine w_zr (by decide +kernel) ?_
  refine w_zn (by decide +kernel) ?_
  refine w_dn (by decide +kernel) ?_
  refine w_ok (by decide +kernel) ?_
  refine w_zr (by decide +kernel) ?_
  refine w_zn (by decide +kernel) ?_
  refine w_dn (by decide +kernel) ?_
  refine w_ok (by decide +kernel) ?_
  refine w_zr (by decide +kernel) ?_
  refine w_zn (by decide +kernel) ?_
  refine w_dn (by decide +kernel) ?_
  refine w_ok (by decide +kernel) ?_
  refine w_zr (by decide +kernel) ?_
  refine w_zn (by decide +kernel) ?_
  refine w_dn (by decide +kernel) ?_
  refine w_ok (by decide +kernel) ?_
  refine w_zr (by decide +kernel) ?_
  refine w_zn (by decide +kernel) ?_
  refine w_dn (by decide +kernel) ?_
  refine w_ok (by decide +kernel) ?_
  refine w_zr (by decide +kernel) ?_
  refine w_zn (by decide +kernel) ?_
  refine w_dn (by decide +kernel) ?_
  refine w_ok (by decide +kernel) ?_
  refine w_zr (by decide +kernel) ?_
  refine w_zn (by decide +kernel) ?_
  refine w_dn (by decide +kernel) ?_
  refine w_ok (by decide +kernel) ?_
  refine w_zr (by decide +kernel) ?_
  refine w_zn (by decide +kernel) ?_
  refine w_dn (by decide +kernel) ?_
  refine w_ok (by decide +kernel) ?_
  refine w_zr (by decide +kernel) ?_
  refine w_zn (by decide +kernel) ?_
  refine w_dn (by decide +kernel) ?_
  refine w_ok (by decide +kernel) ?_
  refine w_zr (by decide +kernel) ?_
  refine w_zn (by decide +kernel) ?_
  refine w_dn (by decide +kernel) ?_
  refine w_ok (by decide +kernel) ?_
  refine w_zr (by decide +kernel) ?_
  refine w_zn (by decide +kernel) ?_
  refine w_dn (by decide +kernel) ?_
  refine w_ok (by decide +kernel) ?_
  refine w_zr (by decide +kernel) ?_
  refine w_zn (by decide +kernel) ?_
  refine w_dn (by decide +kernel) ?_
  refine w_ok (by decide +kernel) ?_
  refine w_zr (by decide +kernel) ?_
  refine w_zn (by decide +kernel) ?_
  refine w_dn (by decide +kernel) ?_
  refine w_ok (by decide +kernel) ?_
  refine w_zr (by decide +kernel) ?_
  refine w_zn (by decide +kernel) ?_
  refine w_dn (by decide +kernel) ?_
  refine w_ok (by decide +kernel) ?_
  refine w_zr (by decide +kernel) ?_
  refine w_zn (by decide +kernel) ?_
  refine w_dn (by decide +kernel) ?_
  refine w_ok (by decide +kernel) ?_
  refine w_zr (by decide +kernel) ?_
  refine w_zn (by decide +kernel) ?_
  refine w_dn (by decide +kernel) ?_
  refine w_ok (by decide +kernel) ?_
  refine w_zr (by decide +kernel) ?_
  refine w_zn (by decide +kernel) ?_
  refine w_dn (by decide +kernel) ?_
  refine w_ok (by decide +kernel) ?_
  refine w_zr (by decide +kernel) ?_
  refine w_zn (by decide +kernel) ?_
  refine w_dn (by decide +kernel) ?_
  refine w_ok (by decide +kernel) ?_
  refine w_zr (by decide +kernel) ?_
  refine w_zn (by decide +kernel) ?_
  refine w_dn (by decide +kernel) ?_
  refine w_ok (by decide +kernel) ?_
  refine w_zr (by decide +kernel) ?_
  refine w_zn (by decide +kernel) ?_
  refine w_dn (by decide +kernel) ?_
  refine w_ok (by decide +kernel) ?_
  refine w_zr (by decide +kernel) ?_
  refine w_zn (by decide +kernel) ?_
  refine w_dn (by decide +kernel) ?_
  refine w_ok (by decide +kernel) ?_
  refine w_zr (by decide +kernel) ?_
  refine w_zn (by decide +kernel) ?_
  refine w_dn (by decide +kernel) ?_
  refine w_ok (by decide +kernel) ?_
  refine w_zr (by decide +kernel) ?_
  refine w_zn (by decide +kernel) ?_
  refine w_dn (by decide +kernel) ?_
  refine w_ok (by decide +kernel) ?_
  refine w_zr (by decide +kernel) ?_
  refine w_zn (by decide +kernel) ?_
  refine w_dn (by decide +kernel) ?_
  refine w_ok (by decide +kernel) ?_
  refine w_zr (by decide +kernel) ?_
  refine w_zn (by decide +kernel) ?_
  refine w_dn (by decide +kernel) ?_
  refine w_ok (by decide +kernel) ?_
  refine w_zr (by decide +kernel) ?_
  refine w_zn (by decide +kernel) ?_
  refine w_dn (by decide +kernel) ?_
  refine w_ok (by decide +kernel) ?_
  refine w_zr (by decide +kernel) ?_
  refine w_zn (by decide +kernel) ?_
  refine w_dn (by decide +kernel) ?_
  refine w_ok (by decide +kernel) ?_
  refine w_zr (by decide +kernel) ?_
  refine w_zn (by decide +kernel) ?_
  refine w_dn (by decide +kernel) ?_
  refine w_ok (by decide +kernel) ?_
  refine w_zr (by decide +kernel) ?_
  refine w_zn (by decide +kernel) ?_
  refine w_dn (by decide +kernel) ?_
  refine w_ok (by decide +kernel) ?_
  refine w_zr (by decide +kernel) ?_
  refine w_zn (by decide +kernel) ?_
  refine w_dn (by decide +kernel) ?_
  refine w_ok (by decide +kernel) ?_
  refine w_zr (by decide +kernel) ?_
  have e : ∀ S : List (List (Option Nat)) × List (Nat × Nat), S = zR_ → wp_t (f_X12_init_757 n (Zl S) 125 0 (Dl (dW_l ++ dC_l))) (fun r => r = (Zl zR_, Dl dR_l)) := fun S hS => by
    rw [hS, e_757 hn]; exact wi_some rfl
  exact e _ (by decide +kernel)
end COR

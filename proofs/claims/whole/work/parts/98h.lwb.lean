/-! THE LAW'S BODY: all cases -/
section LWC
variable {n j Ls : Nat} {xs : Nat → Int32} {z : ix_Z} {d : ix_D2}
theorem k_nx (h : J_ j z d) : J_ (j + 1) z d := by
  obtain ⟨hz, ist, inm, igo, ibg, iwt, ias, ict, ics, ibn, iru, irt, ibr, ipf, ibs, itn, hlt, ipap, itp, itb, iou, ick, int, idr, iwd, itt, itd, isp, iyn⟩ := h
  exact ⟨hz, ist, inm, igo, ibg, iwt, ias, ict, ics, ibn, iru, irt, ibr, ipf, ibs, itn, hlt, ipap, itp, itb, iou, ick, k_nt int (fun _ _ _ => rfl), idr, iwd, itt, itd, isp, iyn⟩
theorem if_ex {α : Type} {P : Prop} {a b : Option α} {Q : α → Prop} (h1 : P → ∃ x, a = some x ∧ Q x) (h2 : ¬ P → ∃ x, b = some x ∧ Q x) : ∃ x, ix_if P a b = some x ∧ Q x := by
  unfold ix_if
  by_cases c : P
  · rw [if_pos c]; exact h1 c
  · rw [if_neg c]; exact h2 c
theorem ex_p {o : Option (ix_Z × ix_D2)} {Q : ix_Z → ix_D2 → Prop} (h : ∃ z d, o = some (z, d) ∧ Q z d) : ∃ x, o = some x ∧ Q x.1 x.2 := by
  obtain ⟨a, b, e, q⟩ := h
  exact ⟨(a, b), e, q⟩
theorem jl_body (hn : 100000 ≤ n) (hL : 6 * j + 6 ≤ Ls) (hL2 : Ls ≤ 3072) (h : J_ j z d) : ∃ z' d', f_law_body n Ls xs z 0 125 (nI (6 * j)) d = some (z', d') ∧ J_ (j + 1) z' d' := by
  have k0 : vp_in (nI (6 * j)) Ls := by
    have e : (nI (6 * j)).toInt = ((6 * j : Nat) : Int) := nI_ti (by omega)
    exact (ni_vp (by omega)).mpr ⟨by rw [ti_le]; simp only [Int32.reduceToInt]; omega, by rw [ti_lt, ni_ofNat (by omega)]; omega⟩
  suffices hs : ∃ x : ix_Z × ix_D2, f_law_body n Ls xs z 0 125 (nI (6 * j)) d = some x ∧ J_ (j + 1) x.1 x.2 by
    obtain ⟨x, e, q⟩ := hs
    exact ⟨x.1, x.2, e, q⟩
  unfold f_law_body ix_ck
  rw [if_pos k0]
  refine if_ex (Q := fun x : ix_Z × ix_D2 => J_ (j + 1) x.1 x.2) (fun _ => ex_p (jl_268 hn hL hL2 h)) fun _ => ?_
  refine if_ex (Q := fun x : ix_Z × ix_D2 => J_ (j + 1) x.1 x.2) (fun _ => ex_p (jl_291 hn hL hL2 h)) fun _ => ?_
  refine if_ex (Q := fun x : ix_Z × ix_D2 => J_ (j + 1) x.1 x.2) (fun _ => ex_p (jl_324 hn hL hL2 h)) fun _ => ?_
  refine if_ex (Q := fun x : ix_Z × ix_D2 => J_ (j + 1) x.1 x.2) (fun _ => ex_p (jl_347 hn hL hL2 h)) fun _ => ?_
  refine if_ex (Q := fun x : ix_Z × ix_D2 => J_ (j + 1) x.1 x.2) (fun _ => ex_p (jl_390 hn hL hL2 h)) fun _ => ?_
  refine if_ex (Q := fun x : ix_Z × ix_D2 => J_ (j + 1) x.1 x.2) (fun _ => ex_p (jl_424 hn hL hL2 h)) fun _ => ?_
  refine if_ex (Q := fun x : ix_Z × ix_D2 => J_ (j + 1) x.1 x.2) (fun _ => ex_p (jl_487 hn hL hL2 h)) fun _ => ?_
  refine if_ex (Q := fun x : ix_Z × ix_D2 => J_ (j + 1) x.1 x.2) (fun _ => ex_p (jl_520 hn hL hL2 h)) fun _ => ?_
  refine if_ex (Q := fun x : ix_Z × ix_D2 => J_ (j + 1) x.1 x.2) (fun _ => ex_p (jl_583 hn hL hL2 h)) fun _ => ?_
  refine if_ex (Q := fun x : ix_Z × ix_D2 => J_ (j + 1) x.1 x.2) (fun _ => ex_p (jl_596 hn hL hL2 h)) fun _ => ?_
  refine if_ex (Q := fun x : ix_Z × ix_D2 => J_ (j + 1) x.1 x.2) (fun _ => ex_p (jl_619 hn hL hL2 h)) fun _ => ?_
  refine if_ex (Q := fun x : ix_Z × ix_D2 => J_ (j + 1) x.1 x.2) (fun _ => ex_p (jl_652 hn hL hL2 h)) fun _ => ?_
  refine if_ex (Q := fun x : ix_Z × ix_D2 => J_ (j + 1) x.1 x.2) (fun _ => ex_p (jl_685 hn hL hL2 h)) fun _ => ?_
  refine if_ex (Q := fun x : ix_Z × ix_D2 => J_ (j + 1) x.1 x.2) (fun _ => ex_p (jl_734 hn hL hL2 h)) fun _ => ?_
  refine if_ex (Q := fun x : ix_Z × ix_D2 => J_ (j + 1) x.1 x.2) (fun _ => ex_p (jl_747 hn hL hL2 h)) fun _ => ?_
  refine if_ex (Q := fun x : ix_Z × ix_D2 => J_ (j + 1) x.1 x.2) (fun _ => ex_p (jl_770 hn hL hL2 h)) fun _ => ?_
  refine if_ex (Q := fun x : ix_Z × ix_D2 => J_ (j + 1) x.1 x.2) (fun _ => ex_p (jl_803 hn hL hL2 h)) fun _ => ?_
  refine if_ex (Q := fun x : ix_Z × ix_D2 => J_ (j + 1) x.1 x.2) (fun _ => ex_p (jl_836 hn hL hL2 h)) fun _ => ?_
  refine if_ex (Q := fun x : ix_Z × ix_D2 => J_ (j + 1) x.1 x.2) (fun _ => ex_p (jl_869 hn hL hL2 h)) fun _ => ?_
  refine if_ex (Q := fun x : ix_Z × ix_D2 => J_ (j + 1) x.1 x.2) (fun _ => ex_p (jl_902 hn hL hL2 h)) fun _ => ?_
  refine if_ex (Q := fun x : ix_Z × ix_D2 => J_ (j + 1) x.1 x.2) (fun _ => ex_p (jl_935 hn hL hL2 h)) fun _ => ?_
  refine if_ex (Q := fun x : ix_Z × ix_D2 => J_ (j + 1) x.1 x.2) (fun _ => ex_p (jl_958 hn hL hL2 h)) fun _ => ?_
  refine if_ex (Q := fun x : ix_Z × ix_D2 => J_ (j + 1) x.1 x.2) (fun _ => ex_p (jl_971 hn hL hL2 h)) fun _ => ?_
  refine if_ex (Q := fun x : ix_Z × ix_D2 => J_ (j + 1) x.1 x.2) (fun _ => ex_p (jl_994 hn hL hL2 h)) fun _ => ?_
  refine if_ex (Q := fun x : ix_Z × ix_D2 => J_ (j + 1) x.1 x.2) (fun _ => ex_p (jl_1017 hn hL hL2 h)) fun _ => ?_
  refine if_ex (Q := fun x : ix_Z × ix_D2 => J_ (j + 1) x.1 x.2) (fun _ => ex_p (jl_1030 hn hL hL2 h)) fun _ => ?_
  refine if_ex (Q := fun x : ix_Z × ix_D2 => J_ (j + 1) x.1 x.2) (fun _ => ex_p (jl_1063 hn hL hL2 h)) fun _ => ?_
  refine if_ex (Q := fun x : ix_Z × ix_D2 => J_ (j + 1) x.1 x.2) (fun _ => ex_p (jl_1087 hn hL hL2 h)) fun _ => ?_
  refine if_ex (Q := fun x : ix_Z × ix_D2 => J_ (j + 1) x.1 x.2) (fun _ => ex_p (jl_1110 hn hL hL2 h)) fun _ => ?_
  refine if_ex (Q := fun x : ix_Z × ix_D2 => J_ (j + 1) x.1 x.2) (fun _ => ex_p (jl_1133 hn hL hL2 h)) fun _ => ?_
  refine if_ex (Q := fun x : ix_Z × ix_D2 => J_ (j + 1) x.1 x.2) (fun _ => ex_p (jl_1156 hn hL hL2 h)) fun _ => ?_
  refine if_ex (Q := fun x : ix_Z × ix_D2 => J_ (j + 1) x.1 x.2) (fun _ => ex_p (jl_1179 hn hL hL2 h)) fun _ => ?_
  refine if_ex (Q := fun x : ix_Z × ix_D2 => J_ (j + 1) x.1 x.2) (fun _ => ex_p (jl_1202 hn hL hL2 h)) fun _ => ?_
  refine if_ex (Q := fun x : ix_Z × ix_D2 => J_ (j + 1) x.1 x.2) (fun _ => ex_p (jl_1225 hn hL hL2 h)) fun _ => ?_
  refine if_ex (Q := fun x : ix_Z × ix_D2 => J_ (j + 1) x.1 x.2) (fun _ => ex_p (jl_1248 hn hL hL2 h)) fun _ => ?_
  refine if_ex (Q := fun x : ix_Z × ix_D2 => J_ (j + 1) x.1 x.2) (fun _ => ex_p (jl_1271 hn hL hL2 h)) fun _ => ?_
  refine if_ex (Q := fun x : ix_Z × ix_D2 => J_ (j + 1) x.1 x.2) (fun _ => ex_p (jl_1304 hn hL hL2 h)) fun _ => ?_
  refine if_ex (Q := fun x : ix_Z × ix_D2 => J_ (j + 1) x.1 x.2) (fun _ => ex_p (jl_1327 hn hL hL2 h)) fun _ => ?_
  refine if_ex (Q := fun x : ix_Z × ix_D2 => J_ (j + 1) x.1 x.2) (fun _ => ex_p (jl_1350 hn hL hL2 h)) fun _ => ?_
  refine if_ex (Q := fun x : ix_Z × ix_D2 => J_ (j + 1) x.1 x.2) (fun _ => ex_p (jl_1363 hn hL hL2 h)) fun _ => ?_
  refine if_ex (Q := fun x : ix_Z × ix_D2 => J_ (j + 1) x.1 x.2) (fun _ => ex_p (jl_1386 hn hL hL2 h)) fun _ => ?_
  refine if_ex (Q := fun x : ix_Z × ix_D2 => J_ (j + 1) x.1 x.2) (fun _ => ex_p (jl_1409 hn hL hL2 h)) fun _ => ?_
  refine if_ex (Q := fun x : ix_Z × ix_D2 => J_ (j + 1) x.1 x.2) (fun _ => ex_p (jl_1442 hn hL hL2 h)) fun _ => ?_
  refine if_ex (Q := fun x : ix_Z × ix_D2 => J_ (j + 1) x.1 x.2) (fun _ => ex_p (jl_1455 hn hL hL2 h)) fun _ => ?_
  refine if_ex (Q := fun x : ix_Z × ix_D2 => J_ (j + 1) x.1 x.2) (fun _ => ex_p (jl_1468 hn hL hL2 h)) fun _ => ?_
  refine if_ex (Q := fun x : ix_Z × ix_D2 => J_ (j + 1) x.1 x.2) (fun _ => ex_p (jl_1517 hn hL hL2 h)) fun _ => ?_
  refine if_ex (Q := fun x : ix_Z × ix_D2 => J_ (j + 1) x.1 x.2) (fun _ => ex_p (jl_1540 hn hL hL2 h)) fun _ => ?_
  refine if_ex (Q := fun x : ix_Z × ix_D2 => J_ (j + 1) x.1 x.2) (fun _ => ex_p (jl_1553 hn hL hL2 h)) fun _ => ?_
  refine if_ex (Q := fun x : ix_Z × ix_D2 => J_ (j + 1) x.1 x.2) (fun _ => ex_p (jl_1586 hn hL hL2 h)) fun _ => ?_
  refine if_ex (Q := fun x : ix_Z × ix_D2 => J_ (j + 1) x.1 x.2) (fun _ => ex_p (jl_1599 hn hL hL2 h)) fun _ => ?_
  refine if_ex (Q := fun x : ix_Z × ix_D2 => J_ (j + 1) x.1 x.2) (fun _ => ex_p (jl_1622 hn hL hL2 h)) fun _ => ?_
  refine if_ex (Q := fun x : ix_Z × ix_D2 => J_ (j + 1) x.1 x.2) (fun _ => ex_p (jl_1645 hn hL hL2 h)) fun _ => ?_
  refine if_ex (Q := fun x : ix_Z × ix_D2 => J_ (j + 1) x.1 x.2) (fun _ => ex_p (jl_1668 hn hL hL2 h)) fun _ => ?_
  refine if_ex (Q := fun x : ix_Z × ix_D2 => J_ (j + 1) x.1 x.2) (fun _ => ex_p (jl_1682 hn hL hL2 h)) fun _ => ?_
  refine if_ex (Q := fun x : ix_Z × ix_D2 => J_ (j + 1) x.1 x.2) (fun _ => ex_p (jl_1695 hn hL hL2 h)) fun _ => ?_
  exact ⟨(z, d), rfl, k_nx h⟩
end LWC

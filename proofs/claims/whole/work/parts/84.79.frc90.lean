/-! STEPS: force and decide, class (90) and reference (1) -/
section FRC
variable {n : Nat} {z : ix_Z} {c c' c3 cE r r1 r2 r' : ix_D2} {rn : Nat → Nat} {v x y y' w : Int32}
theorem st_R90 (hb3 : bi_90 c3) (hrr : rr_90 c3 r1 rn) (htk : tk_90 c3) (hrt : rt_90 c3 r1 rn) (hla : la_90 c3) (hq : ql_90 c3) (hlv : (c3.1 91 13).toInt ≤ (c3.1 91 12).toInt) (eE : ∀ a k, a ≠ 115 → cE.1 a k = c3.1 a k) (eE2 : ∀ a k, a ≠ 113 → a ≠ 114 → cE.2 a k = c3.2 a k) (eR : r2.1 = r1.1)
    (hs : rs_90 cE r2 rn) (ho : wg_90 cE r2 ∧ (∀ p : Nat, (p : Int) < (cE.1 94 (ix_n (cE.1 92 2))).toInt → (ix_n (ix_abs (cE.1 93 p)) : Int) ≤ (cE.1 91 14).toInt) ∧ ty_90 cE r2 ∧ aq_90 cE r2 ∧ cq_90 cE r2) (hn2 : ∀ i : Nat, (i : Int) < (cE.1 91 12).toInt → (ix_n (ix_abs (cE.1 105 i)) : Int) ≤ (cE.1 91 14).toInt) : R_90 cE r2 rn := by
  have f1 : cE.1 91 = c3.1 91 := funext fun k => eE _ _ (by omega)
  have f2 : cE.1 92 = c3.1 92 := funext fun k => eE _ _ (by omega)
  have f3 : cE.1 93 = c3.1 93 := funext fun k => eE _ _ (by omega)
  have f4 : cE.1 94 = c3.1 94 := funext fun k => eE _ _ (by omega)
  have f8 : cE.1 98 = c3.1 98 := funext fun k => eE _ _ (by omega)
  have f11 : cE.1 101 = c3.1 101 := funext fun k => eE _ _ (by omega)
  have f12 : cE.1 102 = c3.1 102 := funext fun k => eE _ _ (by omega)
  have f13 : cE.1 103 = c3.1 103 := funext fun k => eE _ _ (by omega)
  have f14 : cE.1 104 = c3.1 104 := funext fun k => eE _ _ (by omega)
  have f15 : cE.1 105 = c3.1 105 := funext fun k => eE _ _ (by omega)
  refine ⟨bi_c90 hb3 (fun a k h => eE a k (by omega)) (fun k => eE2 _ _ (by omega) (by omega)) (fun k => eE2 _ _ (by omega) (by omega)), rr_c90 (rr_f90 hrr (fun a k _ => by rw [eR])) (fun a k h => eE a k (by omega)), ?_, ?_, ⟨?_, ?_, ?_⟩, hs, ho.1, ⟨ho.2.1, hn2⟩, ho.2.2.1, ho.2.2.2.1, ho.2.2.2.2⟩
  · unfold tk_90 vl_; rw [f1, f11, f15]; exact htk
  · unfold rt_90; rw [f1, f2, f12, f13, f14, f15, eR]; exact hrt
  · unfold la_90 le_90 in_90; rw [f1, f2, f3, f4, f11, f13, f14, f15]; exact hla
  · rw [f1]; exact hlv
  · unfold ql_90 in_90 vl_; rw [f1, f2, f3, f4, f8, f11, f13]; exact hq
/-- sources of the forced name, on both sides -/
theorem gl_e90 {k S Y A : Nat} (hr : rr_90 c r rn) (hs : rs2_90 c r) (ht : tk_90 c) (hl : la_90 c) (hrt : rt_90 c r rn) (hL : (c.1 91 13).toInt = 0) (hk : (k : Int) < (c.1 92 2).toInt) (hS : (S : Int) = (c.1 94 k).toInt) (hY : (S : Int) + Y = (c.1 94 (k + 1)).toInt) (hi : ∀ j, j < Y → (c.1 93 (S + j)).toInt ≠ 0 ∧ -300 ≤ (c.1 93 (S + j)).toInt ∧ (c.1 93 (S + j)).toInt ≤ 300) (hv : ∀ j, j < Y → ix_n (ix_abs (c.1 93 (S + j))) = A ∨ vl_ c.1 101 (c.1 93 (S + j)) = -1) {w : Nat} (hw : w < 8) {g : Int64} {X : Int} (hX : X = A) {N : Nat → Nat → Int64} (hN : ∀ m w, N m w = if m = A then 0 else c.2 113 (8 * m + w)) : ∀ j, j ≤ Y → gl_ (fun j => c.1 93 (S + j)) (fun _ => True) N w g j = gl_ (ri_ r.1 1 (rn k)) (fun m => (m : Int) ≠ X ∧ (r.1 167 (301 * 1 + m)).toInt ≠ 2 ∧ (r.1 168 (301 * 1 + m)).toInt = 0) (fun m w => r.2 183 (8 * (301 * 1 + m) + w)) w g j
  | 0, _ => rfl
  | j + 1, hj => by
    have ih := gl_e90 hr hs ht hl hrt hL hk hS hY hi hv hw (g := g) hX hN j (by omega)
    obtain ⟨ra1, ra2, ra3⟩ := hr.1 k hk
    have nS : ix_n (c.1 94 k) = S := ni_k hS.symm
    have eit : ri_ r.1 1 (rn k) j = c.1 93 (S + j) := by rw [ra3 j (by omega), nS]
    obtain ⟨q0, q1, q2⟩ := hi j (by omega)
    obtain ⟨a1, a2, a3, a4⟩ := na_b q0 q1 q2
    show (if True then gl_ _ _ N w g j ||| N (ix_n (ix_abs (c.1 93 (S + j)))) w else _) = if (ix_n (ix_abs (ri_ r.1 1 (rn k) j)) : Int) ≠ X ∧ (r.1 167 (301 * 1 + ix_n (ix_abs (ri_ r.1 1 (rn k) j)))).toInt ≠ 2 ∧ (r.1 168 (301 * 1 + ix_n (ix_abs (ri_ r.1 1 (rn k) j)))).toInt = 0 then gl_ (ri_ r.1 1 (rn k)) _ _ w g j ||| r.2 183 (8 * (301 * 1 + ix_n (ix_abs (ri_ r.1 1 (rn k) j))) + w) else gl_ (ri_ r.1 1 (rn k)) _ _ w g j
    rw [if_pos trivial, eit, ih, hN]
    by_cases e : ix_n (ix_abs (c.1 93 (S + j))) = A
    · rw [if_pos e, if_neg (by intro h; omega)]
      exact tb_e (fun i _ => by rw [tb_or, tb_z, Bool.or_false])
    · rw [if_neg e]
      have hv1 : vl_ c.1 101 (c.1 93 (S + j)) = -1 := (hv j (by omega)).resolve_left e
      have hv0 : (c.1 101 (ix_n (ix_abs (c.1 93 (S + j))))).toInt ≠ 0 := by
        rw [vl_a] at hv1
        split at hv1 <;> omega
      obtain ⟨i, i1, i2⟩ := hl.2.2.2.2.2 _ a1 a2 hv0
      have lv := hl.2.1 i i1
      rw [hL] at lv
      have l0 : le_90 c i = 0 := by omega
      have x3 := (hrt.2.2.1 i i1).2.1
      have hs2 := hs i w i1 l0 hw
      rw [i2] at x3 hs2
      have l1 : (c.1 103 (ix_n (ix_abs (c.1 93 (S + j))))).toInt = 0 := by unfold le_90 at l0; rw [i2] at l0; exact l0
      have v2 : (r.1 167 (301 * 1 + ix_n (ix_abs (c.1 93 (S + j))))).toInt ≠ 2 := by
        rw [hr.2.2 _ a2]
        unfold sv_
        rw [if_neg hv0]
        split <;> decide
      rw [if_pos ⟨by omega, v2, by rw [x3]; exact l1⟩, hs2]
/-- where a row's sources stand -/
theorem gr_e90 {k : Nat} (hr : rr_90 c r rn) (hid : ∀ k : Nat, (k : Int) < (c.1 91 15).toInt → rn k = k) (hs : rs1_90 c r) (h8 : (c.1 115 8).toInt = (c.1 92 2).toInt - (c.1 91 16).toInt) (hk : (k : Int) < (c.1 92 2).toInt) {w : Nat} (hw : w < 8) : gr_90 c k w = gs_q1 r (rn k) w := by
  obtain ⟨g1, g2, g3, g4, g5, g6, g7, g8, g9, g10, g11, g12, g13, g14, g15⟩ := hr.2.1
  have n6 := ni_c (x := c.1 91 16) (by omega)
  unfold gr_90 gs_q1
  by_cases c1 : (k : Int) < (c.1 91 15).toInt
  · have e := hid k c1
    have g61 := (g6 k c1).1
    have hk5 : rn k < 1000 := by omega
    rw [if_pos c1, if_pos hk5, e]
  · by_cases c2 : (k : Int) < (c.1 91 16).toInt
    · have := g11 k (by omega) c2
      have : (c.1 91 16).toInt - (c.1 91 15).toInt ≤ 64 := by
        by_cases e : (1 = 1 ∨ (r.1 125 58).toInt ≠ 0)
        · have := g9 e; omega
        · have := g10 e; omega
      rw [if_neg c1, if_pos c2, if_neg (by omega), if_pos (by omega)]
    · have := (g14 k (by omega) hk).1
      rw [if_neg c1, if_neg c2, if_neg (by omega), if_neg (by omega), hs (k - ix_n (c.1 91 16)) w (by omega) hw, show rn k - 2000 = k - ix_n (c.1 91 16) by omega]
end FRC

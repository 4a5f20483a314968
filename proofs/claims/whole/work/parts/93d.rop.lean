/-! A RULE MADE AND ADMITTED by the class -/
def fN_ (Z a k : Nat) : Prop := fL_C a k ∨ Z ≤ a ∨ (a = 0 ∧ (k = 5 ∨ k = 14 ∨ k = 17))
def PC_ (z : ix_Z) (d : ix_D2) (F : Option LA → Option LA) (R N kd : Nat) (g : Nat → Int32) (w3 : Int32) (t : Int32 × ix_Z × ix_D2) : Prop :=
  t.2.2.1 51 10 = 0 ∧ fz_ (fN_ z.2.2) d t.2.2 ∧ ly_z t.2.1 ∧ z.2.2 + 2 ≤ t.2.1.2.2 ∧ (∀ a, a < z.2.2 → t.2.1.2.1 a = z.2.1 a) ∧ (∀ a k, a < z.2.2 → a ≠ 59 → t.2.1.1 a k = z.1 a k) ∧
  ((∃ A', R < 60 ∧ F (some (aC_ d.1)) = some A' ∧ wfA A' ∧ pfx (aC_ d.1) A' ∧ t.1 = nI R ∧ t.2.1.1 59 R = some z.2.2 ∧ (∀ k, k ≠ R → t.2.1.1 59 k = z.1 59 k) ∧ t.2.1.1 z.2.2 0 = some (z.2.2 + 1) ∧ t.2.1.2.1 (z.2.2 + 1) = (20, N) ∧ (t.2.1.2.1 z.2.2).1 = kd ∧ LvC t.2.2.1 A' ∧ (t.2.2.1 z.2.2 1).toInt = (aC_ d.1).2.1 ∧ (t.2.2.1 z.2.2 2).toInt = (A'.2.1 : Int) - (aC_ d.1).2.1 ∧ (∀ j, j < N → t.2.2.1 (z.2.2 + 1) j = g j) ∧ t.2.2.1 z.2.2 3 = w3 ∧ (t.2.2.1 0 5).toInt = (R : Int) + 1 ∧ t.2.2.1 0 14 = 0 ∧ t.2.2.1 0 17 = d.1 0 17)
    ∨ ((R = 60 ∨ F (some (aC_ d.1)) = none) ∧ t.1 = -1003 ∧ (∀ k, t.2.1.1 59 k = z.1 59 k) ∧ t.2.2.1 0 17 = -1003 ∧ t.2.2.1 0 5 = d.1 0 5 ∧ t.2.2.1 0 14 = d.1 0 14 ∧ t.2.2.1 51 5 = d.1 51 5 ∧ t.2.2.1 52 2 = d.1 52 2 ∧ (∀ j : Nat, (j : Int) ≤ (d.1 52 2).toInt → t.2.2.1 54 j = d.1 54 j) ∧ (∀ p : Nat, (p : Int) < (d.1 54 (ix_n (d.1 52 2))).toInt → t.2.2.1 53 p = d.1 53 p)))
section ROP
variable {n : Nat} {z z3 z4 : ix_Z} {d d3 d4 : ix_D2} {x w3 : Int32} {kd len N R : Nat} {g : Nat → Int32} {F : Option LA → Option LA}
theorem zr_59 {a b : Nat} (h : 59 ≠ a) {k : Nat} {v : Option Nat} : (ix_zr z a b v).1 59 k = z.1 59 k := if_neg (fun q => h q.1)
theorem zr_o {a b a' k : Nat} {v : Option Nat} (h : a' ≠ a ∨ k ≠ b) : (ix_zr z a b v).1 a' k = z.1 a' k := if_neg (fun q => by omega)
theorem zr_s {a b : Nat} {v : Option Nat} : (ix_zr z a b v).1 a b = v := if_pos ⟨rfl, rfl⟩
theorem e_opC (hz : ly_z z) (hm : MD_ z d z3 d3 kd len N g) (hkd : kd ∈ [0, 3, 5, 6, 9]) (h4 : z4 = ix_zr z3 z.2.2 0 (some (z.2.2 + 1))) (h4o : ∀ a k, (a ≠ z.2.2 ∨ k ≠ 3) → d4.1 a k = d3.1 a k) (h43 : d4.1 z.2.2 3 = w3) (h4l : d4.2 = d3.2) (hcw : cw_ d.1) (hn0 : 0 ≤ (d.1 51 5).toInt) (hn3 : (d.1 51 5).toInt ≤ 300) (hit : ∀ p : Nat, (p : Int) < (d.1 54 (ix_n (d.1 52 2))).toInt → (ix_n (ix_abs (d.1 53 p)) : Int) ≤ (d.1 51 5).toInt) (hdr : d.1 51 10 = 0) (hR : (d.1 0 5).toInt = R) (hR6 : R ≤ 60) (hF : F none = none)
    (HL : ∀ d1 : ix_D2, ly_z z4 → (∀ j, j < N → d1.1 (z.2.2 + 1) j = g j) → d1.1 z.2.2 3 = w3 → CSL (aC_ d.1) d1.1 (if R < 60 then some (aC_ d.1) else none) 0 [] → wp_t (v_RX11_418 n z4 z.2.2 51 d1) (fun t => zx_ z4 t.1 ∧ (∃ m, m ≤ 200 ∧ CSL (aC_ d.1) t.2.1 (F (if R < 60 then some (aC_ d.1) else none)) m []) ∧ fz_ (fS_ z4.2.2) d1 t.2)) :
    wp_t (f_X11_admit n z4 0 z.2.2 d4) (PC_ z d F R N kd g w3) := by
  have hz3 := hz.2.2
  obtain ⟨m1, m2, m3, m4, m5, m6, m7⟩ := hm
  have z4n : z4.2.2 = z.2.2 + 2 := by rw [h4]; exact m1
  have z4k : ∀ a, z4.2.1 a = z3.2.1 a := fun a => by rw [h4]; rfl
  have z4r : ∀ a k, (a ≠ z.2.2 ∨ k ≠ 0) → z4.1 a k = z3.1 a k := fun a k h => by rw [h4]; exact zr_o h
  have z4s : z4.1 z.2.2 0 = some (z.2.2 + 1) := by rw [h4]; exact zr_s
  have hz4 : ly_z z4 := ⟨fun a ha => by rw [z4k, m2 a (by omega)]; exact hz.1 a ha, fun a k ha h9 => by rw [z4r a k (by omega), m3 a k (by omega)]; exact hz.2.1 a k ha h9, by rw [z4n]; omega⟩
  have d4d : ∀ a k, a < z.2.2 → d4.1 a k = d.1 a k := fun a k ha => by rw [h4o a k (by omega)]; exact (m6 a k ha).1
  have d4l : ∀ a k, a < z.2.2 → d4.2 a k = d.2 a k := fun a k ha => by rw [h4l]; exact (m6 a k ha).2
  have eA : aC_ d4.1 = aC_ d.1 := by
    unfold aC_
    rw [d4d _ _ (by omega), d4d _ _ (by omega), show d4.1 54 = d.1 54 from funext fun j => d4d _ _ (by omega), show d4.1 53 = d.1 53 from funext fun j => d4d _ _ (by omega)]
  have e54 : d4.1 54 = d.1 54 := funext fun j => d4d _ _ (by omega)
  have e53 : d4.1 53 = d.1 53 := funext fun j => d4d _ _ (by omega)
  have e522 : d4.1 52 2 = d.1 52 2 := d4d _ _ (by omega)
  have e515 : d4.1 51 5 = d.1 51 5 := d4d _ _ (by omega)
  have hcw4 : cw_ d4.1 := rw_cg hcw e522 e54 e53
  have hrc : ix_ok z4 [0, 3, 5, 6, 9] z.2.2 := ⟨by rw [z4n]; omega, by rw [z4k, m4]; exact hkd⟩
  have q := e_adm (n := n) (z := z4) (d := d4) (rc := z.2.2) (F := F) (R := R) hz4 hcw4 (by rw [e515]; exact hn0) (by rw [e515]; exact hn3) (by rw [e54, e522, e53, e515]; exact hit) (by rw [d4d _ _ (by omega)]; exact hdr) (by rw [d4d _ _ (by omega)]; exact hR) hR6 hrc hz3 (by
    intro d1 k1 k2 k3
    rw [eA] at k3 ⊢
    exact HL d1 hz4 (fun j hj => by rw [k1 _ _ (by omega), h4o _ _ (by omega)]; exact m7 j hj) (by rw [k1 _ _ (by omega)]; exact h43) k3) hF
  rw [eA] at q
  refine wp_m q fun t ⟨t1, t2, t3⟩ => ?_
  have tf : fz_ (fN_ z.2.2) d t.2.2 := fun a k hs => by
    have s1 : ¬ fL_C a k := fun w => hs (Or.inl w)
    have s2 : ¬ z.2.2 ≤ a := fun w => hs (Or.inr (Or.inl w))
    have s3 : ¬ (a = 0 ∧ (k = 5 ∨ k = 14 ∨ k = 17)) := fun w => hs (Or.inr (Or.inr w))
    have := t1 a k (fun w => by
      rcases w with w | w | w | w
      · exact s1 w
      · omega
      · omega
      · exact s3 w)
    exact ⟨this.1.trans (d4d a k (by omega)), this.2.trans (d4l a k (by omega))⟩
  refine ⟨t2, tf, ?_⟩
  rcases t3 with ⟨A', y1, y2, y3, y4, y5, ⟨z', y6, y7⟩, y8, y9, y10, y11, y12, y13⟩ | ⟨y1, y2, y3, y4, y5, y6, y7, y8, y9, y10⟩
  · have hz' : ly_z z' := zx_ly hz4 y6
    have y61 := y6.1
    have zt : t.2.1.2 = z'.2 := by rw [y7]; rfl
    have ztr : ∀ a k, (a ≠ 59 ∨ k ≠ R) → t.2.1.1 a k = z'.1 a k := fun a k h => by rw [y7]; exact zr_o h
    refine ⟨⟨fun a ha => by rw [zt]; exact hz'.1 a ha, fun a k ha h9 => by rw [ztr a k (by omega)]; exact hz'.2.1 a k ha h9, by rw [zt]; exact hz'.2.2⟩, by rw [zt]; omega, fun a ha => by rw [zt, y6.2.1 a (by omega), z4k]; exact m2 a ha, fun a k ha h9 => by rw [ztr a k (by omega), y6.2.2 a k (by omega), z4r a k (by omega)]; exact m3 a k ha, Or.inl ⟨A', y1, y2, y3, y4, y5, by rw [y7]; exact zr_s, fun k hk => ?_, ?_, ?_, ?_, y8, y9, y10, fun j hj => ?_, ?_, y11, y12, ?_⟩⟩
    · rw [ztr 59 k (by omega), y6.2.2 59 k (by omega), z4r 59 k (by omega)]; exact m3 59 k (by omega)
    · rw [ztr _ _ (by omega), y6.2.2 _ _ (by omega)]; exact z4s
    · rw [zt, y6.2.1 _ (by omega), z4k]; exact m5
    · rw [zt, y6.2.1 _ (by omega), z4k, m4]
    · rw [(t1 _ _ (by unfold fA_C fL_C; omega)).1, h4o _ _ (by omega)]; exact m7 j hj
    · rw [(t1 _ _ (by unfold fA_C fL_C; omega)).1]; exact h43
    · rw [y13]; exact d4d _ _ (by omega)
  · have hz' : ly_z t.2.1 := zx_ly hz4 y3
    have y31 := y3.1
    refine ⟨hz', by omega, fun a ha => by rw [y3.2.1 a (by omega), z4k]; exact m2 a ha, fun a k ha h9 => by rw [y3.2.2 a k (by omega), z4r a k (by omega)]; exact m3 a k ha, Or.inr ⟨y1, y2, fun k => ?_, y4, ?_, ?_, ?_, ?_, fun j hj => ?_, fun p hp => ?_⟩⟩
    · rw [y3.2.2 59 k (by omega), z4r 59 k (by omega)]; exact m3 59 k (by omega)
    · rw [y5]; exact d4d _ _ (by omega)
    · rw [y6]; exact d4d _ _ (by omega)
    · rw [y7]; exact e515
    · rw [y8]; exact e522
    · rw [y9 j (by rw [e522]; exact hj), e54]
    · rw [y10 p (by rw [e54, e522]; exact hp), e53]
end ROP

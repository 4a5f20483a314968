/-! A RULE ON BOTH SIDES: what holds behind it -/
def mo_ru (Z a k : Nat) : Prop := fN_ Z a k ∨ (132 ≤ a ∧ a ≤ 138) ∨ a = 143 ∨ a = 144 ∨ (150 ≤ a ∧ a ≤ 153) ∨ (a = 125 ∧ (k = 0 ∨ k = 1 ∨ k = 11 ∨ k = 23 ∨ k = 36 ∨ k = 37 ∨ k = 38 ∨ k = 40 ∨ k = 42 ∨ k = 57))
/-- the rules there were stay; a new one isn't a told one unless k -/
def RO_ (k : Prop) (z : ix_Z) (d : ix_D2) (t : Int32 × ix_Z × ix_D2) (u : Int32 × ix_D2) : Prop := z.2.2 ≤ t.2.1.2.2 ∧ (∀ a, a < z.2.2 → t.2.1.2.1 a = z.2.1 a) ∧ (∀ a k, a < z.2.2 → a ≠ 59 → t.2.1.1 a k = z.1 a k) ∧ (d.1 125 11).toInt ≤ (u.2.1 125 11).toInt ∧ (∀ i : Nat, (i : Int) < (d.1 125 11).toInt → t.2.1.1 59 i = z.1 59 i ∧ u.2.1 132 i = d.1 132 i ∧ u.2.1 135 i = d.1 135 i ∧ ∀ j, j < 30 → u.2.1 136 (30 * i + j) = d.1 136 (30 * i + j)) ∧ ∀ i : Nat, (d.1 125 11).toInt ≤ (i : Int) → (i : Int) < (u.2.1 125 11).toInt → (k ∨ (u.2.1 132 i).toInt ≠ 4) ∧ (i : Int) ≤ (d.1 125 11).toInt ∧ t.2.1.1 59 i = some z.2.2
/-- the case's rows there were, where solving may go on -/
def RN_ (d : ix_D2) (f : Nat → Nat → Int32) : Prop := (d.1 52 2).toInt ≤ (f 52 2).toInt ∧ (f 0 14 = 0 ∨ (f 0 14 = d.1 0 14 ∧ f 52 2 = d.1 52 2 ∧ (∀ k : Nat, (k : Int) ≤ (d.1 52 2).toInt → f 143 k = d.1 143 k) ∧ ∀ p : Nat, (p : Int) < (d.1 54 (ix_n (d.1 52 2))).toInt → f 144 p = d.1 144 p))
def RF_ (z : ix_Z) (d : ix_D2) (t : Int32 × ix_Z × ix_D2) (u : Int32 × ix_D2) : Prop := t.1 = u.1 ∧ ly_z t.2.1 ∧ iv_st u.2.1 ∧ iv_nm u.2.1 ∧ iv_go u.2.1 ∧ iv_cs u.2.1 ∧ iv_ru t.2.1 u.2.1 ∧ iv_dr u.2.1 ∧ (d.1 125 1).toInt ≤ (u.2.1 125 1).toInt ∧ fz_ (mo_ru z.2.2) d u.2 ∧ RO_ False z d t u ∧ RN_ d u.2.1
section RFI
variable {n : Nat} {z : ix_Z} {d : ix_D2} {x kd' kk od w3 : Int32} {N R kd : Nat} {g : Nat → Int32} {F : Option LA → Option LA} {t : Int32 × ix_Z × ix_D2} {u : Int32 × ix_D2}
/-- old rules stay -/
theorem RG_x {z1 : ix_Z} {f f' : Nat → Nat → Int32} {i c N : Nat} (h : RG_ z f i c N) (hz1 : z.2.2 ≤ z1.2.2) (h59 : z1.1 59 i = z.1 59 i) (hk : ∀ a, a < z.2.2 → z1.2.1 a = z.2.1 a) (hr : ∀ a k, a < z.2.2 → a ≠ 59 → z1.1 a k = z.1 a k) (hf : ∀ a k, 199 ≤ a → a < z.2.2 → f' a k = f a k) (hi : ∀ a, a = 132 ∨ a = 133 ∨ a = 134 ∨ a = 135 ∨ a = 137 ∨ a = 138 → f' a i = f a i) (h136 : ∀ j, j < 30 → f' 136 (30 * i + j) = f 136 (30 * i + j)) (hn : (f 125 1).toInt ≤ (f' 125 1).toInt) : RG_ z1 f' i c N := by
  obtain ⟨g1, g2, g3, g4, g5, g6, g7, g8, g9, g10, g11, g12, g13, g14, g15⟩ := h
  have fc : ∀ k, f' c k = f c k := fun k => hf c k g2 (by omega)
  have fa : ∀ k, f' (c + 1) k = f (c + 1) k := fun k => hf _ k (by omega) (by omega)
  refine ⟨by rw [h59]; exact g1, g2, by omega, by rw [hr _ _ (by omega) (by omega)]; exact g4, by rw [hk _ (by omega)]; exact g5, by rw [hi _ (by omega)]; exact g6, g7, fun j hj => ?_, ?_, ?_, ?_, ?_, ?_, ?_, ?_⟩
  · have := g8 j hj
    rw [fa, h136 j (by omega)]
    exact ⟨this.1, this.2.1, by omega⟩
  · rw [fc, hi _ (by omega)]; exact g9
  · rw [fc, hi _ (by omega)]; exact g10
  · rw [hi _ (by omega)]; exact g11
  · rw [hi _ (by omega)]; exact g12
  · rw [hi _ (by omega)]; exact g13
  · rw [hi _ (by omega)]; exact g14
  · rw [hi 132 (by omega), hi 133 (by omega), hi 134 (by omega), hk c (by omega), fc]
    rcases g15 with q | q | q | q | q
    · exact Or.inl q
    · exact Or.inr (Or.inl q)
    · exact Or.inr (Or.inr (Or.inl q))
    · exact Or.inr (Or.inr (Or.inr (Or.inl q)))
    · exact Or.inr (Or.inr (Or.inr (Or.inr ⟨q.1, q.2.1, by omega⟩)))
theorem ri_of (h : RH_ z d x N R) (ics : iv_cs d.1) (inm : iv_nm d.1) (iru : iv_ru z d.1) (ht : PC_ z d F R N kd (d.1 (2 + ix_n x)) w3 t) : RI_ (aC_ d.1) t.2.2 x N R (d.1 (2 + ix_n x)) := by
  obtain ⟨hz, ipap, a1, a2, hN, hN2, hcw, hn0, hn3, hit, hdr, hR, hR6, hlf⟩ := h
  have hz3 := hz.2.2
  have e : ∀ a k, 125 ≤ a → a < 199 → t.2.2.1 a k = d.1 a k := fun a k h1 h2 => (ht.2.1 a k (by unfold fN_ fL_C; omega)).1
  have hR' : ix_n x < 40 := (pap_at ipap a1 a2).1
  obtain ⟨-, qit⟩ := pap_it ipap hR' (by omega)
  have nN : ix_n (d.1 128 (ix_n x)) = N := ni_k hN
  rw [nN] at qit
  obtain ⟨w1, w2⟩ := aC_w hcw hn0 hn3 hit
  have hT := rw_t hcw
  refine ⟨a1, a2, by rw [e _ _ (by omega) (by omega)]; exact hN, hN2, fun i hi => by rw [e _ _ (by omega) (by omega)]; exact (qit i hi).symm, by rw [e _ _ (by omega) (by omega), ← inm.1]; exact hlf, by rw [e _ _ (by omega) (by omega), ← iru.1]; exact hR, hR6, w1, w2, ?_, ?_, fun j hj => ?_, fun p hp => ?_⟩
  · rw [e _ _ (by omega) (by omega), ← inm.1]; exact (ni_c hn0).symm
  · rw [e _ _ (by omega) (by omega), ← ics.2.1]; exact hT.1.symm
  · have hj : j ≤ ix_n (d.1 52 2) := hj
    rw [e _ _ (by omega) (by omega), ics.2.2.1 j (by rw [← ics.2.1]; omega)]
    exact (ni_c (rw_0 hcw (by omega))).symm
  · have hp : p < ix_n (d.1 54 (ix_n (d.1 52 2))) := hp
    have := ni_c hT.2.1
    rw [e _ _ (by omega) (by omega)]
    exact (ics.2.2.2 p (by omega)).1
theorem ru_fin (h : RH_ z d x N R) (ics : iv_cs d.1) (inm : iv_nm d.1) (iru : iv_ru z d.1) (ist : iv_st d.1) (igo : iv_go d.1) (ht : PC_ z d F R N kd (d.1 (2 + ix_n x)) w3 t) (hu : PR_ (aC_ d.1) t.2.2 F R N kd' kk od (d.1 (2 + ix_n x)) u)
    (hK : (kd = 3 ∧ kd'.toInt = 0) ∨ (kd = 0 ∧ kd'.toInt = 1 ∧ w3 = kk ∧ 0 ≤ kk.toInt ∧ kk.toInt ≤ 12) ∨ (kd = 5 ∧ kd'.toInt = 2 ∧ w3 = kk ∧ 0 ≤ kk.toInt ∧ kk.toInt ≤ 12) ∨ (kd = 6 ∧ kd'.toInt = 3 ∧ w3 = vp_nar .boolean od ∧ (w3 = 0 ∨ w3 = 1))) : RF_ z d t u := by
  obtain ⟨hz, ipap, a1, a2, hN, hN2, hcw, hn0, hn3, hit, hdr, hR, hR6, hlf⟩ := h
  have hz3 := hz.2.2
  obtain ⟨t1, t2, t3, t4, t5, t6, t7⟩ := ht
  obtain ⟨u1, u2⟩ := hu
  have hT := rw_t hcw
  have hT5 := hcw.2.1
  have hRr : (d.1 125 11).toInt = R := by rw [← iru.1]; exact hR
  /- what the reference leaves -/
  have ue : ∀ a k, ¬ fG_ R a k → u.2.1 a k = t.2.2.1 a k := u1.1
  have ug : ∀ a k, a < 125 ∨ 199 ≤ a → u.2.1 a k = t.2.2.1 a k := fun a k h => ue a k (by unfold fG_ fM_ fL_R fB_ fK_; omega)
  have td : ∀ a k, ¬ fL_C a k → a < z.2.2 → ¬ (a = 0 ∧ (k = 5 ∨ k = 14 ∨ k = 17)) → t.2.2.1 a k = d.1 a k := fun a k q1 q2 q3 => (t2 a k (fun w => by rcases w with w | w | w; exact q1 w; omega; exact q3 w)).1
  have fz : fz_ (mo_ru z.2.2) d u.2 := fun a k hs => by
    have s0 : ¬ fN_ z.2.2 a k := fun w => hs (Or.inl w)
    have s1 : ¬ ((132 ≤ a ∧ a ≤ 138) ∨ a = 143 ∨ a = 144 ∨ (150 ≤ a ∧ a ≤ 153) ∨ (a = 125 ∧ (k = 0 ∨ k = 1 ∨ k = 11 ∨ k = 23 ∨ k = 36 ∨ k = 37 ∨ k = 38 ∨ k = 40 ∨ k = 42 ∨ k = 57))) := fun w => hs (Or.inr w)
    have q := t2 a k s0
    have s2 : ¬ fG_ R a k := by unfold fG_ fM_ fL_R fB_ fK_; omega
    exact ⟨(ue a k s2).trans q.1, by rw [u1.2]; exact q.2⟩
  have idr : iv_dr u.2.1 := by
    show u.2.1 51 10 = 0
    rw [ug _ _ (by omega)]; exact t1
  /- old rules -/
  have old : ∀ i : Nat, (i : Int) < (d.1 125 11).toInt → (∀ i', i' < R → t.2.1.1 59 i' = z.1 59 i') → (∀ a i', i' ≠ R → a = 132 ∨ a = 133 ∨ a = 134 ∨ a = 135 ∨ a = 137 ∨ a = 138 → u.2.1 a i' = d.1 a i') → (∀ j, j < 30 → u.2.1 136 (30 * i + j) = d.1 136 (30 * i + j)) → (d.1 125 1).toInt ≤ (u.2.1 125 1).toInt → ∃ c N, RG_ t.2.1 u.2.1 i c N := by
    intro i hi h59 hi1 hi2 hle
    obtain ⟨c, N', hg⟩ := iru.2.2.2 i hi
    exact ⟨c, N', RG_x hg (by omega) (h59 i (by omega)) t5 t6 (fun a k l1 l2 => by rw [ug a k (by omega)]; exact td a k (by unfold fL_C; omega) l2 (by omega)) (fun a ha => hi1 a i (by omega) ha) hi2 hle⟩
  have td1 : ∀ a k, 125 ≤ a → a < 199 → t.2.2.1 a k = d.1 a k := fun a k h1 h2 => td a k (by unfold fL_C; omega) (by omega) (by omega)
  have ro : RO_ False z d t u := by
    have v59 : ∀ i, i < R → t.2.1.1 59 i = z.1 59 i := fun i hi => by
      rcases t7 with ⟨A', -, -, -, -, -, -, y7, -⟩ | ⟨-, -, y3, -⟩
      · exact y7 i (by omega)
      · exact y3 i
    have v32 : ∀ a i, i < R → a = 132 ∨ a = 135 → u.2.1 a i = d.1 a i := fun a i hi ha => by
      rw [ue _ _ (by unfold fG_ fM_ fL_R fB_ fK_; omega)]; exact td1 _ _ (by omega) (by omega)
    have v36 : ∀ i j, i < R → j < 30 → u.2.1 136 (30 * i + j) = d.1 136 (30 * i + j) := fun i j hi hj => by
      rw [ue _ _ (by unfold fG_ fM_ fL_R fB_ fK_; omega)]; exact td1 _ _ (by omega) (by omega)
    refine ⟨by omega, t5, t6, ?_, fun i hi => ⟨v59 i (by omega), v32 _ i (by omega) (Or.inl rfl), v32 _ i (by omega) (Or.inr rfl), fun j hj => v36 i j (by omega) hj⟩, fun i hi hi2 => ?_⟩
    · rcases u2 with ⟨A'', -, -, -, -, -, -, -, -, -, -, -, v12, -⟩ | ⟨-, -, -, -, -, v6, -⟩
      · omega
      · rw [v6, td1 _ _ (by omega) (by omega)]; exact Int.le_refl _
    · rcases u2 with ⟨A'', v1, v2, -, -, v5, -, -, -, -, -, -, v12, -⟩ | ⟨-, -, -, -, -, v6, -⟩
      · have ei : i = R := by omega
        refine ⟨Or.inr (by rw [ei, v5]; omega), by omega, ?_⟩
        rcases t7 with ⟨A', -, -, -, -, -, y6, -⟩ | ⟨y1, -⟩
        · rw [ei]; exact y6
        · rcases y1 with y1 | y1
          · omega
          · rw [y1] at v2; simp at v2
      · rw [v6, td1 _ _ (by omega) (by omega)] at hi2; omega
  rcases t7 with ⟨A', y1, y2, y3, y4, y5, y6, y7, y8, y9, y10, y11, y12, y13, y14, y15, y16, y17, y18⟩ | ⟨y1, y2, y3, y4, y5, y6, y7, y8, y9, y10⟩
  · rcases u2 with ⟨A'', v1, v2, v3, v4, v5, v6, v7, v8, v9, v10, v11, v12, v13, v14⟩ | ⟨v1, _⟩
    · have eA : A'' = A' := by rw [y2] at v2; exact (Option.some.inj v2).symm
      subst eA
      obtain ⟨l1, l2, l3, l4, l5⟩ := y11
      obtain ⟨r1, r2, r3, r4, r5⟩ := v4
      obtain ⟨w1, w2, w3', w4, w5, w6⟩ := y3
      obtain ⟨p1, p2, p3, p4, p5⟩ := y4
      have p1' : ix_n (d.1 51 5) ≤ A''.1 := p1
      have nN := ni_c hn0
      have hle : (d.1 125 1).toInt ≤ (u.2.1 125 1).toInt := by rw [r1, ← inm.1]; omega
      have c515 : (u.2.1 51 5).toInt = A''.1 := by rw [ug _ _ (by omega)]; exact l1
      have c522 : (u.2.1 52 2).toInt = A''.2.1 := by rw [ug _ _ (by omega)]; exact l3
      have c54 : ∀ j, j ≤ A''.2.1 → (u.2.1 54 j).toInt = A''.2.2.1 j := fun j hj => by rw [ug _ _ (by omega)]; exact l4 j hj
      have c53 : ∀ p, p < A''.2.2.1 A''.2.1 → u.2.1 53 p = A''.2.2.2 p := fun p hp => by rw [ug _ _ (by omega)]; exact l5 p hp
      have nT : ix_n (u.2.1 52 2) = A''.2.1 := ni_k c522
      have hst : ∀ j, j ≤ A''.2.1 → A''.2.2.1 j ≤ A''.2.2.1 A''.2.1 := fun j hj => by
        have step : ∀ m, j + m ≤ A''.2.1 → A''.2.2.1 j ≤ A''.2.2.1 (j + m) := by
          intro m
          induction m with
          | zero => intro _; exact Nat.le_refl _
          | succ m ih =>
            intro hm
            have := (w4 (j + m) (by omega)).1
            exact Nat.le_trans (ih (by omega)) this
        have := step (A''.2.1 - j) (by omega)
        rw [show j + (A''.2.1 - j) = A''.2.1 by omega] at this
        exact this
      refine ⟨by rw [y5, v3], t3, ?_, ⟨?_, ?_, ?_⟩, ⟨?_, ?_⟩, ⟨⟨?_, ?_, ?_, by omega, fun k hk => ?_, fun p hp => ?_⟩, ?_, fun k hk => ?_, fun p hp => ?_⟩, ⟨?_, ?_, ?_, fun i hi => ?_⟩, idr, hle, fz, ro, by rw [c522, ← hT.1]; have p2' : ix_n (d.1 52 2) ≤ A''.2.1 := p2; omega, Or.inl (by rw [ug _ _ (by omega), y17])⟩
      · show u.2.1 0 17 = u.2.1 125 0
        rw [ug _ _ (by omega), y18, v14, td1 _ _ (by omega) (by omega)]; exact ist
      · exact Int32.toInt_inj.mp (by rw [c515, r1])
      · rw [r1]; omega
      · rw [r1]; omega
      · rw [ug _ _ (by omega), y17, v13]
      · rw [ug _ _ (by omega), y17]; exact Or.inl rfl
      · rw [c522]; omega
      · rw [c522]; omega
      · rw [c54 0 (by omega), w3']; rfl
      · rw [c522] at hk
        have := w4 k (by omega)
        have := hst (k + 1) (by omega)
        rw [c54 k (by omega), c54 (k + 1) (by omega)]; omega
      · rw [nT, c54 _ (Nat.le_refl _)] at hp
        rw [c53 p (by omega)]; exact (w6 p (by omega)).1
      · exact Int32.toInt_inj.mp (by rw [c522, r3])
      · rw [r3] at hk
        exact Int32.toInt_inj.mp (by rw [r4 k (by omega), c54 k (by omega)])
      · rw [nT, c54 _ (Nat.le_refl _)] at hp
        rw [c53 p (by omega), r5 p (by omega), r1]
        have := (w6 p (by omega)).2
        exact ⟨rfl, by omega⟩
      · exact Int32.toInt_inj.mp (by rw [ug _ _ (by omega), y16, v12])
      · rw [v12]; omega
      · rw [v12]; omega
      · rw [v12] at hi
        by_cases ci : i = R
        · rw [ci]
          have e1 : ∀ j, j < N → u.2.1 (z.2.2 + 1) j = d.1 (2 + ix_n x) j := fun j hj => by rw [ug _ _ (by omega)]; exact y14 j hj
          have q0 := lf_g (R := R) (d := d) hlf
          refine ⟨z.2.2, N, y6, hz3, t4, y8, y9, v8, by omega, fun j hj => ?_, ?_, ?_, ?_, ?_, ?_, ?_, ?_⟩
          · have q := q0 j hj (aC_ d.1) (by rw [if_pos y1])
            have q2 : ix_n (ix_abs (d.1 (2 + ix_n x) j)) ≤ ix_n (d.1 51 5) := q.2
            rw [e1 j hj, v9 j hj, r1]
            exact ⟨rfl, q.1, by omega⟩
          · exact Int32.toInt_inj.mp (by rw [ug _ _ (by omega), y12, v10])
          · exact Int32.toInt_inj.mp (by rw [ug _ _ (by omega), y13, v11])
          · rw [v10]; omega
          · rw [v10]; have : (aC_ d.1).2.1 = ix_n (d.1 52 2) := rfl; omega
          · rw [v11]; omega
          · rw [v11]; omega
          · have c3 : u.2.1 z.2.2 3 = w3 := by rw [ug _ _ (by omega)]; exact y15
            rw [v5, v6, v7, y10, c3]
            rcases hK with ⟨k1, k2⟩ | ⟨k1, k2, k3, k4, k5⟩ | ⟨k1, k2, k3, k4, k5⟩ | ⟨k1, k2, k3, k4⟩
            · exact Or.inl ⟨k2, k1, hN2⟩
            · exact Or.inr (Or.inl ⟨k2, k1, hN2, k3, k4, k5⟩)
            · exact Or.inr (Or.inr (Or.inl ⟨k2, k1, hN2, k3, k4, k5⟩))
            · exact Or.inr (Or.inr (Or.inr (Or.inl ⟨k2, k1, hN2, k3, by rw [← k3]; exact k4⟩)))
        · refine old i (by omega) (fun i' hi' => y7 i' (by omega)) (fun a i' hne ha => ?_) (fun j hj => ?_) hle
          · rw [ue _ _ (by unfold fG_ fM_ fL_R fB_ fK_; omega)]; exact td1 _ _ (by omega) (by omega)
          · rw [ue _ _ (by unfold fG_ fM_ fL_R fB_ fK_; omega)]; exact td1 _ _ (by omega) (by omega)
    · rcases v1 with v1 | v1
      · omega
      · rw [y2] at v1; simp at v1
  · rcases u2 with ⟨A'', v1, v2, _⟩ | ⟨v1, v2, v3, v4, v5, v6, v7, v8, v9, v10⟩
    · rcases y1 with y1 | y1
      · omega
      · rw [y1] at v2; simp at v2
    · have e1 : u.2.1 125 1 = d.1 125 1 := by rw [v4]; exact td1 _ _ (by omega) (by omega)
      have e515 : u.2.1 51 5 = d.1 51 5 := by rw [ug _ _ (by omega)]; exact y7
      have e522 : u.2.1 52 2 = d.1 52 2 := by rw [ug _ _ (by omega)]; exact y8
      have e23 : u.2.1 125 23 = d.1 125 23 := by rw [v5]; exact td1 _ _ (by omega) (by omega)
      have e11 : u.2.1 125 11 = d.1 125 11 := by rw [v6]; exact td1 _ _ (by omega) (by omega)
      have e54 : ∀ j : Nat, (j : Int) ≤ (d.1 52 2).toInt → u.2.1 54 j = d.1 54 j := fun j hj => by rw [ug _ _ (by omega)]; exact y9 j hj
      have e53 : ∀ p : Nat, (p : Int) < (d.1 54 (ix_n (d.1 52 2))).toInt → u.2.1 53 p = d.1 53 p := fun p hp => by rw [ug _ _ (by omega)]; exact y10 p hp
      refine ⟨by rw [y2, v2], t3, ?_, ?_, ⟨?_, ?_⟩, ⟨?_, ?_, fun k hk => ?_, fun p hp => ?_⟩, ⟨?_, ?_, ?_, fun i hi => ?_⟩, idr, by rw [e1]; exact Int.le_refl _, fz, ro, by rw [e522]; exact Int.le_refl _, Or.inr ⟨by rw [ug _ _ (by omega), y6], e522, fun k hk => ?_, fun p hp => ?_⟩⟩
      · show u.2.1 0 17 = u.2.1 125 0
        rw [ug _ _ (by omega), y4, v3]
      · unfold iv_nm; rw [e515, e1]; exact inm
      · rw [ug _ _ (by omega), y6, v7, td1 _ _ (by omega) (by omega)]; exact igo.1
      · rw [ug _ _ (by omega), y6]; exact igo.2
      · exact rw_c hcw e522 e54 e53
      · rw [e522, e23]; exact ics.2.1
      · rw [e23, ← ics.2.1] at hk
        rw [e54 k hk]
        refine Int32.toInt_inj.mp ?_
        rw [v8 k (by show k ≤ ix_n (d.1 52 2); omega)]
        exact ni_c (rw_0 hcw hk)
      · rw [e522, e54 _ (by omega)] at hp
        rw [e53 p hp, e1]
        refine ⟨?_, (ics.2.2.2 p hp).2⟩
        exact v9 p (by show p < ix_n (d.1 54 (ix_n (d.1 52 2))); have := ni_c hT.2.1; omega)
      · rw [ug _ _ (by omega), y5, e11]; exact iru.1
      · rw [e11]; exact iru.2.1
      · rw [e11]; exact iru.2.2.1
      · rw [e11] at hi
        exact old i hi (fun i' _ => y3 i') (fun a i' _ ha => by rw [v10 a i' (by omega) (by omega)]; exact td1 _ _ (by omega) (by omega)) (fun j hj => by rw [v10 _ _ (by omega) (by omega)]; exact td1 _ _ (by omega) (by omega)) (by rw [e1]; exact Int.le_refl _)
      · rw [ics.2.2.1 k (by rw [← ics.2.1]; exact hk)]
        refine Int32.toInt_inj.mp ?_
        rw [v8 k (by show k ≤ ix_n (d.1 52 2); omega)]
        exact ni_c (rw_0 hcw hk)
      · rw [(ics.2.2.2 p hp).1]
        exact v9 p (by show p < ix_n (d.1 54 (ix_n (d.1 52 2))); have := ni_c hT.2.1; omega)
end RFI

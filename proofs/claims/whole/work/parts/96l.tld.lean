/-! TOLD RULES: codes against acts, kept -/
def TD_ (z : ix_Z) (f : Nat → Nat → Int32) (i c : Nat) : Prop := ∃ (K : Nat) (T : Nat → Nat × Nat × Nat × Int32), z.1 c 4 = some (c + 3) ∧ z.1 c 5 = some (c + 4) ∧ z.2.1 (c + 3) = (20, K) ∧ z.2.1 (c + 4) = (20, K + 1) ∧ K ≤ 60 ∧ TA_ T K (f (c + 3)) (fun a => f 141 (60 * i + a)) (fun j => f 136 (30 * i + j)) ∧ pD T K = 1 ∧ f 142 i = nI (pP T K) ∧ pP T K ≤ 60 ∧ (f 135 i).toInt = pI T K ∧ pI T K ≤ 30
def iv_td (z : ix_Z) (f : Nat → Nat → Int32) : Prop := ∀ i c : Nat, (i : Int) < (f 125 11).toInt → z.1 59 i = some c → (f 132 i).toInt = 4 → TD_ z f i c
/-- the rules' cells lie apart -/
def iv_sp (z : ix_Z) (f : Nat → Nat → Int32) : Prop := ∀ i j c e : Nat, i < j → (j : Int) < (f 125 11).toInt → z.1 59 i = some c → z.1 59 j = some e → c + 2 ≤ e ∧ ((f 132 i).toInt = 4 → c + 5 ≤ e)
section TLD
variable {z z1 : ix_Z} {d : ix_D2} {f f' : Nat → Nat → Int32} {i c K : Nat} {t : Int32 × ix_Z × ix_D2} {u : Int32 × ix_D2} {T : Nat → Nat × Nat × Nat × Int32} {g g' a a' it it' : Nat → Int32}
theorem TA_d (h : TA_ T K g a it) (e1 : ∀ k, k < K → g' k = g k) (e2 : ∀ k, k < pP T K → a' k = a k) (e3 : ∀ k, k < pI T K → it' k = it k) : TA_ T K g' a' it' := by
  intro k hk
  obtain ⟨⟨h1, h2, h3, h4⟩, h5⟩ := h k hk
  have hp := pP_m (T := T) hk
  have hi : pI T (k + 1) ≤ pI T K := pI_m (by omega)
  refine ⟨⟨h1, by rw [e1 k hk]; exact h2, by rw [e2 _ (by omega)]; exact h3, fun h => ?_⟩, fun j hj => by rw [e2 _ (by omega)]; exact h5 j hj⟩
  have : pI T (k + 1) = pI T k + 1 := by rw [pI, if_pos h]
  rw [e3 _ (by omega)]; exact h4 h
theorem TT_x (h : TT_ z f i c) (hc : c + 5 ≤ z.2.2) (hc9 : 199 ≤ c) (hk : ∀ a, a < z.2.2 → z1.2.1 a = z.2.1 a) (hr : ∀ a k, a < z.2.2 → a ≠ 59 → z1.1 a k = z.1 a k) (hf : ∀ a k, 199 ≤ a → a < z.2.2 → f' a k = f a k) (h140 : f' 140 i = f 140 i) (h139 : ∀ j, j < 60 → f' 139 (60 * i + j) = f 139 (60 * i + j)) : TT_ z1 f' i c := by
  obtain ⟨L, h1, h2, h3, h4, h5⟩ := h
  exact ⟨L, by rw [hr _ _ (by omega) (by omega)]; exact h1, by rw [hk _ (by omega)]; exact h2, h3, by rw [h140]; exact h4, fun j hj => by rw [hf _ _ (by omega) (by omega), h139 j (by omega)]; exact h5 j hj⟩
theorem TD_x (h : TD_ z f i c) (hc : c + 5 ≤ z.2.2) (hc9 : 199 ≤ c) (hk : ∀ a, a < z.2.2 → z1.2.1 a = z.2.1 a) (hr : ∀ a k, a < z.2.2 → a ≠ 59 → z1.1 a k = z.1 a k) (hf : ∀ a k, 199 ≤ a → a < z.2.2 → f' a k = f a k) (h142 : f' 142 i = f 142 i) (h135 : f' 135 i = f 135 i) (h141 : ∀ j, j < 60 → f' 141 (60 * i + j) = f 141 (60 * i + j)) (h136 : ∀ j, j < 30 → f' 136 (30 * i + j) = f 136 (30 * i + j)) : TD_ z1 f' i c := by
  obtain ⟨K, T, h1, h2, h3, h4, h5, h6, h7, h8, h9, h10, h11⟩ := h
  refine ⟨K, T, by rw [hr _ _ (by omega) (by omega)]; exact h1, by rw [hr _ _ (by omega) (by omega)]; exact h2, by rw [hk _ (by omega)]; exact h3, by rw [hk _ (by omega)]; exact h4, h5, TA_d h6 (fun k hk => hf _ _ (by omega) (by omega)) (fun k hk => h141 k (by omega)) (fun k hk => h136 k (by omega)), h7, by rw [h142]; exact h8, h9, by rw [h135]; exact h10, h11⟩
/-- a told rule's cells -/
theorem ru_4 (iru : iv_ru z f) (hi : (i : Int) < (f 125 11).toInt) (h59 : z.1 59 i = some c) (h4 : (f 132 i).toInt = 4) : c + 5 ≤ z.2.2 ∧ 199 ≤ c := by
  obtain ⟨c', N, hg⟩ := iru.2.2.2 i hi
  have e : c' = c := by have := hg.1; rw [h59] at this; exact (Option.some.inj this).symm
  subst e
  obtain ⟨g1, g2, g3, g4, g5, g6, g7, g8, g9, g10, g11, g12, g13, g14, g15⟩ := hg
  refine ⟨?_, g2⟩
  rcases g15 with q | q | q | q | q <;> omega
/-- the told rules there were -/
theorem to_old {k : Prop} (iru : iv_ru z d.1) (itt : iv_tt z d.1) (itd : iv_td z d.1) (ro : RO_ k z d t u) (hf : ∀ a k, 199 ≤ a → a < z.2.2 → u.2.1 a k = d.1 a k) (h39 : ∀ i : Nat, (i : Int) < (d.1 125 11).toInt → u.2.1 140 i = d.1 140 i ∧ u.2.1 142 i = d.1 142 i ∧ ∀ j, j < 60 → u.2.1 139 (60 * i + j) = d.1 139 (60 * i + j) ∧ u.2.1 141 (60 * i + j) = d.1 141 (60 * i + j)) : ∀ i c : Nat, (i : Int) < (d.1 125 11).toInt → t.2.1.1 59 i = some c → (u.2.1 132 i).toInt = 4 → TT_ t.2.1 u.2.1 i c ∧ TD_ t.2.1 u.2.1 i c := by
  obtain ⟨r1, r2, r3, r4, r5, r6⟩ := ro
  intro i c hi h59 h4
  obtain ⟨o1, o2, o3, o4⟩ := r5 i hi
  obtain ⟨p1, p2, p3⟩ := h39 i hi
  rw [o1] at h59; rw [o2] at h4
  obtain ⟨c1, c2⟩ := ru_4 iru hi h59 h4
  exact ⟨TT_x (itt i c hi h59 h4) c1 c2 r2 r3 hf p1 (fun j hj => (p3 j hj).1), TD_x (itd i c hi h59 h4) c1 c2 r2 r3 hf p2 o3 (fun j hj => (p3 j hj).2) o4⟩
/-- clause, parity, at most, group keep the told rules -/
theorem td_ru (h : RF_ z d t u) (hz : ly_z z) (iru : iv_ru z d.1) (itt : iv_tt z d.1) (itd : iv_td z d.1) : iv_tt t.2.1 u.2.1 ∧ iv_td t.2.1 u.2.1 := by
  obtain ⟨-, -, -, -, -, -, -, -, -, fz, ro, -⟩ := h
  have hz3 := hz.2.2
  have e : ∀ a k, 199 ≤ a ∧ a < z.2.2 ∨ 139 ≤ a ∧ a ≤ 142 → u.2.1 a k = d.1 a k := fun a k h => (fz a k (by unfold mo_ru fN_ fL_C; omega)).1
  have o := to_old iru itt itd ro (fun a k h1 h2 => e a k (by omega)) (fun i hi => ⟨e _ _ (by omega), e _ _ (by omega), fun j hj => ⟨e _ _ (by omega), e _ _ (by omega)⟩⟩)
  have n : ∀ i : Nat, (i : Int) < (u.2.1 125 11).toInt → (u.2.1 132 i).toInt = 4 → (i : Int) < (d.1 125 11).toInt := fun i hi h4 => by
    by_cases c : (i : Int) < (d.1 125 11).toInt
    · exact c
    · rcases (ro.2.2.2.2.2 i (by omega) hi).1 with q | q
      · exact q.elim
      · exact absurd h4 q
  exact ⟨fun i c hi h59 h4 => (o i c (n i hi h4) h59 h4).1, fun i c hi h59 h4 => (o i c (n i hi h4) h59 h4).2⟩
/-- the rules' cells lie apart -/
theorem sp_ru {k : Prop} (iru : iv_ru z d.1) (isp : iv_sp z d.1) (ro : RO_ k z d t u) : iv_sp t.2.1 u.2.1 := by
  obtain ⟨r1, r2, r3, r4, r5, r6⟩ := ro
  intro i j c e hij hj hc he
  by_cases q : (j : Int) < (d.1 125 11).toInt
  · obtain ⟨o1, o2, -⟩ := r5 j q
    obtain ⟨p1, p2, -⟩ := r5 i (by omega)
    rw [o1] at he; rw [p1] at hc; rw [p2]
    exact isp i j c e hij q hc he
  · obtain ⟨-, s2, s3⟩ := r6 j (by omega) hj
    have q' : (i : Int) < (d.1 125 11).toInt := by omega
    obtain ⟨p1, p2, -⟩ := r5 i q'
    rw [p1] at hc
    rw [s3] at he
    have ee : z.2.2 = e := Option.some.inj he
    obtain ⟨c', N, hg⟩ := iru.2.2.2 i q'
    have ec : c' = c := by have := hg.1; rw [hc] at this; exact (Option.some.inj this).symm
    subst ec
    have g3 := hg.2.2.1
    refine ⟨by omega, fun h4 => ?_⟩
    rw [p2] at h4
    have := (ru_4 iru q' hc h4).1
    omega
end TLD

/-! TOLD on both sides -/
/-- told's invariants of texts and codes and the tape -/
def RQ_ (z : ix_Z) (d : ix_D2) (t : Int32 × ix_Z × ix_D2) (u : Int32 × ix_D2) : Prop := RL_ z d t u ∧ iv_tp u.2.1 ∧ iv_tt t.2.1 u.2.1 ∧ iv_td t.2.1 u.2.1
section TLQ
variable {n : Nat} {z : ix_Z} {d c1 r1 c2 : ix_D2} {w x : Int32} {M R K : Nat} {T T' : Nat → Nat × Nat × Nat × Int32} {g g' a a' it it' : Nat → Int32} {t : Int32 × ix_Z × ix_D2} {u : Int32 × ix_D2}
/-- equal codes: equal items -/
theorem ta_it (h : TA_ T K g a it) (h' : TA_ T' K g' a' it') (e : ∀ k, k < K → g k = g' k) : pI T K = pI T' K ∧ ∀ j, j < pI T K → it j = it' j := by
  have q : ∀ k, k < K → tkO (T k) (pD T k) ∧ tkO (T' k) (pD T' k) ∧ cdT (T k) = cdT (T' k) := fun k hk => by
    obtain ⟨⟨h1, h2, h3, h4⟩, -⟩ := h k hk
    obtain ⟨⟨l1, l2, l3, l4⟩, -⟩ := h' k hk
    exact ⟨h1, l1, by rw [← h2, ← l2, e k hk]⟩
  refine ⟨(to_e (o := none) q).2.1, fun j hj => ?_⟩
  obtain ⟨k, hk, h4, hkj⟩ := pI_sur hj
  obtain ⟨q1, q2, q3⟩ := q k hk
  have s := cd_same q1 q2 q3
  have e1 := (h k hk).1.2.2.2 h4
  have e2 := (h' k hk).1.2.2.2 (s.1.mp h4)
  have e3 : pI T k = pI T' k := (to_e (o := none) (K := k) fun m hm => q m (by omega)).2.1
  rw [← hkj, e1, s.2.1 h4, ← e2, e3]
/-- a refusal on both sides -/
theorem rl_ru {u e : ix_D2} (hz : ly_z z) (ist : iv_st d.1) (inm : iv_nm d.1) (igo : iv_go d.1) (ics : iv_cs d.1) (iru : iv_ru z d.1) (idr : iv_dr d.1) (itt : iv_tt z d.1) (itd : iv_td z d.1) (o : ∀ a k, ¬ ((a = 0 ∧ k = 17) ∨ (a = 125 ∧ (k = 0 ∨ k = 8)) ∨ (a = 43 ∧ k = 1) ∨ fT_C a k ∨ fT_R a k) → u.1 a k = d.1 a k) (ol : u.2 = d.2) (h : u.1 0 17 = u.1 125 0) (h43 : u.1 43 1 = 0) (h8 : u.1 125 8 = 0) : RQ_ z d (w, z, e) (w, u) := by
  have hz3 := hz.2.2
  have o : ∀ a k, ¬ ((a = 0 ∧ k = 17) ∨ (a = 125 ∧ (k = 0 ∨ k = 8)) ∨ (a = 43 ∧ k = 1) ∨ ((47 ≤ a ∧ a ≤ 50) ∨ (a = 43 ∧ (k = 7 ∨ (11 ≤ k ∧ k ≤ 16)))) ∨ (a = 151 ∨ (154 ≤ a ∧ a ≤ 156) ∨ (a = 125 ∧ (k = 42 ∨ k = 46 ∨ (49 ≤ k ∧ k ≤ 52))))) → u.1 a k = d.1 a k := o
  have e1 : u.1 125 1 = d.1 125 1 := o _ _ (by omega)
  have e11 : u.1 125 11 = d.1 125 11 := o _ _ (by omega)
  have ro : RO_ True z d (w, z, e) (w, u) := ⟨Nat.le_refl _, fun _ _ => rfl, fun _ _ _ _ => rfl, by rw [o _ _ (by omega)]; exact Int.le_refl _, fun i hi => ⟨rfl, o _ _ (by omega), o _ _ (by omega), fun j hj => o _ _ (by omega)⟩, fun i hi hi2 => by have hi2 : (i : Int) < (u.1 125 11).toInt := hi2; rw [e11] at hi2; omega⟩
  have oo := to_old iru itt itd ro (fun a k h1 h2 => o a k (by omega)) (fun i hi => ⟨o _ _ (by omega), o _ _ (by omega), fun j hj => ⟨o _ _ (by omega), o _ _ (by omega)⟩⟩)
  refine ⟨⟨rfl, hz, h, ?_, ?_, ?_, ⟨?_, ?_, ?_, fun i hi => ?_⟩, ?_, by rw [e1]; exact Int.le_refl _, fun a k hs => ⟨o a k (fun q => hs ?_), by rw [ol]⟩, ro, by rw [o _ _ (by omega)]; exact Int.le_refl _, Or.inr ⟨o _ _ (by omega), o _ _ (by omega), fun k _ => o _ _ (by omega), fun p _ => o _ _ (by omega)⟩⟩, ⟨by rw [h43, h8], by rw [h8]; decide, by rw [h8]; decide, fun i hi => ?_⟩, fun i c hi h59 h4 => (oo i c (by rw [← e11]; exact hi) h59 h4).1, fun i c hi h59 h4 => (oo i c (by rw [← e11]; exact hi) h59 h4).2⟩
  · unfold iv_nm; rw [o _ _ (by omega), o _ _ (by omega)]; exact inm
  · unfold iv_go; rw [o _ _ (by omega), o _ _ (by omega)]; exact igo
  · unfold iv_cs cw_ rw_ok
    rw [show u.1 52 = d.1 52 from funext fun k => o _ _ (by omega), show u.1 53 = d.1 53 from funext fun k => o _ _ (by omega), show u.1 54 = d.1 54 from funext fun k => o _ _ (by omega), o 125 23 (by omega), e1, show u.1 143 = d.1 143 from funext fun k => o _ _ (by omega), show u.1 144 = d.1 144 from funext fun k => o _ _ (by omega)]
    exact ics
  · rw [o _ _ (by omega), o _ _ (by omega)]; exact iru.1
  · rw [o _ _ (by omega)]; exact iru.2.1
  · rw [o _ _ (by omega)]; exact iru.2.2.1
  · rw [e11] at hi
    obtain ⟨c, N, hg⟩ := iru.2.2.2 i hi
    exact ⟨c, N, RG_x hg (Nat.le_refl _) rfl (fun _ _ => rfl) (fun _ _ _ _ => rfl) (fun a k l1 l2 => o a k (by omega)) (fun a ha => o _ _ (by omega)) (fun j hj => o _ _ (by omega)) (by rw [e1]; exact Int.le_refl _)⟩
  · show u.1 51 10 = 0
    rw [o _ _ (by omega)]; exact idr
  · rcases q with q | ⟨q1, q2 | q2⟩ | q | q | q
    · exact Or.inl (Or.inl (Or.inr (Or.inr ⟨q.1, Or.inr (Or.inr q.2)⟩)))
    · exact Or.inl (Or.inr (Or.inr (Or.inr (Or.inr (Or.inr ⟨q1, Or.inl q2⟩)))))
    · exact Or.inr (Or.inr (Or.inr (Or.inr (Or.inl ⟨q1, Or.inl q2⟩))))
    · exact Or.inr (Or.inr (Or.inl q))
    · exact Or.inr (Or.inl q)
    · exact Or.inr (Or.inr (Or.inr (Or.inl q)))
  · have : ((i : Int) < (u.1 125 8).toInt) := hi
    rw [h8] at this; have z0 : (0 : Int32).toInt = 0 := rfl; omega
end TLQ

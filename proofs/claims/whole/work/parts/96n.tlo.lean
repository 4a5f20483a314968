/-! TOLD on both sides: the operation -/
section TLR
variable {n : Nat} {z : ix_Z} {d c1 r1 c2 : ix_D2} {w x : Int32} {M R K : Nat} {T T' : Nat → Nat × Nat × Nat × Int32} {t : Int32 × ix_Z × ix_D2} {u : Int32 × ix_D2}
/-- what the reading leaves -/
theorem e_rdS (hz : ly_z z) (hn : 100 ≤ n) (itp : iv_tp d.1) (itb : iv_tb d.1) : ∃ (M : Nat) (rr : Int32) (c1 : ix_D2), M ≤ 60 ∧ d.1 43 1 = nI M ∧ f_X4_readTape n z 43 d = some (rr, c1) ∧ fr_ok fT_C d c1 ∧ (0 ≤ rr.toInt ∨ rr = -1) ∧ ∀ r : ix_D2, (∀ i, r.1 130 i = d.1 130 i) → r.1 125 8 = d.1 125 8 → ∃ r', f_X12_faultOfTape n z 125 r = some (rr, r') ∧ (rr = -1 → FIN_ c1.1 r'.1) ∧ fr_ok fT_R r r' := by
  obtain ⟨p1, p2, p3, p4⟩ := itp
  have hM := ni_c p2
  have e8 : d.1 125 8 = nI (ix_n (d.1 125 8)) := by refine Int32.toInt_inj.mp ?_; rw [nI_ti (by omega)]; omega
  have TP : ∀ r : ix_D2, (∀ i, r.1 130 i = d.1 130 i) → r.1 125 8 = d.1 125 8 → TPc d.1 r.1 (ix_n (d.1 125 8)) := fun r h1 h2 => ⟨by omega, by rw [p1]; exact e8, by rw [h2]; exact e8, fun i hi => by
    have b := itb i (by omega)
    exact tpB_i b.1 b.2 (by rw [h1]; exact p4 i (by omega))⟩
  obtain ⟨⟨rr, c1⟩, E1, ⟨s, r1⟩, E2, q1, q2, q3, q4⟩ := e_read (n := n) hz hn (TP d (fun _ => rfl) rfl)
  refine ⟨ix_n (d.1 125 8), rr, c1, by omega, by rw [p1]; exact e8, E1, q3, ?_, fun r h1 h2 => ?_⟩
  · rcases q2 with ⟨q, -⟩ | ⟨i, i1, i2⟩
    · exact Or.inr q
    · left
      have i2 : rr = nI i := i2
      rw [i2, nI_ti (by omega)]; omega
  · obtain ⟨⟨rr', c1'⟩, E1', ⟨s', r1'⟩, E2', v1, v2, v3, v4⟩ := e_read (n := n) hz hn (TP r h1 h2)
    have ee := E1'.symm.trans E1
    injection ee with ee
    injection ee with ea eb
    subst ea eb
    have v1 : rr' = s' := v1
    subst v1
    refine ⟨r1', E2', fun hr => ?_, v4⟩
    rcases v2 with ⟨-, q⟩ | ⟨i, i1, i2⟩
    · exact q
    · have i2 : rr' = nI i := i2
      rw [hr] at i2
      have : (-1 : Int32).toInt = (nI i).toInt := by rw [i2]
      rw [nI_ti (by omega)] at this
      have e1 : (-1 : Int32).toInt = -1 := rfl
      omega
/-- the invariants behind the reading -/
theorem RL_t (o : ∀ a k, ¬ (fT_C a k ∨ (a = 43 ∧ k = 1)) → c2.1 a k = d.1 a k) (ol : c2.2 = d.2) (h : RL_ z c2 t u) : RL_ z d t u := by
  obtain ⟨h1, h2, h3, h4, h5, h6, h7, h8, h9, h10, ⟨r1, r2, r3, r4, r5, r6⟩, r7, r8⟩ := h
  have o' : ∀ a k, 125 ≤ a → c2.1 a k = d.1 a k := fun a k q => o a k (by unfold fT_C; omega)
  refine ⟨h1, h2, h3, h4, h5, h6, h7, h8, by rw [← o' _ _ (by omega)]; exact h9, fun a k hs => ?_, ⟨r1, r2, r3, by rw [← o' _ _ (by omega)]; exact r4, fun i hi => ?_, fun i hi hi2 => ?_⟩, by rw [← o _ _ (by unfold fT_C; omega)]; exact r7, ?_⟩
  · have s1 : ¬ (fT_C a k ∨ (a = 43 ∧ k = 1)) := fun w => hs (Or.inr (by rcases w with w | w; exact Or.inl w; exact Or.inr (Or.inl w)))
    have q := h10 a k hs
    exact ⟨q.1.trans (o a k s1), by rw [q.2, ol]⟩
  · rw [← o' _ _ (by omega)] at hi
    have q := r5 i hi
    exact ⟨q.1, q.2.1.trans (o' _ _ (by omega)), q.2.2.1.trans (o' _ _ (by omega)), fun j hj => (q.2.2.2 j hj).trans (o' _ _ (by omega))⟩
  · rw [← o' _ _ (by omega)] at hi ⊢
    exact r6 i hi hi2
  · have o2 : c2.1 52 2 = d.1 52 2 := o _ _ (by unfold fT_C; omega)
    have o4 : c2.1 54 = d.1 54 := funext fun k => o _ _ (by unfold fT_C; omega)
    rcases r8 with q | ⟨q1, q2, q3, q4⟩
    · exact Or.inl q
    · exact Or.inr ⟨q1.trans (o _ _ (by unfold fT_C; omega)), q2.trans o2, fun k hk => (q3 k (by rw [o2]; exact hk)).trans (o' _ _ (by omega)), fun p hp => (q4 p (by rw [o2, o4]; exact hp)).trans (o' _ _ (by omega))⟩
/-- what a finished reading means for the reference -/
theorem e_rdF {rr : Int32} (hF : FIN_ c1.1 r1.1) (HR : ∀ r : ix_D2, (∀ i, r.1 130 i = d.1 130 i) → r.1 125 8 = d.1 125 8 → ∃ r', f_X12_faultOfTape n z 125 r = some (rr, r') ∧ (rr = -1 → FIN_ c1.1 r'.1) ∧ fr_ok fT_R r r') (hrr : rr = -1) : ∃ (K : Nat) (T : Nat → Nat × Nat × Nat × Int32) (N : Nat) (it : Nat → Int32), K ≤ 60 ∧ c1.1 43 7 = nI K ∧ (∀ k, k < K → tkO (T k) (pD T k)) ∧ (∀ k, k < K → c1.1 47 k = cdT (T k)) ∧ (∀ k, k < K → (T k).1 = 4 → it (pI T k) = (T k).2.2.2) ∧ pD T K = 1 ∧ N ≤ 30 ∧ N = pI T K ∧ ∀ r : ix_D2, (∀ i, r.1 130 i = d.1 130 i) → r.1 125 8 = d.1 125 8 → ∃ r' T', f_X12_faultOfTape n z 125 r = some (rr, r') ∧ fr_ok fT_R r r' ∧ TA_ T' K (c1.1 47) (r'.1 154) (r'.1 151) ∧ r'.1 125 46 = nI (pP T' K) ∧ r'.1 125 42 = nI N ∧ pD T' K = 1 ∧ pP T' K ≤ 60 ∧ pI T' K = N ∧ (∀ j, j < N → it j = r'.1 151 j) ∧ (∀ o, toF T' K o = toF T K o) ∧ ∀ k, k < K → ((T k).1 = 4 ↔ (T' k).1 = 4) ∧ ((T k).1 = 4 → (T k).2.2.2 = (T' k).2.2.2) := by
  obtain ⟨T, K, h1, h2, h3, h4, h5, h6, h7⟩ := hF
  have hKP := pP_k (T := T) K
  refine ⟨K, T, pI T K, r1.1 151, by omega, h2, fun k hk => (h1 k hk).1.1, fun k hk => (h1 k hk).1.2.1, fun k hk => (h1 k hk).1.2.2.2, h5, h7, rfl, fun r e1 e2 => ?_⟩
  obtain ⟨r', E, F', fr⟩ := HR r e1 e2
  obtain ⟨T', K', l1, l2, l3, l4, l5, l6, l7⟩ := F' hrr
  have hKP' := pP_k (T := T') K'
  have eK : K' = K := by
    have := congrArg Int32.toInt (l2.symm.trans h2)
    rw [nI_ti (by omega), nI_ti (by omega)] at this
    omega
  subst eK
  have q : ∀ k, k < K' → tkO (T k) (pD T k) ∧ tkO (T' k) (pD T' k) ∧ cdT (T k) = cdT (T' k) := fun k hk => ⟨(h1 k hk).1.1, (l1 k hk).1.1, by rw [← (h1 k hk).1.2.1, ← (l1 k hk).1.2.1]⟩
  obtain ⟨p1, p2⟩ := ta_it h1 l1 (fun _ _ => rfl)
  refine ⟨r', T', E, fr, l1, l3, by rw [p1]; exact l4, l5, l6, p1.symm, p2, fun o => ?_, fun k hk => ?_⟩
  · unfold toF
    rw [(to_e (o := o) q).2.2]
  · obtain ⟨q1, q2, q3⟩ := q k hk
    have s := cd_same q1 q2 q3
    exact ⟨s.1, s.2.1⟩
end TLR

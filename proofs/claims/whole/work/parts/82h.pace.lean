/-! the pace of beginning anew: class and reference count alike -/
section PCE
variable {n : Nat} {z : ix_Z}
theorem pw_b {k i : Nat} (h : 2 ^ k ≤ i + 1) (hi : i ≤ 1000) : k ≤ 9 := by
  apply Classical.byContradiction
  intro hn
  have : 2 ^ 10 ≤ 2 ^ k := Nat.pow_le_pow_right (by omega) (by omega)
  omega
theorem pc_19 (hn : 20000 ≤ n) {i : Nat} (h1 : 1 ≤ i) (h2 : i ≤ 1000) {rec4 : Int32 → Int32 → ix_D2 → Option (Int32 × ix_D2)} {x2 : Int32} {d : ix_D2} {Q : Int32 × ix_D2 → Prop} (H : ∀ k, 2 ^ k ≤ i + 1 → i + 1 < 2 * 2 ^ k → wp_t (f_X9_pace_45 n z rec4 (nI i) x2 (nI (2 ^ k)) d) Q) : wp_t (f_X9_pace_19 n z rec4 (nI i) x2 1 0 d) Q := by
  unfold f_X9_pace_19
  refine wp_fx3 (J := fun x3 x4 d' => ∃ k : Nat, x3 = nI (2 ^ k) ∧ x4 = nI k ∧ 2 ^ k ≤ i + 1 ∧ d' = d) (μ := fun _ x4 _ => 20 - ix_n x4) ?_ n 1 0 d ⟨0, rfl, rfl, by show 1 ≤ i + 1; omega, rfl⟩ (by omega)
  rintro rec x3 x4 d' ⟨k, rfl, rfl, hk, rfl⟩ ih
  have hk9 := pw_b hk h2
  have ek : (nI k).toInt = k := nI_ti (by omega)
  have ep : (nI (2 ^ k)).toInt = ((2 ^ k : Nat) : Int) := nI_ti (by omega)
  have ei : (nI i).toInt = i := nI_ti (by omega)
  obtain ⟨P, hP⟩ : ∃ P, P = 2 ^ k := ⟨_, rfl⟩
  have e2 : (2 * nI (2 ^ k)).toInt = ((2 * P : Nat) : Int) := (lm_ (a := 2) rfl ep (by omega) (by omega)).trans (by omega)
  have e3 : (nI (2 ^ k) * 2).toInt = ((2 * P : Nat) : Int) := (lm_ (b := 2) ep rfl (by omega) (by omega)).trans (by omega)
  have e4 : nI (2 ^ k) * 2 = nI (2 ^ (k + 1)) := Int32.toInt_inj.mp (by
    have : 2 ^ (k + 1) = 2 * P := by rw [Nat.pow_succ, hP]; omega
    rw [e3, this, nI_ti (by omega)])
  have e5 : (nI i + 1).toInt = (i : Int) + 1 := la_ (b := 1) ei rfl (by omega) (by omega)
  have e6 : nI k + 1 = nI (k + 1) := nI_1 _
  unfold b_X9_pace_19
  refine wi_ifn (by rw [ti_le, ek]; show ¬ (30 : Int) ≤ _; omega) ?_
  by_cases c : i + 1 < 2 * P
  · refine wi_ifp (by rw [ti_lt, e5, e2]; omega) ?_
    exact H k hk (by rw [← hP]; exact c)
  · refine wi_ifn (by rw [ti_lt, e5, e2]; omega) ?_
    refine wi_lt ?_
    refine wi_lt ?_
    rw [e4, e6]
    refine ih _ _ _ ⟨k + 1, rfl, rfl, ?_, rfl⟩ (by rw [nI_n (by omega), nI_n (by omega)]; omega)
    rw [Nat.pow_succ]
    omega
theorem pr_11 (hn : 20000 ≤ n) {i : Nat} (h1 : 1 ≤ i) (h2 : i ≤ 1000) {rec4 : Int32 → Int32 → ix_D2 → Option (Int32 × ix_D2)} {d : ix_D2} {Q : Int32 × ix_D2 → Prop} (H : ∀ j, 2 ^ j < i + 1 → i + 1 ≤ 2 * 2 ^ j → wp_t (ix_if (nI (2 * 2 ^ j - 1) = nI i) (rec4 (nI i) (nI (2 * 2 ^ j - 1)) d) (ix_lt (nI i - ((nI (2 * 2 ^ j - 1) - 1) / 2)) (fun x1_4 => rec4 x1_4 0 d))) Q) : wp_t (f_X12_partOfRow_11 n z rec4 (nI i) 1 d) Q := by
  unfold f_X12_partOfRow_11
  refine wp_fx2 (J := fun x2 d' => ∃ j : Nat, x2 = nI (2 * 2 ^ j - 1) ∧ 2 ^ j < i + 1 ∧ d' = d) (μ := fun x2 _ => 4000 - ix_n x2) ?_ n 1 d ⟨0, rfl, by show 1 < i + 1; omega, rfl⟩ (by omega)
  rintro rec x2 d' ⟨j, rfl, hj, rfl⟩ ih
  obtain ⟨P, hP⟩ : ∃ P, P = 2 ^ j := ⟨_, rfl⟩
  have hP1 : 1 ≤ P := by rw [hP]; exact Nat.one_le_two_pow
  have ei : (nI i).toInt = i := nI_ti (by omega)
  have ep : (nI (2 * 2 ^ j - 1)).toInt = ((2 * P - 1 : Nat) : Int) := by rw [nI_ti (by omega), hP]
  have e3 : (2 * nI (2 * 2 ^ j - 1) + 1).toInt = ((4 * P - 1 : Nat) : Int) := (la_ (b := 1) (lm_ (a := 2) rfl ep (by omega) (by omega)) rfl (by omega) (by omega)).trans (by omega)
  have e4 : 2 * nI (2 * 2 ^ j - 1) + 1 = nI (2 * 2 ^ (j + 1) - 1) := Int32.toInt_inj.mp (by
    have : 2 * 2 ^ (j + 1) = 4 * P := by rw [Nat.pow_succ, hP]; omega
    rw [e3, this, nI_ti (by omega)])
  unfold b_X12_partOfRow_11
  by_cases c : i ≤ 2 * P - 1
  · refine wi_ifp (by rw [ti_le, ei, ep]; omega) ?_
    exact H j hj (by omega)
  · refine wi_ifn (by rw [ti_le, ei, ep]; omega) ?_
    refine wi_lt ?_
    rw [e4]
    have h3 : 2 ^ (j + 1) = 2 * P := by rw [Nat.pow_succ, hP]; omega
    refine ih _ _ ⟨j + 1, rfl, by omega, rfl⟩ ?_
    rw [nI_n (by omega), nI_n (by omega)]
    omega
theorem pc_m (hn : 20000 ≤ n) : ∀ (b i : Nat), i < b → 1 ≤ i → i ≤ 1000 → ∃ v : Int32, (∀ (f t : Nat) (d : ix_D2), i < f → i < 2 ^ (32 - t) → t ≤ 31 → ix_fix (b_X9_pace_4 n z) (fun _ _ _ => none) f (nI i) (nI t) d = some (v, d)) ∧ ∀ (f : Nat) (d : ix_D2), i + 1 < f → ix_fix (b_X12_partOfRow_4 n z) (fun _ _ _ => none) f (nI i) 0 d = some (v, d) := by
  intro b
  induction b with
  | zero => intro i h; exact absurd h (Nat.not_lt_zero _)
  | succ b ihb =>
    intro i hib h1 h2
    have ei : (nI i).toInt = i := nI_ti (by omega)
    have e5 : (nI i + 1).toInt = (i : Int) + 1 := la_ (b := 1) ei rfl (by omega) (by omega)
    /- the power below -/
    have hex : ∃ k, 2 ^ k ≤ i + 1 ∧ i + 1 < 2 * 2 ^ k := by
      have : ∀ m, i + 1 < 2 ^ m → ∃ k, 2 ^ k ≤ i + 1 ∧ i + 1 < 2 * 2 ^ k := by
        intro m
        induction m with
        | zero => intro h; have : 2 ^ 0 = 1 := rfl; omega
        | succ m ihm =>
          intro h
          by_cases c : i + 1 < 2 ^ m
          · exact ihm c
          · exact ⟨m, by omega, by rw [Nat.pow_succ] at h; omega⟩
      exact this 10 (by have : 2 ^ 10 = 1024 := rfl; omega)
    obtain ⟨k, k1, k2⟩ := hex
    have uk : ∀ k', 2 ^ k' ≤ i + 1 → i + 1 < 2 * 2 ^ k' → k' = k := by
      intro k' a1 a2
      apply Classical.byContradiction
      intro hne
      rcases Nat.lt_or_gt_of_ne hne with q | q
      · have : 2 ^ (k' + 1) ≤ 2 ^ k := Nat.pow_le_pow_right (by omega) (by omega)
        rw [Nat.pow_succ] at this
        omega
      · have : 2 ^ (k + 1) ≤ 2 ^ k' := Nat.pow_le_pow_right (by omega) (by omega)
        rw [Nat.pow_succ] at this
        omega
    have hk9 := pw_b k1 h2
    obtain ⟨P, hP⟩ : ∃ P, P = 2 ^ k := ⟨_, rfl⟩
    have hP1 : 1 ≤ P := by rw [hP]; exact Nat.one_le_two_pow
    have ep : (nI (2 ^ k)).toInt = (P : Int) := by rw [nI_ti (by omega), hP]
    by_cases c : P = i + 1
    · /- here is the end -/
      have hk0 : 1 ≤ k := by
        apply Classical.byContradiction
        intro h
        have : k = 0 := by omega
        subst this
        have : P = 1 := hP
        omega
      obtain ⟨H, hH⟩ : ∃ H, P = 2 * H := ⟨2 ^ (k - 1), by rw [hP, show k = (k - 1) + 1 by omega, Nat.pow_succ, Nat.add_sub_cancel]; omega⟩
      refine ⟨nI H, fun f t d hf ht ht2 => ?_, fun f d hf => ?_⟩
      · obtain ⟨g, rfl⟩ : ∃ g, f = g + 1 := ⟨f - 1, by omega⟩
        rw [← wp_eq]
        show wp_t (b_X9_pace_4 n z _ (nI i) (nI t) d) _
        unfold b_X9_pace_4
        have et : (nI t).toInt = t := nI_ti (by omega)
        refine wi_ifn (by rw [ti_le, et]; show ¬ (32 : Int) ≤ _; omega) ?_
        refine wi_ifn (by rw [ti_le, ei]; show ¬ _ ≤ (0 : Int); omega) ?_
        refine pc_19 hn h1 h2 (fun k' a1 a2 => ?_)
        rw [uk k' a1 a2]
        unfold f_X9_pace_45
        refine wi_ifp (Int32.toInt_inj.mp (by rw [ep, e5]; omega)) ?_
        refine wi_some ?_
        have : nI (2 ^ k) / 2 = nI H := Int32.toInt_inj.mp (by
          rw [ta_div (by omega) (by decide), ep, nI_ti (by omega)]
          show (P : Int) / 2 = _
          omega)
        rw [this]
      · obtain ⟨g, rfl⟩ : ∃ g, f = g + 2 := ⟨f - 2, by omega⟩
        rw [← wp_eq]
        show wp_t (b_X12_partOfRow_4 n z (ix_fix (b_X12_partOfRow_4 n z) (fun _ _ _ => none) (g + 1)) (nI i) 0 d) _
        unfold b_X12_partOfRow_4
        refine wi_ifn (fun e => by have := congrArg Int32.toInt e; rw [ei] at this; have e0 : (0 : Int32).toInt = 0 := rfl; omega) ?_
        refine pr_11 hn h1 h2 (fun j a1 a2 => ?_)
        have hj : j + 1 = k := by
          apply Classical.byContradiction
          intro hne
          rcases Nat.lt_or_gt_of_ne hne with q | q
          · have : 2 ^ (j + 1 + 1) ≤ 2 ^ k := Nat.pow_le_pow_right (by omega) (by omega)
            rw [Nat.pow_succ, Nat.pow_succ] at this
            omega
          · have : 2 ^ k ≤ 2 ^ j := Nat.pow_le_pow_right (by omega) (by omega)
            omega
        have e2j : 2 * 2 ^ j = P := by rw [hP, ← hj, Nat.pow_succ]; omega
        rw [e2j, show P - 1 = i by omega]
        refine wi_ifp rfl ?_
        show wp_t (b_X12_partOfRow_4 n z _ (nI i) (nI i) d) _
        unfold b_X12_partOfRow_4
        refine wi_ifp rfl ?_
        refine wi_some ?_
        have : (nI i + 1) / 2 = nI H := Int32.toInt_inj.mp (by
          rw [ta_div (by omega) (by decide), e5, nI_ti (by omega)]
          show ((i : Int) + 1) / 2 = _
          omega)
        rw [this]
    · obtain ⟨v, v1, v2⟩ := ihb (i - (P - 1)) (by
        have : 2 ≤ P := by
          apply Classical.byContradiction
          intro hlt
          have : P = 1 := by omega
          rw [← hP] at k2
          omega
        omega) (by omega) (by omega)
      refine ⟨v, fun f t d hf ht ht2 => ?_, fun f d hf => ?_⟩
      · obtain ⟨g, rfl⟩ : ∃ g, f = g + 1 := ⟨f - 1, by omega⟩
        rw [← wp_eq]
        show wp_t (b_X9_pace_4 n z (ix_fix (b_X9_pace_4 n z) (fun _ _ _ => none) g) (nI i) (nI t) d) _
        unfold b_X9_pace_4
        have et : (nI t).toInt = t := nI_ti (by omega)
        refine wi_ifn (by rw [ti_le, et]; show ¬ (32 : Int) ≤ _; omega) ?_
        refine wi_ifn (by rw [ti_le, ei]; show ¬ _ ≤ (0 : Int); omega) ?_
        refine pc_19 hn h1 h2 (fun k' a1 a2 => ?_)
        rw [uk k' a1 a2]
        unfold f_X9_pace_45
        refine wi_ifn (fun e => by have := congrArg Int32.toInt e; rw [ep, e5] at this; omega) ?_
        refine wi_lt ?_
        refine wi_lt ?_
        have e1 : nI i - (nI (2 ^ k) - 1) = nI (i - (P - 1)) := Int32.toInt_inj.mp (by
          rw [ls_ (b := (P : Int) - 1) ei (ls_ (b := 1) ep rfl (by omega) (by omega)) (by omega) (by omega), nI_ti (by omega)]
          omega)
        have e2 : nI t + 1 = nI (t + 1) := nI_1 _
        rw [e1, e2]
        have hkt : k ≤ 31 - t := by
          apply Classical.byContradiction
          intro hlt
          have : 2 ^ (32 - t) ≤ 2 ^ k := Nat.pow_le_pow_right (by omega) (by omega)
          omega
        have ht31 : t ≤ 30 := by
          apply Classical.byContradiction
          intro hlt
          have : t = 31 := by omega
          subst this
          have : 2 ^ (32 - 31) = 2 := rfl
          have : i = 1 := by omega
          subst this
          have : k = 0 := by omega
          subst this
          have : P = 1 := hP
          omega
        have : 2 ^ k ≤ 2 ^ (32 - (t + 1)) := Nat.pow_le_pow_right (by omega) (by omega)
        exact wi_e (v1 g (t + 1) d (by omega) (by omega) (by omega)) rfl
      · obtain ⟨g, rfl⟩ : ∃ g, f = g + 1 := ⟨f - 1, by omega⟩
        rw [← wp_eq]
        show wp_t (b_X12_partOfRow_4 n z (ix_fix (b_X12_partOfRow_4 n z) (fun _ _ _ => none) g) (nI i) 0 d) _
        unfold b_X12_partOfRow_4
        refine wi_ifn (fun e => by have := congrArg Int32.toInt e; rw [ei] at this; have e0 : (0 : Int32).toInt = 0 := rfl; omega) ?_
        refine pr_11 hn h1 h2 (fun j a1 a2 => ?_)
        have hj : j = k := by
          apply Classical.byContradiction
          intro hne
          rcases Nat.lt_or_gt_of_ne hne with q | q
          · have : 2 ^ (j + 1) ≤ 2 ^ k := Nat.pow_le_pow_right (by omega) (by omega)
            rw [Nat.pow_succ] at this
            omega
          · have : 2 ^ (k + 1) ≤ 2 ^ j := Nat.pow_le_pow_right (by omega) (by omega)
            rw [Nat.pow_succ] at this
            omega
        rw [hj, ← hP]
        have es : (nI (2 * P - 1)).toInt = ((2 * P - 1 : Nat) : Int) := nI_ti (by omega)
        refine wi_ifn (fun e => by have := congrArg Int32.toInt e; rw [es, ei] at this; omega) ?_
        refine wi_lt ?_
        have e0 : ((nI (2 * P - 1) - 1) / 2).toInt = (P : Int) - 1 := by
          have q : (nI (2 * P - 1) - 1).toInt = ((2 * P - 1 : Nat) : Int) - 1 := ls_ (b := 1) es rfl (by omega) (by omega)
          rw [ta_div (by omega) (by decide), q]
          show _ / (2 : Int) = _
          omega
        have e1 : nI i - ((nI (2 * P - 1) - 1) / 2) = nI (i - (P - 1)) := Int32.toInt_inj.mp (by
          rw [ls_ ei e0 (by omega) (by omega), nI_ti (by omega)]
          omega)
        rw [e1]
        have : 2 ≤ P := by
          apply Classical.byContradiction
          intro hlt
          have : P = 1 := by omega
          rw [← hP] at k2
          omega
        exact wi_e (v2 g d (by omega)) rfl
theorem pc_e (hn : 20000 ≤ n) {i : Nat} (h1 : 1 ≤ i) (h2 : i ≤ 1000) : ∃ v : Int32, (∀ d : ix_D2, f_X9_pace n z (nI i) d = some (v, d)) ∧ ∀ d : ix_D2, f_X12_partOfRow n z (nI i) d = some (v, d) := by
  obtain ⟨v, v1, v2⟩ := pc_m (z := z) hn (i + 1) i (by omega) h1 h2
  exact ⟨v, fun d => v1 n 0 d (by omega) (by have : 2 ^ (32 - 0) = 4294967296 := rfl; omega) (by omega), fun d => v2 n d (by omega)⟩
end PCE

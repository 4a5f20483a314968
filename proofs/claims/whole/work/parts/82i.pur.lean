/-! rows that may go, by their use: pure -/
/-- M places, in order of use, then of place; just those that C takes, below K -/
def so_ (u : Nat → Int) (C : Nat → Prop) (Q : Nat → Nat) (M K : Nat) : Prop := (∀ i, i < M → Q i < K ∧ C (Q i)) ∧ (∀ i j, i < j → j < M → u (Q i) < u (Q j) ∨ (u (Q i) = u (Q j) ∧ Q i < Q j)) ∧ (∀ k, k < K → C k → ∃ i, i < M ∧ Q i = k) ∧ (M : Int) = sm_ (fun k => ix_if (C k) 1 0) 0 K
theorem so_b {u : Nat → Int} {C : Nat → Prop} {Q : Nat → Nat} {M K : Nat} (h : so_ u C Q M K) : M ≤ K := by
  have := sm_le (f := fun k => ix_if (C k) (1 : Int) 0) (a := 0) (c := 1) (fun p => by
    by_cases e : C p
    · rw [ix_if_pos e]; omega
    · rw [ix_if_neg e]; omega) (by omega) (b := K) (by omega)
  have e := h.2.2.2
  omega
theorem so_0 {u : Nat → Int} {C : Nat → Prop} {Q : Nat → Nat} : so_ u C Q 0 0 := ⟨fun i h => absurd h (by omega), fun i j _ h => absurd h (by omega), fun k h => absurd h (by omega), rfl⟩
theorem so_n {u : Nat → Int} {C : Nat → Prop} {Q : Nat → Nat} {M K : Nat} (h : so_ u C Q M K) (hc : ¬ C K) : so_ u C Q M (K + 1) := by
  refine ⟨fun i hi => ⟨by have := (h.1 i hi).1; omega, (h.1 i hi).2⟩, h.2.1, fun k hk ck => ?_, ?_⟩
  · by_cases e : k = K
    · subst e; exact absurd ck hc
    · exact h.2.2.1 k (by omega) ck
  · rw [sm_s (by omega), ix_if_neg hc, h.2.2.2]
    omega
theorem so_i {u : Nat → Int} {C : Nat → Prop} {Q : Nat → Nat} {M K a : Nat} (h : so_ u C Q M K) (hc : C K) (ha : a ≤ M) (h1 : a = 0 ∨ u (Q (a - 1)) ≤ u K) (h2 : ∀ j, a ≤ j → j < M → u K < u (Q j)) : so_ u C (fun j => if j < a then Q j else if j = a then K else Q (j - 1)) (M + 1) (K + 1) := by
  obtain ⟨b1, b2, b3, b4⟩ := h
  have lo : ∀ j, j < a → u (Q j) ≤ u K := by
    intro j hj
    rcases h1 with e | e
    · omega
    · by_cases ej : j = a - 1
      · rw [ej]; exact e
      · have := b2 j (a - 1) (by omega) (by omega)
        omega
  refine ⟨fun i hi => ?_, fun i j hij hj => ?_, fun k hk ck => ?_, ?_⟩
  · show (if i < a then Q i else if i = a then K else Q (i - 1)) < K + 1 ∧ C (if i < a then Q i else if i = a then K else Q (i - 1))
    by_cases c1 : i < a
    · rw [if_pos c1]
      have := b1 i (by omega)
      exact ⟨by omega, this.2⟩
    · rw [if_neg c1]
      by_cases c2 : i = a
      · rw [if_pos c2]; exact ⟨by omega, hc⟩
      · rw [if_neg c2]
        have := b1 (i - 1) (by omega)
        exact ⟨by omega, this.2⟩
  · show u (if i < a then Q i else if i = a then K else Q (i - 1)) < u (if j < a then Q j else if j = a then K else Q (j - 1)) ∨ (u (if i < a then Q i else if i = a then K else Q (i - 1)) = u (if j < a then Q j else if j = a then K else Q (j - 1)) ∧ (if i < a then Q i else if i = a then K else Q (i - 1)) < (if j < a then Q j else if j = a then K else Q (j - 1)))
    by_cases c1 : i < a
    · rw [if_pos c1]
      have hq := (b1 i (by omega)).1
      have l := lo i c1
      by_cases d1 : j < a
      · rw [if_pos d1]; exact b2 i j hij (by omega)
      · rw [if_neg d1]
        by_cases d2 : j = a
        · rw [if_pos d2]; omega
        · rw [if_neg d2]
          have := h2 (j - 1) (by omega) (by omega)
          omega
    · rw [if_neg c1, if_neg (show ¬ j < a by omega), if_neg (show ¬ j = a by omega)]
      by_cases c2 : i = a
      · rw [if_pos c2]
        have := h2 (j - 1) (by omega) (by omega)
        omega
      · rw [if_neg c2]
        exact b2 (i - 1) (j - 1) (by omega) (by omega)
  · show ∃ i, i < M + 1 ∧ (if i < a then Q i else if i = a then K else Q (i - 1)) = k
    by_cases e : k = K
    · exact ⟨a, by omega, by rw [if_neg (by omega), if_pos rfl, e]⟩
    · obtain ⟨i, i1, i2⟩ := b3 k (by omega) ck
      by_cases c1 : i < a
      · exact ⟨i, by omega, by rw [if_pos c1, i2]⟩
      · exact ⟨i + 1, by omega, by rw [if_neg (by omega), if_neg (by omega), Nat.add_sub_cancel, i2]⟩
  · rw [sm_s (by omega), ix_if_pos hc, ← b4]
    omega
/-- the least of those that are left -/
theorem so_l {u : Nat → Int} {C : Nat → Prop} {Q : Nat → Nat} {M K g l : Nat} (h : so_ u C Q M K) (hg : g < M) (hl : l < K) (cl : C l) (nl : ∀ i, i < g → Q i ≠ l) (ml : ∀ k, k < K → C k → (∀ i, i < g → Q i ≠ k) → u l < u k ∨ (u l = u k ∧ l ≤ k)) : l = Q g := by
  obtain ⟨b1, b2, b3, b4⟩ := h
  obtain ⟨i, i1, i2⟩ := b3 l hl cl
  have hig : g ≤ i := by
    apply Classical.byContradiction
    intro hlt
    exact nl i (by omega) i2
  have qg := b1 g hg
  have hne : ∀ j, j < g → Q j ≠ Q g := by
    intro j hj e
    have := b2 j g hj hg
    rw [e] at this
    omega
  have := ml (Q g) qg.1 qg.2 hne
  by_cases e : i = g
  · rw [← i2, e]
  · have := b2 g i (by omega) i1
    rw [i2] at this
    omega

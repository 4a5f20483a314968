/-! pure words for the walk: fresh items, used rows -/
/-- the fresh items behind m places of the trail, from its end on -/
def fw_ (tr mk : Nat → Int32) (last : Int32) (t : Nat) : Nat → (Nat → Int32) × Nat
  | 0 => (fun _ => -last, 1)
  | m + 1 => if tr (t - 1 - m) ≠ last ∧ (mk (ix_n (ix_abs (tr (t - 1 - m))))).toInt = 1 then (fun k => if k = (fw_ tr mk last t m).2 then -tr (t - 1 - m) else (fw_ tr mk last t m).1 k, (fw_ tr mk last t m).2 + 1) else fw_ tr mk last t m
/-- the highest level of them -/
def fx_ (tr mk lv : Nat → Int32) (last : Int32) (t : Nat) : Nat → Int32
  | 0 => 0
  | m + 1 => if tr (t - 1 - m) ≠ last ∧ (mk (ix_n (ix_abs (tr (t - 1 - m))))).toInt = 1 then ix_max (fx_ tr mk lv last t m) (lv (ix_n (ix_abs (tr (t - 1 - m))))) else fx_ tr mk lv last t m
section FWW
variable {tr mk lv : Nat → Int32} {last : Int32} {t : Nat}
theorem fw_b : ∀ m, 1 ≤ (fw_ tr mk last t m).2 ∧ (fw_ tr mk last t m).2 ≤ m + 1
  | 0 => ⟨Nat.le_refl 1, Nat.le_refl 1⟩
  | m + 1 => by
    have h := fw_b m
    show 1 ≤ (if _ then _ else _ : (Nat → Int32) × Nat).2 ∧ (if _ then _ else _ : (Nat → Int32) × Nat).2 ≤ m + 1 + 1
    split
    · exact ⟨Nat.le_add_left 1 _, Nat.add_le_add_right h.2 1⟩
    · exact ⟨h.1, by omega⟩
theorem fw_0 : ∀ m, (fw_ tr mk last t m).1 0 = -last
  | 0 => rfl
  | m + 1 => by
    have h := fw_b (tr := tr) (mk := mk) (last := last) (t := t) m
    have i := fw_0 m
    show (if _ then _ else _ : (Nat → Int32) × Nat).1 0 = -last
    split
    · show (if 0 = (fw_ tr mk last t m).2 then _ else _) = _
      rw [if_neg (by omega)]; exact i
    · exact i
theorem fw_m : ∀ m k, 1 ≤ k → k < (fw_ tr mk last t m).2 → m ≤ t → ∃ j, t ≤ j + m ∧ j < t ∧ (fw_ tr mk last t m).1 k = -tr j ∧ tr j ≠ last ∧ (mk (ix_n (ix_abs (tr j)))).toInt = 1
  | 0, k, h1, h2, _ => by have : (fw_ tr mk last t 0).2 = 1 := rfl; omega
  | m + 1, k, h1, h2, h3 => by
    have b := fw_b (tr := tr) (mk := mk) (last := last) (t := t) m
    by_cases c : tr (t - 1 - m) ≠ last ∧ (mk (ix_n (ix_abs (tr (t - 1 - m))))).toInt = 1
    · have e : fw_ tr mk last t (m + 1) = (fun k => if k = (fw_ tr mk last t m).2 then -tr (t - 1 - m) else (fw_ tr mk last t m).1 k, (fw_ tr mk last t m).2 + 1) := if_pos c
      rw [e] at h2 ⊢
      show ∃ j, t ≤ j + (m + 1) ∧ j < t ∧ (if k = (fw_ tr mk last t m).2 then -tr (t - 1 - m) else (fw_ tr mk last t m).1 k) = -tr j ∧ _
      by_cases ek : k = (fw_ tr mk last t m).2
      · rw [if_pos ek]
        exact ⟨t - 1 - m, by omega, by omega, rfl, c.1, c.2⟩
      · rw [if_neg ek]
        have h2' : k < (fw_ tr mk last t m).2 + 1 := h2
        obtain ⟨j, a1, a2, a3⟩ := fw_m m k h1 (by omega) (by omega)
        exact ⟨j, by omega, a2, a3⟩
    · have e : fw_ tr mk last t (m + 1) = fw_ tr mk last t m := if_neg c
      rw [e] at h2 ⊢
      obtain ⟨j, a1, a2, a3⟩ := fw_m m k h1 h2 (by omega)
      exact ⟨j, by omega, a2, a3⟩
/-- an item's place stays -/
theorem fw_k : ∀ m k, k < (fw_ tr mk last t m).2 → (fw_ tr mk last t (m + 1)).1 k = (fw_ tr mk last t m).1 k ∧ k < (fw_ tr mk last t (m + 1)).2 := by
  intro m k h
  by_cases c : tr (t - 1 - m) ≠ last ∧ (mk (ix_n (ix_abs (tr (t - 1 - m))))).toInt = 1
  · have e : fw_ tr mk last t (m + 1) = (fun k => if k = (fw_ tr mk last t m).2 then -tr (t - 1 - m) else (fw_ tr mk last t m).1 k, (fw_ tr mk last t m).2 + 1) := if_pos c
    rw [e]
    exact ⟨if_neg (by omega), Nat.lt_succ_of_lt h⟩
  · have e : fw_ tr mk last t (m + 1) = fw_ tr mk last t m := if_neg c
    rw [e]
    exact ⟨rfl, h⟩
/-- the highest level, read off the fresh items -/
def fy_ (lv f : Nat → Int32) : Nat → Int32
  | 0 => 0
  | k + 1 => ix_max (fy_ lv f k) (lv (ix_n (ix_abs (f (k + 1)))))
theorem fy_c {f g : Nat → Int32} : ∀ k, (∀ i, 1 ≤ i → i ≤ k → f i = g i) → fy_ lv f k = fy_ lv g k
  | 0, _ => rfl
  | k + 1, h => by
    show ix_max (fy_ lv f k) (lv (ix_n (ix_abs (f (k + 1))))) = ix_max (fy_ lv g k) (lv (ix_n (ix_abs (g (k + 1)))))
    rw [fy_c k (fun i h1 h2 => h i h1 (by omega)), h (k + 1) (by omega) (Nat.le_refl _)]
theorem fx_y (ht : ∀ j, j < t → -300 ≤ (tr j).toInt ∧ (tr j).toInt ≤ 300) : ∀ m, m ≤ t → fx_ tr mk lv last t m = fy_ lv (fw_ tr mk last t m).1 ((fw_ tr mk last t m).2 - 1)
  | 0, _ => rfl
  | m + 1, hm => by
    have ih := fx_y ht m (by omega)
    have b := fw_b (tr := tr) (mk := mk) (last := last) (t := t) m
    by_cases c : tr (t - 1 - m) ≠ last ∧ (mk (ix_n (ix_abs (tr (t - 1 - m))))).toInt = 1
    · have e : fw_ tr mk last t (m + 1) = (fun k => if k = (fw_ tr mk last t m).2 then -tr (t - 1 - m) else (fw_ tr mk last t m).1 k, (fw_ tr mk last t m).2 + 1) := if_pos c
      have e2 : fx_ tr mk lv last t (m + 1) = ix_max (fx_ tr mk lv last t m) (lv (ix_n (ix_abs (tr (t - 1 - m))))) := if_pos c
      have q := ht (t - 1 - m) (by omega)
      rw [e, e2, ih]
      show _ = fy_ lv (fun k => if k = (fw_ tr mk last t m).2 then -tr (t - 1 - m) else (fw_ tr mk last t m).1 k) ((fw_ tr mk last t m).2 + 1 - 1)
      obtain ⟨F, hF⟩ : ∃ F, (fw_ tr mk last t m).2 = F + 1 := ⟨(fw_ tr mk last t m).2 - 1, by omega⟩
      rw [hF]
      show ix_max (fy_ lv (fw_ tr mk last t m).1 F) _ = ix_max (fy_ lv (fun k => if k = F + 1 then -tr (t - 1 - m) else (fw_ tr mk last t m).1 k) F) (lv (ix_n (ix_abs (if F + 1 = F + 1 then -tr (t - 1 - m) else (fw_ tr mk last t m).1 (F + 1)))))
      rw [if_pos rfl, na_n q.1 q.2, fy_c F (fun i h1 h2 => (if_neg (by omega) : (if i = F + 1 then -tr (t - 1 - m) else (fw_ tr mk last t m).1 i) = _))]
    · have e : fw_ tr mk last t (m + 1) = fw_ tr mk last t m := if_neg c
      have e2 : fx_ tr mk lv last t (m + 1) = fx_ tr mk lv last t m := if_neg c
      rw [e, e2]
      exact ih
theorem mx_ti {x y : Int32} : (ix_max x y).toInt = if x.toInt < y.toInt then y.toInt else x.toInt := by
  unfold ix_max
  by_cases c : x < y
  · rw [if_pos c, if_pos (ti_lt ▸ c)]
  · rw [if_neg c, if_neg (fun q => c (ti_lt ▸ q))]
/-- the highest level: 0, or that of one of them -/
theorem fx_b : ∀ m, m ≤ t → (fx_ tr mk lv last t m = 0 ∨ ∃ j, j < t ∧ tr j ≠ last ∧ (mk (ix_n (ix_abs (tr j)))).toInt = 1 ∧ fx_ tr mk lv last t m = lv (ix_n (ix_abs (tr j)))) ∧ 0 ≤ (fx_ tr mk lv last t m).toInt ∧ ∀ j, t ≤ j + m → j < t → tr j ≠ last → (mk (ix_n (ix_abs (tr j)))).toInt = 1 → (lv (ix_n (ix_abs (tr j)))).toInt ≤ (fx_ tr mk lv last t m).toInt
  | 0, _ => ⟨Or.inl rfl, Int.le_refl 0, fun j h1 h2 => absurd h1 (by omega)⟩
  | m + 1, hm => by
    obtain ⟨h1, h2, h3⟩ := fx_b m (by omega)
    by_cases c : tr (t - 1 - m) ≠ last ∧ (mk (ix_n (ix_abs (tr (t - 1 - m))))).toInt = 1
    · have e2 : fx_ tr mk lv last t (m + 1) = ix_max (fx_ tr mk lv last t m) (lv (ix_n (ix_abs (tr (t - 1 - m))))) := if_pos c
      rw [e2]
      have em := @mx_ti (fx_ tr mk lv last t m) (lv (ix_n (ix_abs (tr (t - 1 - m)))))
      refine ⟨?_, by rw [em]; split <;> omega, fun j j1 j2 j3 j4 => ?_⟩
      · unfold ix_max
        split
        · exact Or.inr ⟨t - 1 - m, by omega, c.1, c.2, rfl⟩
        · exact h1
      · rw [em]
        by_cases ej : j = t - 1 - m
        · rw [ej]; split <;> omega
        · have := h3 j (by omega) j2 j3 j4
          split <;> omega
    · have e2 : fx_ tr mk lv last t (m + 1) = fx_ tr mk lv last t m := if_neg c
      rw [e2]
      refine ⟨h1, h2, fun j j1 j2 j3 j4 => ?_⟩
      by_cases ej : j = t - 1 - m
      · exact absurd ⟨by rw [← ej]; exact j3, by rw [← ej]; exact j4⟩ c
      · exact h3 j (by omega) j2 j3 j4
end FWW
/-- how many of the used rows are learnt -/
def qc_ (ks : Nat → Nat) (F : Nat) : Nat → Nat
  | 0 => 0
  | i + 1 => qc_ ks F i + (if F ≤ ks i then 1 else 0)
theorem qc_b {ks : Nat → Nat} {F : Nat} : ∀ i, qc_ ks F i ≤ i
  | 0 => Nat.le_refl 0
  | i + 1 => by
    have := qc_b (ks := ks) (F := F) i
    show qc_ ks F i + (if F ≤ ks i then 1 else 0) ≤ i + 1
    split <;> omega
theorem qc_c {ks ks' : Nat → Nat} {F : Nat} : ∀ i, (∀ j, j < i → ks j = ks' j) → qc_ ks F i = qc_ ks' F i
  | 0, _ => rfl
  | i + 1, h => by
    show qc_ ks F i + (if F ≤ ks i then 1 else 0) = qc_ ks' F i + (if F ≤ ks' i then 1 else 0)
    rw [qc_c i (fun j hj => h j (by omega)), h i (by omega)]
theorem qc_m {ks : Nat → Nat} {F : Nat} : ∀ {j i : Nat}, i < j → F ≤ ks i → qc_ ks F i < qc_ ks F j
  | 0, i, h, _ => absurd h (by omega)
  | j + 1, i, h, hk => by
    show qc_ ks F i < qc_ ks F j + (if F ≤ ks j then 1 else 0)
    by_cases e : i = j
    · subst e; rw [if_pos hk]; omega
    · have := qc_m (ks := ks) (F := F) (j := j) (i := i) (by omega) hk
      split <;> omega

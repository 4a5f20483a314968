/-! CELLS AND INTS AS LISTS: for the two constructors -/
def Zl (S : List (List (Option Nat)) × List (Nat × Nat)) : ix_Z := (fun a k => (S.1.getD a []).getD k none, fun a => S.2.getD a (0, 0), S.2.length)
def znS (S : List (List (Option Nat)) × List (Nat × Nat)) (t len : Nat) : List (List (Option Nat)) × List (Nat × Nat) := (S.1 ++ [[]], S.2 ++ [(t, len)])
def setO : List (Option Nat) → Nat → Option Nat → List (Option Nat)
  | [], 0, v => [v]
  | [], k + 1, v => none :: setO [] k v
  | _ :: l, 0, v => v :: l
  | x :: l, k + 1, v => x :: setO l k v
def zrS (S : List (List (Option Nat)) × List (Nat × Nat)) (a k : Nat) (v : Option Nat) : List (List (Option Nat)) × List (Nat × Nat) := (S.1.set a (setO (S.1.getD a []) k v), S.2)
def zmS (S : List (List (Option Nat)) × List (Nat × Nat)) : List (List (Option Nat)) × List (Nat × Nat) := (S.1 ++ ((List.range 40).map (fun k => some (S.2.length + 1 + k)) :: List.replicate 40 []), S.2 ++ ((25, 40) :: List.replicate 40 (20, 12)))
def wfS (S : List (List (Option Nat)) × List (Nat × Nat)) : Bool := S.1.length == S.2.length
def okS (S : List (List (Option Nat)) × List (Nat × Nat)) (cs : List Nat) (a : Nat) : Bool := decide (a < S.2.length) && cs.contains (S.2.getD a (0, 0)).1
def lk_ : List (Nat × Nat × Nat × Int32) → Nat → Nat → Int32
  | [], _, _ => 0
  | e :: L, a, k => if a = e.1 ∧ e.2.1 ≤ k ∧ k < e.2.2.1 then e.2.2.2 else lk_ L a k
def Dl (L : List (Nat × Nat × Nat × Int32)) : ix_D2 := (lk_ L, fun _ _ => 0)
def ncD (L : List (Nat × Nat × Nat × Int32)) (c : Nat) : Bool := L.all (fun e => e.1 != c)
section LST
variable {n : Nat} {S : List (List (Option Nat)) × List (Nat × Nat)} {L : List (Nat × Nat × Nat × Int32)} {α : Type} {Q : α → Prop} {a k t len c : Nat} {v : Int32}
theorem setO_g : ∀ (l : List (Option Nat)) (k j : Nat) (v : Option Nat), (setO l k v).getD j none = if j = k then v else l.getD j none
  | [], 0, 0, v => by simp [setO]
  | [], 0, j + 1, v => by simp [setO]
  | [], k + 1, 0, v => by simp [setO]
  | [], k + 1, j + 1, v => by
    have := setO_g [] k j v
    simp [setO] at this ⊢
    exact this
  | x :: l, 0, 0, v => by simp [setO]
  | x :: l, 0, j + 1, v => by simp [setO]
  | x :: l, k + 1, 0, v => by simp [setO]
  | x :: l, k + 1, j + 1, v => by
    have := setO_g l k j v
    simp [setO] at this ⊢
    exact this
theorem gd_ap {β : Type} {l : List β} {x d : β} {a : Nat} : (l ++ [x]).getD a d = if a = l.length then x else l.getD a d := by
  by_cases h : a < l.length
  · rw [if_neg (by omega)]; simp [List.getD_eq_getElem?_getD, List.getElem?_append_left h]
  · by_cases h2 : a = l.length
    · rw [if_pos h2, h2]; simp [List.getD_eq_getElem?_getD]
    · rw [if_neg h2]
      rw [List.getD_eq_getElem?_getD, List.getD_eq_getElem?_getD, List.getElem?_eq_none (by simp; omega), List.getElem?_eq_none (by omega)]
theorem zn_l (h : wfS S = true) : ix_zn (Zl S) t len = Zl (znS S t len) := by
  have h : S.1.length = S.2.length := by simpa [wfS] using h
  unfold ix_zn Zl znS
  refine Prod.ext (funext fun a => funext fun k => ?_) (Prod.ext (funext fun a => ?_) ?_)
  · show (if a = S.2.length then none else (S.1.getD a []).getD k none) = ((S.1 ++ [[]]).getD a []).getD k none
    rw [gd_ap, h]
    by_cases c : a = S.2.length
    · rw [if_pos c, if_pos c]; simp
    · rw [if_neg c, if_neg c]
  · show (if a = S.2.length then (t, len) else S.2.getD a (0, 0)) = (S.2 ++ [(t, len)]).getD a (0, 0)
    rw [gd_ap]
  · show S.2.length + 1 = (S.2 ++ [(t, len)]).length
    simp
theorem zr_l {v : Option Nat} (h : decide (a < S.1.length) = true) : ix_zr (Zl S) a k v = Zl (zrS S a k v) := by
  have h : a < S.1.length := of_decide_eq_true h
  unfold ix_zr Zl zrS ix_up
  refine Prod.ext (funext fun a' => funext fun k' => ?_) rfl
  show (if a' = a ∧ k' = k then v else (S.1.getD a' []).getD k' none) = ((S.1.set a (setO (S.1.getD a []) k v)).getD a' []).getD k' none
  by_cases c : a' = a
  · subst c
    have e : (S.1.set a' (setO (S.1.getD a' []) k v)).getD a' [] = setO (S.1.getD a' []) k v := by
      rw [List.getD_eq_getElem?_getD, List.getElem?_set_self h]; rfl
    rw [e, setO_g]
    by_cases c2 : k' = k
    · rw [if_pos ⟨rfl, c2⟩, if_pos c2]
    · rw [if_neg (fun q => c2 q.2), if_neg c2]
  · have e : (S.1.set a (setO (S.1.getD a []) k v)).getD a' [] = S.1.getD a' [] := by
      rw [List.getD_eq_getElem?_getD, List.getElem?_set_ne (fun q => c q.symm), List.getD_eq_getElem?_getD]
    rw [e, if_neg (fun q => c q.1)]
theorem dn_l (h : ncD L c = true) : ix_dn (Dl L) c = Dl L := by
  have e : ∀ {L : List (Nat × Nat × Nat × Int32)}, ncD L c = true → ∀ k, lk_ L c k = 0 := by
    intro L
    induction L with
    | nil => intro _ k; rfl
    | cons e L ih =>
      intro h k
      unfold ncD at h
      rw [List.all_cons, Bool.and_eq_true] at h
      have h1 : e.1 ≠ c := by simpa using h.1
      rw [lk_, if_neg (fun q => h1 q.1.symm)]
      exact ih h.2 k
  unfold ix_dn Dl
  refine Prod.ext (funext fun a => funext fun k => ?_) (funext fun a => funext fun k => ?_)
  · show (if a = c then 0 else lk_ L a k) = lk_ L a k
    by_cases q : a = c
    · rw [if_pos q, q, e h]
    · rw [if_neg q]
  · show (if a = c then (0 : Int64) else 0) = 0
    split <;> rfl
theorem di_l : ix_di (Dl L) a k v = Dl ((a, k, k + 1, v) :: L) := by
  unfold ix_di Dl ix_up
  refine Prod.ext (funext fun a' => funext fun k' => ?_) rfl
  show (if a' = a ∧ k' = k then v else lk_ L a' k') = (if a' = a ∧ k ≤ k' ∧ k' < k + 1 then v else lk_ L a' k')
  by_cases c : a' = a ∧ k' = k
  · rw [if_pos c, if_pos (by omega)]
  · rw [if_neg c, if_neg (by omega)]
theorem w_zn {K : ix_Z → Option α} (h : wfS S = true) (hk : wp_t (K (Zl (znS S t len))) Q) : wp_t (ix_lt (ix_zn (Zl S) t len) K) Q := by rw [zn_l h]; exact hk
theorem w_zr {K : ix_Z → Option α} {v : Option Nat} (h : decide (a < S.1.length) = true) (hk : wp_t (K (Zl (zrS S a k v))) Q) : wp_t (ix_lt (ix_zr (Zl S) a k v) K) Q := by rw [zr_l h]; exact hk
theorem w_dn {K : ix_D2 → Option α} (h : ncD L c = true) (hk : wp_t (K (Dl L)) Q) : wp_t (ix_lt (ix_dn (Dl L) c) K) Q := by rw [dn_l h]; exact hk
theorem w_di {K : ix_D2 → Option α} (hk : wp_t (K (Dl ((a, k, k + 1, v) :: L))) Q) : wp_t (ix_lt (ix_di (Dl L) a k v) K) Q := by rw [di_l]; exact hk
theorem ok_l {cs : List Nat} (h : okS S cs a = true) : ix_ok (Zl S) cs a := by
  unfold okS at h
  rw [Bool.and_eq_true] at h
  exact ⟨of_decide_eq_true h.1, List.contains_iff_mem.mp h.2⟩
theorem w_ok {cs : List Nat} {o : Option α} (h : okS S cs a = true) (hk : wp_t o Q) : wp_t (ix_ck (ix_ok (Zl S) cs a) o) Q := wi_ck (ok_l h) hk
theorem w_b2 {β γ : Type} {o : Option (β × γ)} {K : β → γ → Option α} (h : wp_t o (fun t => wp_t (K t.1 t.2) Q)) : wp_t (ix_bd2 o K) Q := by rw [wp_bd2]; exact h
theorem w_r1 {K : Nat → Option α} {b : Nat} (h : (S.1.getD a []).getD k none = some b) (hk : wp_t (K b) Q) : wp_t (ix_bd1 ((Zl S).1 a k) K) Q := by
  rw [wp_bd1, show (Zl S).1 a k = some b from h]
  exact ⟨b, rfl, hk⟩
theorem ix_l {i : Int32} (h1 : decide (a < S.2.length) = true) (h2 : S.2.getD a (0, 0) = (t, len)) (h3 : decide (len < 20000) = true) (h4 : 0 ≤ i.toInt) (h5 : i.toInt < len) : ix_ix (Zl S) t a i := by
  have h3 := of_decide_eq_true h3
  refine ⟨of_decide_eq_true h1, ?_, ?_⟩
  · show (S.2.getD a (0, 0)).1 = t
    rw [h2]
  · show vp_in i (S.2.getD a (0, 0)).2
    rw [h2]
    exact (ni_vp (by show len < _; omega)).mpr ⟨by rw [ti_le]; simp only [Int32.reduceToInt]; exact h4, by rw [ti_lt, ni_ofNat (by show len < _; omega)]; exact h5⟩
/-- a fill -/
theorem w_fl {K : ix_D2 → Option α} (hn : 1000 ≤ n) (h1 : decide (a < S.2.length) = true) (h2 : S.2.getD a (0, 0) = (20, len)) (h3 : decide (len < 900) = true) (hk : wp_t (K (Dl ((a, 0, len, v) :: L))) Q) : wp_t (ix_bd1 (f_J7_fill_53178 n (Zl S) a v (Dl L)) K) Q := by
  have h3' := of_decide_eq_true h3
  have ka : a < (Zl S).2.2 ∧ 20 ≤ ((Zl S).2.1 a).1 ∧ ((Zl S).2.1 a).1 < 26 := by
    refine ⟨of_decide_eq_true h1, ?_, ?_⟩
    · show 20 ≤ (S.2.getD a (0, 0)).1
      rw [h2]; exact Nat.le_refl _
    · show (S.2.getD a (0, 0)).1 < 26
      rw [h2]; show 20 < 26; omega
  have kl : ((Zl S).2.1 a).2 = len := by show (S.2.getD a (0, 0)).2 = len; rw [h2]
  have tl : (nI len).toInt = len := nI_ti (by omega)
  have E : f_J7_fill_53178 n (Zl S) a v (Dl L) = some (Dl ((a, 0, len, v) :: L)) := by
    rw [← wp_eq]
    unfold f_J7_fill_53178
    refine wi_ck ka (wi_lt ?_)
    rw [kl]
    unfold f_J7_fill_53178_5
    refine wp_fx2 (J := fun x2 d' => ∃ i : Nat, i ≤ len ∧ x2 = nI i ∧ d' = Dl ((a, 0, i, v) :: L)) (μ := fun x2 _ => 900 - ix_n x2) ?_ n 0 (Dl L) ⟨0, by omega, rfl, ?_⟩ (by omega)
    · rintro rec x2 d' ⟨i, hi, rfl, rfl⟩ ih
      have ei : (nI i).toInt = i := nI_ti (by omega)
      have n0 : ix_n (nI i) = i := nI_n (by omega)
      have n1 : ix_n (nI (i + 1)) = i + 1 := nI_n (by omega)
      unfold b_J7_fill_53178_5
      by_cases c : len ≤ i
      · refine wi_ifp (by rw [ti_le]; omega) (wi_some ?_)
        rw [show i = len by omega]
      · refine wi_ifn (by rw [ti_le]; omega) (wi_ck (ix_l h1 h2 (decide_eq_true (by omega)) (by omega) (by omega)) (wi_lt (wi_lt ?_)))
        rw [n0, nI_1]
        refine ih _ _ ⟨i + 1, by omega, rfl, ?_⟩ (by rw [n1, n0]; omega)
        rw [di_l]
        unfold Dl
        refine Prod.ext (funext fun a' => funext fun k' => ?_) rfl
        show (if a' = a ∧ i ≤ k' ∧ k' < i + 1 then v else (if a' = a ∧ 0 ≤ k' ∧ k' < i then v else lk_ L a' k')) = (if a' = a ∧ 0 ≤ k' ∧ k' < i + 1 then v else lk_ L a' k')
        by_cases c1 : a' = a ∧ k' < i + 1
        · rw [if_pos (show a' = a ∧ 0 ≤ k' ∧ k' < i + 1 by omega)]
          by_cases c2 : k' = i
          · rw [if_pos (by omega)]
          · rw [if_neg (by omega), if_pos (by omega)]
        · rw [if_neg (show ¬ (a' = a ∧ 0 ≤ k' ∧ k' < i + 1) by omega), if_neg (by omega), if_neg (by omega)]
    · unfold Dl
      refine Prod.ext (funext fun a' => funext fun k' => ?_) rfl
      show lk_ L a' k' = (if a' = a ∧ 0 ≤ k' ∧ k' < 0 then v else lk_ L a' k')
      rw [if_neg (by omega)]
  rw [wp_bd1, E]
  exact ⟨_, rfl, hk⟩
end LST

/-! THE CONSTRUCTORS: cells and ints behind them -/
def lyRl : List (List (Option Nat)) := [[some 1, some 42, some 43, some 51, some 59, none, some 60, some 90, some 120, some 123, none, some 124], [some 2, some 3, some 4, some 5, some 6, some 7, some 8, some 9, some 10, some 11, some 12, some 13, some 14, some 15, some 16, some 17, some 18, some 19, some 20, some 21, some 22, some 23, some 24, some 25, some 26, some 27, some 28, some 29, some 30, some 31, some 32, some 33, some 34, some 35, some 36, some 37, some 38, some 39, some 40, some 41], [], [], [], [], [], [], [], [], [], [], [], [], [], [], [], [], [], [], [], [], [], [], [], [], [], [], [], [], [], [], [], [], [], [], [], [], [], [], [], [], [], [some 44, none, some 45, none, some 46, none, some 47, none, some 48, some 49, some 50], [], [], [], [], [], [], [], [some 52, some 55, some 56, some 57, some 58], [some 53, some 54], [], [], [], [], [], [], [], [some 61, some 76, some 79, none, some 80, none, some 81, some 82, some 83, some 84, some 85, some 86, some 87, some 88, none, some 89], [some 62, some 65, some 66, some 67, some 68, some 69, some 70, some 71, some 72, some 73, some 74, some 75], [some 63, some 64], [], [], [], [], [], [], [], [], [], [], [], [], [], [some 77, some 78], [], [], [], [], [], [], [], [], [], [], [], [], [], [some 91, some 106, some 109, none, some 110, none, some 111, some 112, some 113, some 114, some 115, some 116, some 117, some 118, none, some 119], [some 92, some 95, some 96, some 97, some 98, some 99, some 100, some 101, some 102, some 103, some 104, some 105], [some 93, some 94], [], [], [], [], [], [], [], [], [], [], [], [], [], [some 107, some 108], [], [], [], [], [], [], [], [], [], [], [], [], [], [some 121, some 122], [], [], [], [], [none, none, some 126, some 127, none, some 128, some 129, some 130, none, some 131, none, none, some 132, some 133, some 134, some 135, some 136, some 137, some 138, some 139, some 140, some 141, some 142, none, some 143, some 144, some 145, none, some 146, none, none, none, none, some 147, some 148, some 149, none, none, none, some 150, none, some 151, none, some 152, some 153, some 154, none, some 155, some 156, none, none, none, none, some 157, none, some 158, some 159, none, none, none, some 160, some 161, some 162, some 163, some 164, some 165, none, none, some 166, some 167, some 168, some 169, some 170, some 171, some 172, some 173, some 174, some 175, some 176, some 177, some 178, some 179, some 180, some 181, some 182, some 183, some 184, some 185, some 186, none, some 187, none, some 188, some 189, none, some 190, none, none, none, none, none, some 191, some 192, some 193, none, some 194, none, some 195, none, some 196, some 197, none, some 198], [], [], [], [], [], [], [], [], [], [], [], [], [], [], [], [], [], [], [], [], [], [], [], [], [], [], [], [], [], [], [], [], [], [], [], [], [], [], [], [], [], [], [], [], [], [], [], [], [], [], [], [], [], [], [], [], [], [], [], [], [], [], [], [], [], [], [], [], [], [], [], [], []]
def lyKl : List (Nat × Nat) := [(10, 18), (25, 40), (20, 12), (20, 12), (20, 12), (20, 12), (20, 12), (20, 12), (20, 12), (20, 12), (20, 12), (20, 12), (20, 12), (20, 12), (20, 12), (20, 12), (20, 12), (20, 12), (20, 12), (20, 12), (20, 12), (20, 12), (20, 12), (20, 12), (20, 12), (20, 12), (20, 12), (20, 12), (20, 12), (20, 12), (20, 12), (20, 12), (20, 12), (20, 12), (20, 12), (20, 12), (20, 12), (20, 12), (20, 12), (20, 12), (20, 12), (20, 12), (20, 40), (4, 17), (21, 60), (21, 13500), (20, 100), (20, 60), (20, 8), (20, 8), (20, 8), (2, 12), (7, 3), (20, 2500), (20, 501), (20, 301), (22, 301), (20, 20), (20, 12), (24, 60), (8, 20), (1, 17), (7, 3), (20, 11780), (20, 1365), (20, 601), (20, 11780), (20, 11780), (20, 1364), (23, 22), (23, 22), (20, 301), (20, 301), (20, 301), (20, 301), (20, 301), (7, 3), (20, 1280), (20, 65), (23, 301), (20, 20), (20, 800), (23, 6400), (23, 2408), (23, 8), (20, 10), (20, 5), (20, 301), (20, 301), (20, 800), (8, 20), (1, 17), (7, 3), (20, 11780), (20, 1365), (20, 601), (20, 11780), (20, 11780), (20, 1364), (23, 22), (23, 22), (20, 301), (20, 301), (20, 301), (20, 301), (20, 301), (7, 3), (20, 1280), (20, 65), (23, 301), (20, 20), (20, 800), (23, 6400), (23, 2408), (23, 8), (20, 10), (20, 5), (20, 301), (20, 301), (20, 800), (7, 3), (20, 8000), (20, 801), (20, 500), (20, 20), (11, 116), (20, 301), (22, 301), (20, 40), (20, 480), (20, 60), (20, 16384), (20, 60), (20, 60), (22, 60), (20, 60), (20, 1800), (20, 60), (20, 60), (20, 3600), (20, 60), (20, 3600), (20, 60), (20, 501), (20, 2600), (20, 100), (20, 20), (20, 130), (20, 2600), (20, 12), (20, 40), (20, 40), (20, 14), (20, 14), (20, 60), (20, 60), (20, 60), (20, 60), (22, 60), (20, 26), (20, 301), (20, 2), (20, 2), (22, 1000), (20, 40), (20, 2), (20, 2), (20, 602), (20, 602), (20, 602), (20, 602), (23, 602), (23, 2), (20, 600), (20, 2), (20, 2), (20, 1602), (20, 16100), (20, 2), (20, 2), (22, 1600), (20, 1600), (23, 12800), (23, 4816), (23, 8), (20, 2), (20, 2), (20, 20), (20, 5), (20, 500), (20, 20), (20, 320), (22, 301), (22, 301), (20, 320), (22, 800), (20, 801), (20, 8100), (20, 301)]
def zC_ : List (List (Option Nat)) × List (Nat × Nat) := (lyRl.take 125, lyKl.take 125)
def zR_ : List (List (Option Nat)) × List (Nat × Nat) := (lyRl, lyKl)
def dC_l : List (Nat × Nat × Nat × Int32) := [(42, 0, 40, -1), (0, 16, 17, -1005), (116, 0, 5, -1005), (115, 0, 1, -1005), (86, 0, 5, -1005), (85, 0, 1, -1005)]
def dW_l : List (Nat × Nat × Nat × Int32) := [(159, 25, 26, 0), (159, 24, 25, 110), (159, 23, 24, 101), (159, 22, 23, 118), (159, 21, 22, 101), (159, 20, 21, 0), (159, 19, 20, 100), (159, 18, 19, 100), (159, 17, 18, 111), (159, 16, 17, 0), (159, 15, 16, 32), (159, 14, 15, 116), (159, 13, 14, 115), (159, 12, 13, 117), (159, 11, 12, 106), (159, 10, 11, 0), (159, 9, 10, 32), (159, 8, 9, 116), (159, 7, 8, 115), (159, 6, 7, 111), (159, 5, 6, 109), (159, 4, 5, 0), (159, 3, 4, 101), (159, 2, 3, 109), (159, 1, 2, 111), (159, 0, 1, 115)]
def dR_l : List (Nat × Nat × Nat × Int32) := (125, 111, 112, -1005) :: (166, 1, 2, -1005) :: (166, 0, 1, -1005) :: (128, 0, 40, -1005) :: (dW_l ++ dC_l)
section CON
variable {n : Nat} {S : List (List (Option Nat)) × List (Nat × Nat)} {L : List (Nat × Nat × Nat × Int32)} {α : Type} {Q : α → Prop}
theorem ly_Kl (a : Nat) : ly_K a = lyKl.getD a (0, 0) := rfl
theorem ly_Rl (a k : Nat) : ly_R a k = (lyRl.getD a []).getD k none := rfl
theorem eq_wp {o : Option α} {x : α} (h : wp_t o (fun r => r = x)) : o = some x := by rw [← wp_eq]; exact h
theorem w_b3 {β γ : Type} {o : Option (β × γ)} {K : β → γ → Option α} (h : ∃ z d, o = some (z, d) ∧ wp_t (K z d) Q) : wp_t (ix_bd2 o K) Q := by
  obtain ⟨z, d, e, q⟩ := h
  rw [wp_bd2, e]
  exact ⟨_, rfl, q⟩
theorem w_b4 {β γ : Type} {o : Option (β × γ)} {K : β → γ → Option α} {z : β} {d : γ} (e : o = some (z, d)) (q : wp_t (K z d) Q) : wp_t (ix_bd2 o K) Q := w_b3 ⟨z, d, e, q⟩
theorem st_zl : ix_zn st_z 10 18 = Zl ([[]], [(10, 18)]) := by
  have e : st_z = Zl ([], []) := by
    unfold st_z Zl
    refine Prod.ext (funext fun a => funext fun k => ?_) (Prod.ext (funext fun a => ?_) rfl)
    · simp
    · simp
  rw [e, zn_l (by decide)]
  rfl
theorem st_dl : ix_dn st_d 0 = Dl [] := by
  have e : st_d = Dl [] := rfl
  rw [e, dn_l (by decide)]
theorem w_zm {K : ix_Z → Option α} (hk : wp_t (K (Zl (zmS ([[]], [(10, 18)])))) Q) : wp_t (ix_lt (ix_zm (Zl ([[]], [(10, 18)]))) K) Q := by
  have e : ix_zm (Zl ([[]], [(10, 18)])) = Zl (zmS ([[]], [(10, 18)])) := by
    unfold ix_zm
    refine Prod.ext (funext fun a => funext fun k => ?_) (Prod.ext (funext fun a => ?_) rfl)
    · show (if a = 1 then (if k < 40 then some (1 + 1 + k) else none) else if 1 < a ∧ a ≤ 1 + 40 then none else (([[]] : List (List (Option Nat))).getD a []).getD k none) = (([[]] ++ ((List.range 40).map (fun k => some (1 + 1 + k)) :: List.replicate 40 []) : List (List (Option Nat))).getD a []).getD k none
      match a with
      | 0 => rfl
      | 1 =>
        rw [if_pos rfl]
        show _ = ((List.range 40).map (fun k => some (1 + 1 + k))).getD k none
        rw [List.getD_eq_getElem?_getD, List.getElem?_map]
        by_cases h : k < 40
        · rw [if_pos h, List.getElem?_range h]; rfl
        · rw [if_neg h, List.getElem?_eq_none (by simp; omega)]; rfl
      | a + 2 =>
        have e2 : (([[]] ++ ((List.range 40).map (fun k => some (1 + 1 + k)) :: List.replicate 40 []) : List (List (Option Nat))).getD (a + 2) []) = [] := by
          show (List.replicate 40 ([] : List (Option Nat))).getD a [] = []
          rw [List.getD_eq_getElem?_getD]
          by_cases h : a < 40
          · rw [List.getElem?_replicate_of_lt h]; rfl
          · rw [List.getElem?_eq_none (by simp; omega)]; rfl
        rw [e2]
        have e3 : (([[]] : List (List (Option Nat))).getD (a + 2) []) = [] := rfl
        rw [e3, if_neg (by omega)]
        split <;> rfl
    · show (if a = 1 then (25, 40) else if 1 < a ∧ a ≤ 1 + 40 then (20, 12) else ([(10, 18)] : List (Nat × Nat)).getD a (0, 0)) = (([(10, 18)] ++ ((25, 40) :: List.replicate 40 (20, 12))) : List (Nat × Nat)).getD a (0, 0)
      match a with
      | 0 => rfl
      | 1 => rfl
      | a + 2 =>
        show _ = (List.replicate 40 ((20, 12) : Nat × Nat)).getD a (0, 0)
        have e5 : ([(10, 18)] : List (Nat × Nat)).getD (a + 2) (0, 0) = (0, 0) := rfl
        rw [e5, if_neg (by omega)]
        by_cases h : a < 40
        · have e4 : (List.replicate 40 ((20, 12) : Nat × Nat)).getD a (0, 0) = (20, 12) := by rw [List.getD_eq_getElem?_getD, List.getElem?_replicate_of_lt h]; rfl
          rw [e4, if_pos (by omega)]
        · have e4 : (List.replicate 40 ((20, 12) : Nat × Nat)).getD a (0, 0) = (0, 0) := by rw [List.getD_eq_getElem?_getD, List.getElem?_eq_none (by simp; omega)]; rfl
          rw [e4, if_neg (by omega)]
  rw [e]; exact hk
theorem w_dm {K : ix_D2 → Option α} {N : Nat} (hk : wp_t (K (Dl [])) Q) : wp_t (ix_lt (ix_dm (Dl []) N) K) Q := by
  have e : ix_dm (Dl []) N = Dl [] := by
    unfold ix_dm Dl
    refine Prod.ext (funext fun a => funext fun k => ?_) (funext fun a => funext fun k => ?_)
    · show (if N ≤ a ∧ a ≤ N + 40 then 0 else lk_ [] a k) = lk_ [] a k
      split <;> rfl
    · show (if N ≤ a ∧ a ≤ N + 40 then (0 : Int64) else 0) = 0
      split <;> rfl
  rw [e]; exact hk
end CON

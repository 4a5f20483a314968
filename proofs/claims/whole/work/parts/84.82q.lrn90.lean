/-! learn: behind forgetting (90, 1) -/
section LRQ
variable {n : Nat} {z : ix_Z} {c r : ix_D2} {rn : Nat → Nat} {v x y w : Int32}
def l9_90 (c r : ix_D2) (rn : Nat → Nat) (T : Nat) (c' r' : ix_D2) : Prop :=
  bi_90 c' ∧ rr_90 c' r' rn ∧
  (∀ a i, a ≠ 98 → a ≠ 111 → a ≠ 119 → (a ≠ 90 ∨ i ≠ 16) → (a ≠ 115 ∨ (i ≠ 6 ∧ i ≠ 7)) → c'.1 a i = c.1 a i) ∧
  (∀ a w, a ≠ 99 → a ≠ 100 → c'.2 a w = c.2 a w) ∧
  (∀ a i, ((a ≠ 180 ∧ a ≠ 181) ∨ i < 800 * 1 ∨ 800 * 1 + 800 ≤ i) → a ≠ 195 → (a ≠ 187 ∨ i ≠ 10 * 1 + 6) → r'.1 a i = r.1 a i) ∧ r'.2 = r.2 ∧
  (∀ k, k < T → c'.1 111 k = r'.1 181 (800 * 1 + k)) ∧ c'.1 115 6 = r'.1 187 (10 * 1 + 6) ∧
  (c'.1 115 7).toInt = sm_ (fun k => if (c'.1 98 k).toInt < 1000000 then 1 else 0) (ix_n (c.1 91 16)) (ix_n (c.1 92 2)) ∧
  ∀ k : Nat, (c'.1 98 k).toInt < 1000000 → (c.1 98 k).toInt < 1000000 ∧ c'.1 98 k = c.1 98 k
theorem e_f990 (hz : ly_z z) (hn : 20000 ≤ n) (hb : bi_90 c) (hrr : rr_90 c r rn) (htk : tk_90 c) (hrt : rt_90 c r rn) (hla : la_90 c) {F T : Nat} (hF : (F : Int) = (c.1 91 16).toInt) (hFT : (F : Int) + T = (c.1 92 2).toInt) (hT : (c.1 115 8).toInt = T) (hT2 : T ≤ 800) (h7 : (c.1 115 7).toInt = sm_ (fun k => if (c.1 98 k).toInt < 1000000 then 1 else 0) (ix_n (c.1 91 16)) (ix_n (c.1 92 2))) (h18 : c.1 90 18 = r.1 125 31) (hu : ∀ k : Nat, k < T → c.1 111 k = r.1 181 (800 * 1 + k)) (h6 : c.1 115 6 = r.1 187 (10 * 1 + 6)) : wp_t (f_X9_forgetSome n z 90 c) (fun c' => wp_t (f_X12_forgetSome n z 125 1 r) (fun r' => l9_90 c r rn T c' r')) := by
  have nF : ix_n (c.1 91 16) = F := ni_k hF.symm
  have nFT : ix_n (c.1 92 2) = F + T := ni_k (by omega)
  refine wp_m (e_fb90 (n := n) (c := c) (r := r) (rn := rn) hz hn hb hrr htk hrt hla hF hFT hT hT2 h7 h18 hu) (fun c' h => ?_)
  refine wp_m h (fun r' h => ?_)
  rcases h with ⟨rfl, rfl⟩ | ⟨Q, M, ⟨s1, s2, s3, s4, s5, s6, s7, s8, s9⟩, ⟨t1, t2, t3, t4, t5, t6⟩⟩
  · exact ⟨hb, hrr, fun _ _ _ _ _ _ _ => rfl, fun _ _ _ _ => rfl, fun _ _ _ _ _ => rfl, rfl, hu, h6, h7, fun k hk => ⟨hk, rfl⟩⟩
  · have hMT := so_b s1
    have hQT : ∀ i, i < M → Q i < T := fun i hi => (s1.1 i hi).1
    have hQd : ∀ i j, i < j → j < M → Q i ≠ Q j := fun i j h1 h2 e => by have := s1.2.1 i j h1 h2; rw [e] at this; omega
    have keep : ∀ k : Nat, (c'.1 98 k).toInt < 1000000 → (∀ i, i < M / 2 → k ≠ F + Q i) := fun k hk i hi e => by
      have := s5 i hi
      rw [← e] at this
      omega
    have f2 : c'.1 92 = c.1 92 := funext fun i => s3 _ _ (by omega) (by omega) (by omega) (by omega) (by omega)
    have f3 : c'.1 93 = c.1 93 := funext fun i => s3 _ _ (by omega) (by omega) (by omega) (by omega) (by omega)
    have f4 : c'.1 94 = c.1 94 := funext fun i => s3 _ _ (by omega) (by omega) (by omega) (by omega) (by omega)
    have f11 : c'.1 101 = c.1 101 := funext fun i => s3 _ _ (by omega) (by omega) (by omega) (by omega) (by omega)
    have f15 : c'.1 91 15 = c.1 91 15 := s3 _ _ (by omega) (by omega) (by omega) (by omega) (by omega)
    have f16 : c'.1 91 16 = c.1 91 16 := s3 _ _ (by omega) (by omega) (by omega) (by omega) (by omega)
    have ra : ∀ a, a ≠ 180 → a ≠ 181 → a ≠ 195 → a ≠ 187 → r'.1 a = r.1 a := fun a p1 p2 p3 p4 => funext fun k => t1 a k (Or.inl ⟨p1, p2⟩) p3 (Or.inl p4)
    refine ⟨s2, ⟨?_, ?_, ?_⟩, s3, s4, t1, t2, fun k hk => ?_, ?_, ?_, fun k hk => ?_⟩
    · have := hrr.1
      unfold ra_90 vr_ rz_ ri_ at this ⊢
      rw [f2, f3, f4, ra 143 (by omega) (by omega) (by omega) (by omega), ra 144 (by omega) (by omega) (by omega) (by omega), ra 147 (by omega) (by omega) (by omega) (by omega), ra 148 (by omega) (by omega) (by omega) (by omega), ra 176 (by omega) (by omega) (by omega) (by omega), ra 177 (by omega) (by omega) (by omega) (by omega), ra 125 (by omega) (by omega) (by omega) (by omega)]
      exact this
    · obtain ⟨h1, h2, h3, h4, h5, h6', h7', h8, h9, h10, h11, h12, h13, h14, h15⟩ := hrr.2.1
      unfold rb_90
      rw [f2, f15, f16, ra 162 (by omega) (by omega) (by omega) (by omega), ra 163 (by omega) (by omega) (by omega) (by omega), ra 179 (by omega) (by omega) (by omega) (by omega), ra 125 (by omega) (by omega) (by omega) (by omega)]
      refine ⟨h1, h2, h3, h4, h5, h6', h7', h8, h9, h10, h11, h12, h13, fun k p1 p2 => ⟨(h14 k p1 p2).1, ?_⟩, fun k p1 => ?_⟩
      · obtain ⟨a1, a2⟩ := h14 k p1 p2
        have ek : rn k - 2000 = k - F := by omega
        rw [ek] at a2 ⊢
        by_cases hx : ∃ i, i < M / 2 ∧ Q i = k - F
        · obtain ⟨i, i1, i2⟩ := hx
          have b1 := t3 i i1
          have b2 := s5 i i1
          rw [i2] at b1 b2
          rw [show F + (k - F) = k by omega] at b2
          rw [b1]
          exact ⟨fun _ => b2, fun _ => rfl⟩
        · rw [t4 (k - F) (fun i hi e => hx ⟨i, hi, e.symm⟩), s6 k (fun i hi e => hx ⟨i, hi, by omega⟩)]
          exact a2
      · rw [s6 k (fun i hi e => by omega)]
        exact h15 k p1
    · have := hrr.2.2
      unfold rv_90 at this ⊢
      rw [f11, ra 167 (by omega) (by omega) (by omega) (by omega)]
      exact this
    · rw [s9 k hk, t6 k hk, hu k hk]
    · rw [s7, t5, h6]
    · have part : ∀ g, g ≤ M / 2 → sm_ (fun k => ix_if ((c.1 98 k).toInt < 1000000 ∧ ∀ i, i < g → k ≠ F + Q i) (1 : Int) 0) F (F + T) = (c.1 115 7).toInt - g := by
        intro g
        induction g with
        | zero =>
          intro _
          rw [h7, nF, nFT]
          show _ = _ - (0 : Int)
          rw [Int.sub_zero]
          refine sm_c (fun p p1 p2 => ?_)
          by_cases e : (c.1 98 p).toInt < 1000000
          · rw [ix_if_pos ⟨e, fun i hi => absurd hi (by omega)⟩, if_pos e]
          · rw [ix_if_neg (fun q => e q.1), if_neg e]
        | succ g ihg =>
          intro hg
          have ihg := ihg (by omega)
          have hq := hQT g (by omega)
          have cdq := (s1.1 g (by omega)).2.1
          have hu2 := sm_u (f := fun k => ix_if ((c.1 98 k).toInt < 1000000 ∧ ∀ i, i < g → k ≠ F + Q i) (1 : Int) 0) (g := fun k => ix_if ((c.1 98 k).toInt < 1000000 ∧ ∀ i, i < g + 1 → k ≠ F + Q i) (1 : Int) 0) (a := F) (p := F + Q g) (by omega) (fun k hk => by
            by_cases e : (c.1 98 k).toInt < 1000000 ∧ ∀ i, i < g → k ≠ F + Q i
            · rw [ix_if_pos e, ix_if_pos ⟨e.1, fun i hi => by
                by_cases ei : i = g
                · rw [ei]; exact hk
                · exact e.2 i (by omega)⟩]
            · rw [ix_if_neg e, ix_if_neg (fun q => e ⟨q.1, fun i hi => q.2 i (by omega)⟩)]) (b := F + T) (by omega)
          rw [hu2, ihg, ix_if_neg (fun q => q.2 g (by omega) rfl), ix_if_pos ⟨cdq, fun i hi e => hQd i g hi (by omega) (by omega)⟩]
          omega
      have hfin := part (M / 2) (Nat.le_refl _)
      have hnn : 0 ≤ sm_ (fun k => ix_if ((c.1 98 k).toInt < 1000000 ∧ ∀ i, i < M / 2 → k ≠ F + Q i) (1 : Int) 0) F (F + T) := (sm_0 (fun p => by
        by_cases e : (c.1 98 p).toInt < 1000000 ∧ ∀ i, i < M / 2 → p ≠ F + Q i
        · rw [ix_if_pos e]; omega
        · rw [ix_if_neg e]; omega)).1
      have e2 : (nI (M / 2)).toInt = ((M / 2 : Nat) : Int) := nI_ti (by omega)
      have h7b := ti_b (c.1 115 7)
      rw [s8, ls_ rfl e2 (by omega) (by omega), nF, nFT, ← hfin]
      refine sm_c (fun p p1 p2 => ?_)
      by_cases e : (c'.1 98 p).toInt < 1000000
      · have kp := keep p e
        rw [if_pos e, ix_if_pos ⟨by rw [← s6 p kp]; exact e, kp⟩]
      · rw [if_neg e]
        by_cases hx : ∃ i, i < M / 2 ∧ p = F + Q i
        · obtain ⟨i, i1, i2⟩ := hx
          rw [ix_if_neg (fun q => q.2 i i1 i2)]
        · have kp : ∀ i, i < M / 2 → p ≠ F + Q i := fun i hi e => hx ⟨i, hi, e⟩
          rw [ix_if_neg (fun q => e (by rw [s6 p kp]; exact q.1))]
    · have kp := keep k hk
      have := s6 k kp
      rw [this] at hk
      exact ⟨hk, this⟩
end LRQ

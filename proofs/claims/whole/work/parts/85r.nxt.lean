/-! next: its ends -/
section NXE
variable {n : Nat} {z : ix_Z} {d c r : ix_D2} {u w : Int32 × ix_D2} {x : Int32} {N B S Y : Nat}
theorem e_nxc (hz : ly_z z) (hn : 20000 ≤ n) (hN : (u.2.1 51 5).toInt = N) (hN2 : N ≤ 300) (hv : u.1 = 1 → vl_ok u.2.1 71) (hY : cb_ (bp_ (u.2.1 56)) (N + 1) = Y) (hY2 : Y ≤ 20) (hB : (u.2.1 76 2).toInt = B) (hB2 : B < 64) (hS : (u.2.1 78 B).toInt = S) (hS2 : S + Y ≤ 1280) : ∃ t : Int32 × ix_D2, nx_c n z u = some t ∧ t.1 = u.1 ∧ t.2.2 = u.2.2 ∧ (∀ a k, a ≠ 88 → (a ≠ 60 ∨ k ≠ 14) → (a < 76 ∨ 78 < a) → t.2.1 a k = u.2.1 a k) ∧ (u.1 ≠ 1 → t.2 = u.2) ∧ (u.1 = 1 → (t.2.1 76 2).toInt = (B : Int) + 1 ∧ (∀ k, k ≠ 2 → t.2.1 76 k = u.2.1 76 k) ∧ (∀ k, k ≠ B + 1 → t.2.1 78 k = u.2.1 78 k) ∧ (t.2.1 78 (B + 1)).toInt = (S : Int) + Y ∧ (∀ k, k < S → t.2.1 77 k = u.2.1 77 k) ∧ ∀ m, m ≤ N → bp_ (u.2.1 56) m = true → t.2.1 77 (S + cb_ (bp_ (u.2.1 56)) m) = if 0 < vl_ u.2.1 71 (nI m) then -(nI m) else nI m) := by
  unfold nx_c
  by_cases h1 : u.1 = 1
  · obtain ⟨d', hd, b1, b2, b3, b4, b5⟩ := e_btr60 (n := n) (d := u.2) hz hn hN hN2 (hv h1) hY hY2 hB hB2 hS hS2
    refine ⟨(u.1, d'), ?_, rfl, b1, fun a k q1 q2 q3 => b2 a k q1 q2 (by omega) (by omega) (by omega), fun q => absurd h1 q, fun _ => ⟨b3, fun k hk => b2 _ _ (by omega) (by omega) (by omega) (by omega) (by omega), fun k hk => b2 _ _ (by omega) (by omega) (by omega) (by omega) (by omega), b4, fun k hk => b2 _ _ (by omega) (by omega) (by omega) (by omega) (by omega), b5⟩⟩
    rw [ix_if_pos h1, hd]
    rfl
  · refine ⟨(u.1, u.2), ?_, rfl, rfl, fun _ _ _ _ _ => rfl, fun _ => rfl, fun q => absurd q h1⟩
    rw [ix_if_neg h1]
theorem e_nxd (hz : ly_z z) (hn : 20000 ≤ n) {M : Nat} (hM : (w.2.1 161 0).toInt = M) (hM2 : M ≤ 300) (hN : (w.2.1 125 1).toInt = N) (hN2 : N ≤ 300) (hY : cb_ (bp_ (w.2.1 127)) (N + 1) = Y) (hY2 : Y ≤ 20) (hB : (w.2.1 125 32).toInt = B) (hB2 : B < 64) : ∃ D : Int32 × ix_D2, nx_r n z w = some D ∧ D.1 = w.1 ∧ D.2.2 = w.2.2 ∧ (∀ a k, a ≠ 160 → (a ≠ 166 ∨ k ≠ 0) → (a ≠ 125 ∨ (k ≠ 57 ∧ k ≠ 32)) → a ≠ 147 → a ≠ 148 → D.2.1 a k = w.2.1 a k) ∧ D.2.1 166 0 = w.1 ∧ D.2.1 125 57 = 0 ∧ (w.1 = 1 → ∀ m, 1 ≤ m → m ≤ M → D.2.1 160 m = w.2.1 167 m) ∧ (w.1 ≠ 1 → D.2.1 125 32 = w.2.1 125 32 ∧ ∀ a k, (a = 147 ∨ a = 148) → D.2.1 a k = w.2.1 a k) ∧ (w.1 = 1 → (D.2.1 125 32).toInt = (B : Int) + 1 ∧ D.2.1 147 B = nI Y ∧ (∀ k, k ≠ B → D.2.1 147 k = w.2.1 147 k) ∧ (∀ k, k < 20 * B → D.2.1 148 k = w.2.1 148 k) ∧ ∀ m, m ≤ N → bp_ (w.2.1 127) m = true → D.2.1 148 (20 * B + cb_ (bp_ (w.2.1 127)) m) = if (w.2.1 167 m).toInt = 1 then -(nI m) else nI m) := by
  obtain ⟨E, hE, e1, e2, e3, e4, e5, e6⟩ := e_ed (n := n) (x := w.1) (r := w.2) hz hn hM hM2
  obtain ⟨G, hG⟩ : ∃ G, G = ix_di E.2 125 57 0 := ⟨_, rfl⟩
  have oG : ∀ a k, (a ≠ 125 ∨ k ≠ 57) → G.1 a k = E.2.1 a k := fun a k h => by rw [hG, up_1, if_neg (by omega)]
  have oW : ∀ a k, a ≠ 160 → (a ≠ 166 ∨ k ≠ 0) → (a ≠ 125 ∨ k ≠ 57) → G.1 a k = w.2.1 a k := fun a k h1 h2 h3 => by rw [oG a k h3]; exact e3 a k h1 h2 h3
  have G57 : G.1 125 57 = 0 := by rw [hG, up_1, if_pos ⟨rfl, rfl⟩]
  have LG : G.2 = w.2.2 := by rw [hG]; exact e2
  unfold nx_r
  rw [hE]
  show ∃ D, ix_lt (ix_di E.2 125 57 0) (fun d_27 => ix_if (E.1 = 1) (ix_bd1 (f_X12_bar n z 125 0 (d_27.1 125 32) d_27) (fun d_30 => ix_lt (ix_di d_30 125 32 ((d_30.1 125 32) + 1)) (fun d_32 => some (E.1, d_32)))) (some (E.1, d_27))) = some D ∧ _
  rw [← hG]
  show ∃ D, ix_if (E.1 = 1) (ix_bd1 (f_X12_bar n z 125 0 (G.1 125 32) G) (fun d_30 => ix_lt (ix_di d_30 125 32 ((d_30.1 125 32) + 1)) (fun d_32 => some (E.1, d_32)))) (some (E.1, G)) = some D ∧ _
  by_cases h1 : E.1 = 1
  · have w1 : w.1 = 1 := by rw [← e1]; exact h1
    have e32 : G.1 125 32 = nI B := by rw [oW _ _ (by omega) (by omega) (by omega)]; exact Int32.toInt_inj.mp (by rw [hB, nI_ti (by omega)])
    have f127 : G.1 127 = w.2.1 127 := funext fun k => oW _ _ (by omega) (by omega) (by omega)
    obtain ⟨H, hH, b1, b2, b3, b4⟩ := e_bar0 (n := n) (r := G) (N := N) (A := B) (Y := Y) hz hn (by rw [oW _ _ (by omega) (by omega) (by omega)]; exact hN) hN2 (by rw [f127]; exact hY) hY2 (by omega)
    rw [f127] at b4
    have H32 : H.1 125 32 = nI B := by rw [b2 _ _ (by omega) (by omega)]; exact e32
    have oH : ∀ a k, a ≠ 160 → (a ≠ 166 ∨ k ≠ 0) → (a ≠ 125 ∨ k ≠ 57) → a ≠ 147 → a ≠ 148 → H.1 a k = w.2.1 a k := fun a k q1 q2 q3 q4 q5 => by rw [b2 a k (by omega) (by omega)]; exact oW a k q1 q2 q3
    refine ⟨(E.1, ix_di H 125 32 (H.1 125 32 + 1)), ?_, e1, by show H.2 = _; rw [b1, LG], fun a k q1 q2 q3 q4 q5 => ?_, ?_, ?_, fun q m m1 m2 => ?_, fun q => absurd w1 q, fun _ => ⟨?_, ?_, fun k hk => ?_, fun k hk => ?_, fun m m1 m2 => ?_⟩⟩
    · rw [ix_if_pos h1, e32, hH]
      rfl
    · show (ix_di H 125 32 _).1 a k = _
      rw [up_1, if_neg (by omega)]; exact oH a k q1 q2 (by omega) q4 q5
    · show (ix_di H 125 32 _).1 166 0 = _
      rw [up_1, if_neg (fun q => absurd q.1 (by decide)), b2 _ _ (by omega) (by omega), oG _ _ (by omega)]; exact e4
    · show (ix_di H 125 32 _).1 125 57 = _
      rw [up_1, if_neg (fun q => absurd q.2 (by decide)), b2 _ _ (by omega) (by omega)]; exact G57
    · show (ix_di H 125 32 _).1 160 m = _
      rw [up_1, if_neg (fun q => absurd q.1 (by decide)), b2 _ _ (by omega) (by omega), oG _ _ (by omega)]; exact e6 q m m1 m2
    · show ((ix_di H 125 32 (H.1 125 32 + 1)).1 125 32).toInt = _
      rw [up_1, if_pos ⟨rfl, rfl⟩, H32, nI_1, nI_ti (by omega)]; omega
    · show (ix_di H 125 32 _).1 147 B = _
      rw [up_1, if_neg (fun q => absurd q.1 (by decide))]; exact b3
    · show (ix_di H 125 32 _).1 147 k = _
      rw [up_1, if_neg (fun q => absurd q.1 (by decide)), b2 _ _ (by omega) (by omega)]; exact oW _ _ (by omega) (by omega) (by omega)
    · show (ix_di H 125 32 _).1 148 k = _
      rw [up_1, if_neg (fun q => absurd q.1 (by decide)), b2 _ _ (by omega) (by omega)]; exact oW _ _ (by omega) (by omega) (by omega)
    · show (ix_di H 125 32 _).1 148 _ = _
      rw [up_1, if_neg (fun q => absurd q.1 (by decide)), b4 m m1 m2, show 301 * 0 + m = m by omega, oW 167 m (by omega) (by omega) (by omega)]
  · have w1 : ¬ w.1 = 1 := by rw [← e1]; exact h1
    refine ⟨(E.1, G), by rw [ix_if_neg h1], e1, LG, fun a k q1 q2 q3 q4 q5 => oW a k q1 q2 (by omega), ?_, G57, fun q => absurd q w1, fun _ => ⟨oW _ _ (by omega) (by omega) (by omega), fun a k q => oW a k (by omega) (by omega) (by omega)⟩, fun q => absurd q w1⟩
    show G.1 166 0 = _
    rw [oG _ _ (by omega)]; exact e4
/-- the barred rows behind next, where one was added -/
theorem br_nx {f g : Nat → Nat → Int32} {B S Y N : Nat} (h1 : bw_60 f) (h2 : (f 76 2).toInt = (B : Int)) (hB : B < 64) (h3 : br_60 f f B) (h4 : ∀ p : Nat, (p : Int) < (f 78 B).toInt → (ix_n (ix_abs (f 77 p)) : Int) ≤ (N : Int)) (hS : (f 78 B).toInt = (S : Int)) (hY2 : Y ≤ 20) (hSY : S + Y ≤ 1280) (hN : N ≤ 300) {P : Nat → Bool} (hY : cb_ P (N + 1) = Y) (hP0 : P 0 = false) {it : Nat → Int32} (hit : ∀ m, 1 ≤ m → m ≤ N → it m = nI m ∨ it m = -(nI m))
    (g76 : (g 76 2).toInt = (B : Int) + 1) (g32 : (g 125 32).toInt = (B : Int) + 1) (g66 : g 125 66 = 0) (g1 : (g 125 1).toInt = (N : Int)) (g78 : ∀ k, k ≠ B + 1 → g 78 k = f 78 k) (g78b : (g 78 (B + 1)).toInt = (S : Int) + Y) (g77 : ∀ k, k < S → g 77 k = f 77 k) (g77b : ∀ m, m ≤ N → P m = true → g 77 (S + cb_ P m) = it m) (g147 : ∀ k, k ≠ B → g 147 k = f 147 k) (g147b : g 147 B = nI Y) (g148 : ∀ k, k < 20 * B → g 148 k = f 148 k) (g148b : ∀ m, m ≤ N → P m = true → g 148 (20 * B + cb_ P m) = it m) : iv_br g := by
  have nB : ix_n (g 76 2) = B + 1 := ni_k g76
  have nBf : ix_n (f 76 2) = B := ni_k h2
  have z0 := h1.2.2.1
  have items : ∀ i, i < Y → ∃ m, 1 ≤ m ∧ m ≤ N ∧ P m = true ∧ cb_ P m = i := fun i hi => by
    obtain ⟨m, m1, m2, m3⟩ := cb_ex (P := P) (k := i) (n := N + 1) (by rw [hY]; exact hi)
    refine ⟨m, ?_, by omega, m2, m3⟩
    by_cases e : m = 0
    · rw [e, hP0] at m2; cases m2
    · omega
  have itb : ∀ m, 1 ≤ m → m ≤ N → (it m).toInt ≠ 0 ∧ -300 ≤ (it m).toInt ∧ (it m).toInt ≤ 300 ∧ (ix_n (ix_abs (it m)) : Int) ≤ (N : Int) := fun m m1 m2 => by
    have em : (nI m).toInt = (m : Int) := nI_ti (by omega)
    rcases hit m m1 m2 with q | q
    · rw [q]
      have na := ab_n (v := nI m) (by omega)
      rw [em] at na
      exact ⟨by omega, by omega, by omega, by split at na <;> omega⟩
    · have en : (-(nI m)).toInt = -(m : Int) := by rw [ta_neg (by omega), em]
      rw [q]
      have na := ab_n (v := -(nI m)) (by omega)
      rw [en] at na
      exact ⟨by omega, by omega, by omega, by split at na <;> omega⟩
  have itp : ∀ p : Nat, S ≤ p → p < S + Y → ∃ m, 1 ≤ m ∧ m ≤ N ∧ g 77 p = it m := fun p p1 p2 => by
    obtain ⟨m, m1, m2, m3, m4⟩ := items (p - S) (by omega)
    refine ⟨m, m1, m2, ?_⟩
    have := g77b m m2 m3
    rw [m4, show S + (p - S) = p by omega] at this
    exact this
  refine ⟨⟨by omega, by omega, by rw [g78 0 (by omega)]; exact z0, by omega, fun k hk => ?_, fun p hp => ?_⟩, Int32.toInt_inj.mp (by rw [g76, g32]), ?_, g66, fun p hp => ?_⟩
  · by_cases e : k = B
    · rw [e, g78 B (by omega), g78b, hS]; omega
    · rw [g78 k (by omega), g78 (k + 1) (by omega)]
      exact h1.2.2.2.2.1 k (by omega)
  · rw [nB, g78b] at hp
    by_cases e : p < S
    · rw [g77 p e]
      have q := h1.2.2.2.2.2 p
      rw [nBf] at q
      exact q (by omega)
    · obtain ⟨m, m1, m2, m3⟩ := itp p (by omega) (by omega)
      rw [m3]
      have := itb m m1 m2
      exact ⟨this.1, this.2.1, this.2.2.1⟩
  · rw [nB]
    intro j hj
    rw [show 64 * 0 + j = j by omega]
    by_cases e : j = B
    · rw [e, g147b, g78b, g78 B (by omega), hS, nI_ti (by omega)]
      refine ⟨by omega, fun i hi => ?_⟩
      have nS : ix_n (f 78 B) = S := ni_k hS
      rw [nS]
      obtain ⟨m, m1, m2, m3, m4⟩ := items i (by omega)
      have q1 := g77b m m2 m3
      have q2 := g148b m m2 m3
      rw [m4] at q1 q2
      rw [q1, q2]
    · have q := h3 j (by omega)
      rw [show 64 * 0 + j = j by omega] at q
      have b0 := rw_b h1 (k := j) (by omega)
      have bm := rw_m h1 (k := j + 1) (l := B) (by omega) (by omega)
      have b3 := (h1.2.2.2.2.1 j (by omega)).2.1
      rw [g147 j e, g78 j (by omega), g78 (j + 1) (by omega)]
      refine ⟨q.1, fun i hi => ?_⟩
      have nS := ni_c (x := f 78 j) b0.1
      rw [g148 _ (by omega), g77 _ (by omega)]
      exact q.2 i hi
  · rw [nB, g78b] at hp
    rw [g1]
    by_cases e : p < S
    · rw [g77 p e]; exact h4 p (by omega)
    · obtain ⟨m, m1, m2, m3⟩ := itp p (by omega) (by omega)
      rw [m3]
      exact (itb m m1 m2).2.2.2
end NXE

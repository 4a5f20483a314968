/-! the relation behind learn, more pieces (90, 1) -/
section LRZ
variable {c0 r0 c6 r5 c7 r7 c9 D E : ix_D2} {rn : Nat → Nat} {F T A S Y k : Nat} {fr : Nat → Int32}
theorem z_rs90 (hrs : rs_90 c0 r0 rn) (hF15 : (c0.1 91 15).toInt ≤ ((F + T : Nat) : Int)) (hT : (T : Int) = (c0.1 115 8).toInt) (h15 : D.1 91 15 = c0.1 91 15) (D8 : (D.1 115 8).toInt = (T : Int) + 1) (ht : (D.1 91 12).toInt ≤ (c0.1 91 12).toInt) (leD : ∀ i, le_90 D i = le_90 c0 i) (e15 : D.1 105 = c0.1 105) (l22 : ∀ i, i < 8 * T → D.2 112 i = c0.2 112 i) (l22T : ∀ w, w < 8 → D.2 112 (8 * T + w) = c6.2 114 w) (l23 : ∀ i, D.2 113 i = c0.2 113 i) (m182 : ∀ i, i < 8 * (800 * 1 + T) → E.2 182 i = r0.2 182 i) (m182T : ∀ w, w < 8 → E.2 182 (8 * (800 * 1 + T) + w) = r5.2 184 w) (m183 : ∀ i, E.2 183 i = r0.2 183 i) (hidc : (∀ k : Nat, (k : Int) < (c0.1 91 15).toInt → rn k = k) → ∀ w, w < 8 → c6.2 114 w = r5.2 184 w) : rs_90 D E (rx90_ rn (F + T) (2000 + T)) := by
  intro hid
  have hid' : ∀ i : Nat, (i : Int) < (c0.1 91 15).toInt → rn i = i := fun i hi => by
    have := hid i (by rw [h15]; exact hi)
    rw [rx_n90 (by omega)] at this
    exact this
  obtain ⟨s1, s2⟩ := hrs hid'
  have i1 := hidc hid'
  refine ⟨fun k' w' hk' hw' => ?_, fun i w' hi hle hw' => ?_⟩
  · rw [D8] at hk'
    by_cases e : k' = T
    · rw [e, l22T w' hw', m182T w' hw']
      exact i1 w' hw'
    · rw [l22 _ (by omega), m182 _ (by omega)]
      exact s1 k' w' (by omega) hw'
  · rw [leD] at hle
    rw [e15, l23, m183]
    exact s2 i w' (by omega) hle hw'
theorem z_ty90 (hty : ty_90 c0 r0) (h4T : (c0.1 115 4).toInt = (T : Int)) (hF : (F : Int) = (c0.1 91 16).toInt) (hT8 : T < 800) (hN : (c0.1 92 2).toInt = ((F + T : Nat) : Int)) (hAS : (A : Int) = (c0.1 94 (F + T)).toInt - (c0.1 94 F).toInt) (hA8 : (A : Int) + Y ≤ 8000) (hS : (S : Int) = (c0.1 94 (F + T)).toInt) (dN : (D.1 92 2).toInt = ((F + T : Nat) : Int) + 1) (d4a : ∀ i, i ≤ F + T → D.1 94 i = c0.1 94 i) (d4b : (D.1 94 (F + T + 1)).toInt = (S : Int) + Y) (h16 : D.1 91 16 = c0.1 91 16) (t1 : D.1 115 1 = c0.1 115 1 + 1) (t4 : D.1 115 4 = c0.1 115 4 + 1) (t8 : (D.1 115 8).toInt = (T : Int) + 1) (to' : ∀ i, i = 2 ∨ i = 3 ∨ i = 9 → D.1 115 i = c0.1 115 i) (t5 : D.1 115 5 = E.1 187 (10 * 1 + 5)) (t50 : 0 ≤ (D.1 115 5).toInt) (t51 : (D.1 115 5).toInt ≤ (c0.1 115 5).toInt + 1) (t6 : D.1 115 6 = E.1 187 (10 * 1 + 6)) (t7 : (D.1 115 7).toInt = sm_ (fun k => if (D.1 98 k).toInt < 1000000 then 1 else 0) F (F + T) + 1) (d8b : (D.1 98 (F + T)).toInt < 1000000) (m1 : E.1 187 (10 * 1 + 1) = r0.1 187 (10 * 1 + 1) + 1) (m4 : E.1 187 (10 * 1 + 4) = r0.1 187 (10 * 1 + 4) + 1) (mo : ∀ i, i = 2 ∨ i = 3 ∨ i = 9 → E.1 187 (10 * 1 + i) = r0.1 187 (10 * 1 + i)) (c179 : (E.1 179 1).toInt = (T : Int) + 1) (c178 : (E.1 178 1).toInt = (T : Int) + 1) (s19 : D.1 90 19 = E.1 185 1) (s186 : (E.1 186 1).toInt = (D.1 115 5).toInt + 1) (u1 : ∀ j, j ≤ T → D.1 111 j = E.1 181 (800 * 1 + j)) (c176 : ∀ j, j ≤ T → E.1 176 (801 * 1 + j) = r0.1 176 (801 * 1 + j)) (c176T : (E.1 176 (801 * 1 + (T + 1))).toInt = (A : Int) + Y) (p17 : D.1 90 17 = c0.1 90 17) (p18 : D.1 90 18 = c0.1 90 18) (e30 : E.1 125 30 = r0.1 125 30) (e31 : E.1 125 31 = r0.1 125 31) : ty_90 D E := by
  obtain ⟨y1, y2, y3, y4, y5, y6, y7, y8, y9, y10, y11, y12, y13, y14, y15, y16, y17, y18, y19⟩ := hty
  have nF : ix_n (c0.1 91 16) = F := ni_k hF.symm
  have nD : ix_n (D.1 92 2) = F + T + 1 := ni_k (by rw [dN]; omega)
  rw [nF] at y11 y19
  refine ⟨fun i hi => ?_, ?_, ?_, ?_, ?_, s19, s186, t50, ?_, fun j hj => u1 j (by omega), fun j hj => ?_, ?_, ?_, ?_, ?_, ?_, ?_, ?_, ?_⟩
  · by_cases e1 : i = 1
    · subst e1; rw [t1, m1, y1 1 hi]
    · by_cases e4 : i = 4
      · subst e4; rw [t4, m4, y1 4 hi]
      · by_cases e5 : i = 5
        · subst e5; exact t5
        · by_cases e6 : i = 6
          · subst e6; exact t6
          · have h3 : i = 2 ∨ i = 3 ∨ i = 9 := by unfold tt_ at hi; omega
            rw [to' i h3, mo i h3]
            exact y1 i hi
  · refine Int32.toInt_inj.mp ?_
    rw [t4, td_p (by omega), c179, h4T]
  · refine Int32.toInt_inj.mp ?_
    rw [t8, c178]
  · rw [t8, dN, h16]; omega
  · rw [h16, nF, nD, sm_s (by omega), if_pos d8b, t7]
  · rw [t4, td_p (by omega)]; omega
  · rw [h16, nF, d4a F (by omega)]
    by_cases e : j = T + 1
    · rw [e, c176T, show F + (T + 1) = F + T + 1 by omega, d4b]
      omega
    · rw [c176 j (by omega), d4a (F + j) (by omega)]
      exact y11 j (by omega)
  · rw [p17, e30]; exact y12
  · rw [p18, e31]; exact y13
  · rw [e30]; exact y14
  · rw [e30]; exact y15
  · rw [e31]; exact y16
  · rw [e31]; exact y17
  · rw [h16]; exact y18
  · rw [h16, nF, d4a F (by omega)]; exact y19
end LRZ

/-! learn: the cells behind the end, and the relation (90, 1) -/
section LRW
variable {c0 r0 c6 r5 c7 r7 r8 rC r9 rD rE D : ix_D2} {rn : Nat → Nat} {F T A S Y j0 : Nat} {fr : Nat → Int32}
theorem z_re90 (hT8 : T < 800) (hA8 : (A : Int) + Y ≤ 8000) (eT : (nI T).toInt = T) (y3 : (r0.1 179 1).toInt = T) (r80 : ∀ a i, ((a ≠ 167 ∧ a ≠ 170) ∨ i < 301 * 1 ∨ 301 * 1 + 301 ≤ i) → ((a ≠ 174 ∧ a ≠ 175 ∧ a ≠ 185 ∧ a ≠ 186) ∨ i ≠ 1) → (a < 191 ∨ 195 < a) → (a ≠ 125 ∨ (i ≠ 89 ∧ i ≠ 104 ∧ i ≠ 106)) → a ≠ 187 → ((a ≠ 180 ∧ a ≠ 181) ∨ i < 800 * 1 ∨ 800 * 1 + 800 ≤ i) → r8.1 a i = r0.1 a i) (q9 : ∀ a i, ((a ≠ 180 ∧ a ≠ 181) ∨ i < 800 * 1 ∨ 800 * 1 + 800 ≤ i) → a ≠ 195 → (a ≠ 187 ∨ i ≠ 10 * 1 + 6) → r8.1 a i = r7.1 a i) (q7 : ∀ a k, ((a ≠ 167 ∧ a ≠ 170) ∨ k < 301 * 1 ∨ 301 * 1 + 301 ≤ k) → ((a ≠ 174 ∧ a ≠ 175 ∧ a ≠ 185 ∧ a ≠ 186) ∨ k ≠ 1) → (a ≠ 187 ∨ k ≠ 10 * 1 + 5) → r7.1 a k = r5.1 a k) (aF : ∀ j, j < Y → r5.1 191 j = fr j) (q178 : r8.1 178 1 = nI T) (hrC : rC = ix_di (ix_di r8 180 (800 * 1 + T) 1) 181 (800 * 1 + T) 0) (oC : ∀ a i, ((a ≠ 180 ∧ a ≠ 181) ∨ i ≠ 800 * 1 + T) → rC.1 a i = r8.1 a i) (K1 : ∀ a i, (a ≠ 177 ∨ i < 8050 * 1 + A ∨ 8050 * 1 + A + Y ≤ i) → (a ≠ 176 ∨ i ≠ 801 * 1 + (T + 1)) → (a ≠ 178 ∨ i ≠ 1) → r9.1 a i = rC.1 a i) (K2 : ∀ i, i < Y → r9.1 177 (8050 * 1 + A + i) = rC.1 191 i) (K3 : (r9.1 176 (801 * 1 + (T + 1))).toInt = (A : Int) + Y) (K4 : r9.1 178 1 = rC.1 178 1 + 1) (hrD : rD = ix_di r9 179 1 (r9.1 179 1 + 1)) (E1 : ∀ a i, (1 ≠ 0 ∨ (a ≠ 188 ∧ (a ≠ 125 ∨ i ≠ 91))) → rE.1 a i = rD.1 a i) (orE : ∀ a i, (a ≠ 177 ∨ i < 8050 * 1 + A ∨ 8050 * 1 + A + Y ≤ i) → (a ≠ 176 ∨ i ≠ 801 * 1 + (T + 1)) → ((a ≠ 178 ∧ a ≠ 179) ∨ i ≠ 1) → ((a ≠ 180 ∧ a ≠ 181) ∨ i ≠ 800 * 1 + T) → a ≠ 188 → (a ≠ 125 ∨ i ≠ 91) → rE.1 a i = r8.1 a i) : (∀ a, (a < 167 ∨ 171 < a) → (a < 173 ∨ 182 < a) → (a < 185 ∨ 195 < a) → a ≠ 125 → rE.1 a = r0.1 a) ∧ (∀ i, i ≠ 89 → i ≠ 104 → i ≠ 106 → i ≠ 91 → rE.1 125 i = r0.1 125 i) ∧ (∀ j, j ≤ T → rE.1 176 (801 * 1 + j) = r0.1 176 (801 * 1 + j)) ∧ (∀ p, p < A → rE.1 177 (8050 * 1 + p) = r0.1 177 (8050 * 1 + p)) ∧ ((rE.1 176 (801 * 1 + (T + 1))).toInt = (A : Int) + Y) ∧ (∀ j, j < Y → rE.1 177 (8050 * 1 + A + j) = fr j) ∧ ((rE.1 179 1).toInt = (T : Int) + 1) ∧ ((rE.1 178 1).toInt = (T : Int) + 1) ∧ (rE.1 180 (800 * 1 + T) = 1) ∧ (rE.1 181 (800 * 1 + T) = 0) ∧ (∀ i, i ≠ 10 * 1 + 6 → rE.1 187 i = r7.1 187 i) ∧ (∀ a i, 167 ≤ a → a ≤ 175 → rE.1 a i = r7.1 a i) ∧ (∀ a, a = 185 ∨ a = 186 → rE.1 a 1 = r7.1 a 1) := by
  have rE0 : ∀ a, (a < 167 ∨ 171 < a) → (a < 173 ∨ 182 < a) → (a < 185 ∨ 195 < a) → a ≠ 125 → rE.1 a = r0.1 a := fun a d1 d2 d3 d4 => funext fun i => by
    rw [orE a i (by omega) (by omega) (by omega) (by omega) (by omega) (by omega)]
    exact r80 a i (by omega) (by omega) (by omega) (by omega) (by omega) (by omega)
  have rE125 : ∀ i, i ≠ 89 → i ≠ 104 → i ≠ 106 → i ≠ 91 → rE.1 125 i = r0.1 125 i := fun i d1 d2 d3 d4 => by
    rw [orE _ _ (by omega) (by omega) (by omega) (by omega) (by omega) (by omega)]
    exact r80 _ _ (by omega) (by omega) (by omega) (by omega) (by omega) (by omega)
  have c176 : ∀ j, j ≤ T → rE.1 176 (801 * 1 + j) = r0.1 176 (801 * 1 + j) := fun j hj => by
    rw [orE _ _ (by omega) (by omega) (by omega) (by omega) (by omega) (by omega)]
    exact r80 _ _ (by omega) (by omega) (by omega) (by omega) (by omega) (by omega)
  have c177 : ∀ p, p < A → rE.1 177 (8050 * 1 + p) = r0.1 177 (8050 * 1 + p) := fun p hp => by
    rw [orE _ _ (by omega) (by omega) (by omega) (by omega) (by omega) (by omega)]
    exact r80 _ _ (by omega) (by omega) (by omega) (by omega) (by omega) (by omega)
  have c176T : (rE.1 176 (801 * 1 + (T + 1))).toInt = (A : Int) + Y := by
    rw [E1 _ _ (Or.inr ⟨by decide, Or.inl (by decide)⟩), hrD, up_1, if_neg (fun q => absurd q.1 (by decide))]
    exact K3
  have c177T : ∀ j, j < Y → rE.1 177 (8050 * 1 + A + j) = fr j := fun j hj => by
    rw [E1 _ _ (Or.inr ⟨by decide, Or.inl (by decide)⟩), hrD, up_1, if_neg (fun q => absurd q.1 (by decide)), K2 j hj, oC _ _ (by omega), q9 _ _ (by omega) (by omega) (by omega), q7 _ _ (by omega) (by omega) (by omega)]
    exact aF j hj
  have c179 : (rE.1 179 1).toInt = (T : Int) + 1 := by
    rw [E1 _ _ (Or.inr ⟨by decide, Or.inl (by decide)⟩), hrD, up_1, if_pos ⟨rfl, rfl⟩, K1 _ _ (by omega) (by omega) (by omega), oC _ _ (by omega), r80 _ _ (by omega) (by omega) (by omega) (by omega) (by omega) (by omega), td_p (by omega), y3]
  have c178 : (rE.1 178 1).toInt = (T : Int) + 1 := by
    rw [E1 _ _ (Or.inr ⟨by decide, Or.inl (by decide)⟩), hrD, up_1, if_neg (fun q => absurd q.1 (by decide)), K4, oC _ _ (by omega), q178, td_p (by omega), eT]
  have e180 : rE.1 180 (800 * 1 + T) = 1 := by
    rw [E1 _ _ (Or.inr ⟨by decide, Or.inl (by decide)⟩), hrD, up_1, if_neg (fun q => absurd q.1 (by decide)), K1 _ _ (by omega) (by omega) (by omega), hrC, up_1, if_neg (fun q => absurd q.1 (by decide)), up_1, if_pos ⟨rfl, rfl⟩]
  have e181 : rE.1 181 (800 * 1 + T) = 0 := by
    rw [E1 _ _ (Or.inr ⟨by decide, Or.inl (by decide)⟩), hrD, up_1, if_neg (fun q => absurd q.1 (by decide)), K1 _ _ (by omega) (by omega) (by omega), hrC, up_1, if_pos ⟨rfl, rfl⟩]
  have rE187 : ∀ i, i ≠ 10 * 1 + 6 → rE.1 187 i = r7.1 187 i := fun i d1 => by rw [orE _ _ (by omega) (by omega) (by omega) (by omega) (by omega) (by omega)]; exact q9 _ _ (by omega) (by omega) (by omega)
  have rE7 : ∀ a i, 167 ≤ a → a ≤ 175 → rE.1 a i = r7.1 a i := fun a i d1 d2 => by rw [orE _ _ (by omega) (by omega) (by omega) (by omega) (by omega) (by omega)]; exact q9 _ _ (by omega) (by omega) (by omega)
  have rE85 : ∀ a, a = 185 ∨ a = 186 → rE.1 a 1 = r7.1 a 1 := fun a d1 => by rw [orE _ _ (by omega) (by omega) (by omega) (by omega) (by omega) (by omega)]; exact q9 _ _ (by omega) (by omega) (by omega)
  exact ⟨rE0, rE125, c176, c177, c176T, c177T, c179, c178, e180, e181, rE187, rE7, rE85⟩
theorem z_R90 (h : R_90 c0 r0 rn) (hL : 0 < (c0.1 91 13).toInt) (hF : (F : Int) = (c0.1 91 16).toInt) (hT : (T : Int) = (c0.1 115 8).toInt) (hT8 : T < 800) (hN : (c0.1 92 2).toInt = ((F + T : Nat) : Int)) (hA : (A : Int) = (r0.1 176 (801 * 1 + T)).toInt) (hA2 : (A : Int) = (c0.1 94 (F + T)).toInt - (c0.1 94 F).toInt) (hA8 : (A : Int) + Y ≤ 8000) (hS : (S : Int) = (c0.1 94 (F + T)).toInt) (aY1 : 1 ≤ Y) (bD : bi_90 D) (dN : (D.1 92 2).toInt = ((F + T : Nat) : Int) + 1) (d4a : ∀ i, i ≤ F + T → D.1 94 i = c0.1 94 i) (d4b : (D.1 94 (F + T + 1)).toInt = (S : Int) + Y) (d3a : ∀ p, p < S → D.1 93 p = c0.1 93 p) (d3b : ∀ i, i < Y → D.1 93 (S + i) = fr i) (d8b : (D.1 98 (F + T)).toInt < 1000000) (fD1 : D.1 91 = c7.1 91) (fD11 : D.1 101 = c7.1 101) (fD12 : D.1 102 = c7.1 102) (fD13 : D.1 103 = c0.1 103) (fD14 : D.1 104 = c0.1 104) (fD15 : D.1 105 = c0.1 105) (f713 : c7.1 103 = c0.1 103) (f714 : c7.1 104 = c0.1 104) (f715 : c7.1 105 = c0.1 105) (f72 : c7.1 92 = c0.1 92) (f73 : c7.1 93 = c0.1 93) (f74 : c7.1 94 = c0.1 94) (e71 : ∀ i, i ≠ 12 → i ≠ 13 → c7.1 91 i = c0.1 91 i) (lv2 : (c7.1 91 13).toInt ≤ (c7.1 91 12).toInt) (lv3 : (c7.1 91 12).toInt ≤ (c0.1 91 12).toInt) (lvL : (c7.1 91 13).toInt < (c0.1 91 13).toInt) (rr7 : rr_90 c7 r7 rn) (tk7 : tk_90 c7) (rt7 : rt_90 c7 r7 rn) (la7 : la_90 c7) (frb : ∀ i, i < Y → (ix_n (ix_abs (fr i)) : Int) ≤ (c0.1 91 14).toInt) (j1 : (j0 : Int) < (c0.1 91 12).toInt) (j2 : fr 0 = -(c0.1 105 j0)) (j3 : le_90 c0 j0 = (c0.1 91 13).toInt) (kept7 : ∀ i : Nat, (i : Int) < (c7.1 91 12).toInt → le_90 c0 i ≤ (c7.1 91 13).toInt ∧ c7.1 101 (ix_n (ix_abs (c0.1 105 i))) = c0.1 101 (ix_n (ix_abs (c0.1 105 i)))) (g14 : ∀ i, F ≤ i → i < F + T → ((rE.1 180 (800 * 1 + (i - F))).toInt = 0 ↔ 1000000 ≤ (D.1 98 i).toInt)) (g15 : ∀ i, i < F → (D.1 98 i).toInt < 1000000) (hgone : ∀ i, i < F + T → (D.1 98 i).toInt < 1000000 → (c0.1 98 i).toInt < 1000000) (hrsD : rs_90 D rE (rx90_ rn (F + T) (2000 + T))) (hwgD : wg_90 D rE) (htyD : ty_90 D rE) (haqD : aq_90 D rE) (hcqD : cq_90 D rE) (rE0 : ∀ a, (a < 167 ∨ 171 < a) → (a < 173 ∨ 182 < a) → (a < 185 ∨ 195 < a) → a ≠ 125 → rE.1 a = r0.1 a) (rE125 : ∀ i, i ≠ 89 → i ≠ 104 → i ≠ 106 → i ≠ 91 → rE.1 125 i = r0.1 125 i) (c176 : ∀ j, j ≤ T → rE.1 176 (801 * 1 + j) = r0.1 176 (801 * 1 + j)) (c177 : ∀ p, p < A → rE.1 177 (8050 * 1 + p) = r0.1 177 (8050 * 1 + p)) (c176T : (rE.1 176 (801 * 1 + (T + 1))).toInt = (A : Int) + Y) (c177T : ∀ j, j < Y → rE.1 177 (8050 * 1 + A + j) = fr j) (c179 : (rE.1 179 1).toInt = (T : Int) + 1) (e180 : rE.1 180 (800 * 1 + T) = 1) (rE7 : ∀ a i, 167 ≤ a → a ≤ 175 → rE.1 a i = r7.1 a i) : R_90 D rE (rx90_ rn (F + T) (2000 + T)) := by
  obtain ⟨hb, hrr, htk, hrt, ⟨hla, hll, hql⟩, hrs, hwg, hnb, hty, haq, hcq⟩ := h
  obtain ⟨y1, y2, y3, y4, y5, y6, y7, y8, y9, y10, y11, y12, y13, y14, y15, y16, y17, y18, y19⟩ := hty
  have nF : ix_n (c0.1 91 16) = F := ni_k hF.symm
  rw [nF] at y11
  have h15 : D.1 91 15 = c0.1 91 15 := by rw [fD1]; exact e71 15 (by omega) (by omega)
  have h16 : D.1 91 16 = c0.1 91 16 := by rw [fD1]; exact e71 16 (by omega) (by omega)
  have h14 : D.1 91 14 = c0.1 91 14 := by rw [fD1]; exact e71 14 (by omega) (by omega)
  have hFT2 : F + T < 2000 := by omega
  have d3S : D.1 93 S = fr 0 := by have := d3b 0 (by omega); rw [Nat.add_zero] at this; exact this
  have htD : (D.1 91 12).toInt ≤ (c0.1 91 12).toInt := by rw [fD1]; exact lv3
  obtain ⟨G1, G2, G3, G4, G5, G6, G7, G8, G9, G10, G11, G12, G13, G14, G15⟩ := hrr.2.1
  have rnF : ∀ i : Nat, i < F + T → rn i < 2000 ∨ (F ≤ i ∧ rn i = 2000 + (i - F)) := fun i hi => by
    by_cases e : F ≤ i
    · have := (G14 i (by omega) (by omega)).1
      right
      omega
    · left
      by_cases e2 : (i : Int) < (c0.1 91 15).toInt
      · have := (G6 i e2).1; omega
      · have := G11 i (by omega) (by omega)
        have : (c0.1 91 16).toInt - (c0.1 91 15).toInt ≤ 64 := by
          by_cases e3 : (1 = 1 ∨ (r0.1 125 58).toInt ≠ 0)
          · have := G9 e3; omega
          · have := G10 e3; omega
        omega
  refine ⟨bD, ⟨z_ra90 hb hrr hN hT8 hA hA8 hS hA2 (fun j hj => (y11 j (by omega)).1) rnF dN d4a d4b d3a d3b c176 c177 c176T c177T (rE0 143 (by omega) (by omega) (by omega) (by omega)) (rE0 144 (by omega) (by omega) (by omega) (by omega)) (rE0 147 (by omega) (by omega) (by omega) (by omega)) (rE0 148 (by omega) (by omega) (by omega) (by omega)) (rE125 66 (by omega) (by omega) (by omega) (by omega)), z_rb90 hrr hF hN hT8 h15 h16 dN (rE0 162 (by omega) (by omega) (by omega) (by omega)) (rE0 163 (by omega) (by omega) (by omega) (by omega)) (rE125 58 (by omega) (by omega) (by omega) (by omega)) (rE125 67 (by omega) (by omega) (by omega) (by omega)) c179 g14 g15 e180 d8b, fun m hm => ?_⟩, ?_, z_rt90 rt7 (by rw [f72]; exact hN) dN fD1 fD12 (fD13.trans f713.symm) (fD14.trans f714.symm) (fD15.trans f715.symm) rE7, ⟨z_la90 hb la7 rt7 hN hFT2 hS f72 f73 f74 dN d4a d3a fD1 fD11 (fD13.trans f713.symm) (fD14.trans f714.symm) (fD15.trans f715.symm), ?_, z_ql90 hb htk hql la7 hL lvL hN hS aY1 dN d4a d4b d3a d3S fD11 f715 j1 j2 j3 kept7 hgone⟩, hrsD, hwgD, z_nb90 hnb hN hS dN d4b d3a d3b h14 fD15 htD frb, htyD, haqD, hcqD⟩
  · rw [rE7 _ _ (by omega) (by omega), fD11]; exact rr7.2.2 m hm
  · unfold tk_90 vl_; rw [fD1, fD11, fD15, ← f715]; exact tk7
  · rw [fD1]; exact lv2
theorem z_ce90 {c8 c9 : ix_D2} (hT8 : T < 800) (hN : (c0.1 92 2).toInt = ((F + T : Nat) : Int)) (c9F : (c9.1 91 16).toInt = F) (c9N : (c9.1 92 2).toInt = ((F + T : Nat) : Int)) (hF5 : F ≤ 564) (d8a : ∀ i, i < F + T → D.1 98 i = c9.1 98 i) (rr9 : rr_90 c9 r8 rn) (orE : ∀ a i, (a ≠ 177 ∨ i < 8050 * 1 + A ∨ 8050 * 1 + A + Y ≤ i) → (a ≠ 176 ∨ i ≠ 801 * 1 + (T + 1)) → ((a ≠ 178 ∧ a ≠ 179) ∨ i ≠ 1) → ((a ≠ 180 ∧ a ≠ 181) ∨ i ≠ 800 * 1 + T) → a ≠ 188 → (a ≠ 125 ∨ i ≠ 91) → rE.1 a i = r8.1 a i) (x9 : ∀ k : Nat, (c9.1 98 k).toInt < 1000000 → (c8.1 98 k).toInt < 1000000 ∧ c9.1 98 k = c8.1 98 k) (gone8 : ∀ i : Nat, (i : Int) < (c0.1 92 2).toInt → (1000000 ≤ (c8.1 98 i).toInt ↔ 1000000 ≤ (c0.1 98 i).toInt)) (D7 : D.1 115 7 = c9.1 115 7 + 1) (w9 : (c9.1 115 7).toInt = sm_ (fun k => if (c9.1 98 k).toInt < 1000000 then 1 else 0) F (F + T)) (D21 : ∀ j, j < T → D.1 111 j = c9.1 111 j) (D21T : D.1 111 T = 0) (e181 : rE.1 181 (800 * 1 + T) = 0) (u9 : ∀ k, k < T → c9.1 111 k = r8.1 181 (800 * 1 + k)) : (∀ i, F ≤ i → i < F + T → ((rE.1 180 (800 * 1 + (i - F))).toInt = 0 ↔ 1000000 ≤ (D.1 98 i).toInt)) ∧ (∀ i, i < F → (D.1 98 i).toInt < 1000000) ∧ (∀ i, i < F + T → (D.1 98 i).toInt < 1000000 → (c0.1 98 i).toInt < 1000000) ∧ (D.1 115 7).toInt = sm_ (fun k => if (D.1 98 k).toInt < 1000000 then (1 : Int) else 0) F (F + T) + 1 ∧ ∀ j, j ≤ T → D.1 111 j = rE.1 181 (800 * 1 + j) := by
  refine ⟨fun i d1 d2 => ?_, fun i d1 => ?_, fun i d1 d2 => ?_, ?_, fun j hj => ?_⟩
  · obtain ⟨b1, b2⟩ := rr9.2.1.2.2.2.2.2.2.2.2.2.2.2.2.2.1 i (by rw [c9F]; omega) (by rw [c9N]; omega)
    rw [c9F] at b1
    rw [show rn i - 2000 = i - F by omega] at b2
    rw [d8a i d2, orE _ _ (by omega) (by omega) (by omega) (by omega) (by omega) (by omega)]
    exact b2
  · rw [d8a i (by omega)]
    exact rr9.2.1.2.2.2.2.2.2.2.2.2.2.2.2.2.2 i (by rw [c9F]; omega)
  · rw [d8a i d1] at d2
    have a1 := (x9 i d2).1
    have a2 := gone8 i (by omega)
    omega
  · have hsb := sm_le (f := fun k => if (c9.1 98 k).toInt < 1000000 then (1 : Int) else 0) (a := F) (c := 1) (fun p => by split <;> omega) (by omega) (b := F + T) (by omega)
    have es : sm_ (fun k => if (D.1 98 k).toInt < 1000000 then (1 : Int) else 0) F (F + T) = sm_ (fun k => if (c9.1 98 k).toInt < 1000000 then 1 else 0) F (F + T) := sm_c (fun p p1 p2 => by rw [d8a p p2])
    rw [D7, td_p (by omega), w9, es]
  · by_cases e : j = T
    · rw [e, D21T, e181]
    · rw [D21 j (by omega), orE _ _ (by omega) (by omega) (by omega) (by omega) (by omega) (by omega)]
      exact u9 j (by omega)
end LRW

/-! what the reference's solving may change: ranges; learn's frames (60, 0) -/
section SQR
variable {r r' : ix_D2} {v : Int32} {w : Int64} {a k : Nat}
theorem sr_n0 (h1 : 167 ≤ a) (h2 : a ≤ 171) (h3 : 301 * 0 ≤ k) (h4 : k < 301 * 0 + 301) : sq_0 a k := Or.inr (Or.inr (Or.inr (Or.inl ⟨h1, h2, h3, h4⟩)))
theorem sr_q0 (h : a = 172 ∨ a = 174 ∨ a = 175 ∨ a = 178 ∨ a = 179 ∨ a = 185 ∨ a = 186) (h2 : k = 0) : sq_0 a k := Or.inr (Or.inr (Or.inr (Or.inr (Or.inl ⟨h, h2⟩))))
theorem sr_1760 (h3 : 801 * 0 ≤ k) (h4 : k < 801 * 0 + 801) : sq_0 176 k := Or.inr (Or.inr (Or.inr (Or.inr (Or.inr (Or.inr (Or.inl ⟨rfl, h3, h4⟩))))))
theorem sr_1770 (h3 : 8050 * 0 ≤ k) (h4 : k < 8050 * 0 + 8050) : sq_0 177 k := Or.inr (Or.inr (Or.inr (Or.inr (Or.inr (Or.inr (Or.inr (Or.inl ⟨rfl, h3, h4⟩)))))))
theorem sr_80 (h : a = 180 ∨ a = 181) (h3 : 800 * 0 ≤ k) (h4 : k < 800 * 0 + 800) : sq_0 a k := Or.inr (Or.inr (Or.inr (Or.inr (Or.inr (Or.inr (Or.inr (Or.inr (Or.inl ⟨h, h3, h4⟩))))))))
theorem sr_1870 (h3 : 10 * 0 ≤ k) (h4 : k < 10 * 0 + 10) : sq_0 187 k := Or.inr (Or.inr (Or.inr (Or.inr (Or.inr (Or.inr (Or.inr (Or.inr (Or.inr (Or.inr (Or.inr (Or.inr ⟨rfl, h3, h4⟩)))))))))))
theorem sr_z0 (h0 : 0 = 0) (h : k = 91 ∨ k = 94 ∨ k = 96) : sq_0 125 k := Or.inl ⟨rfl, Or.inr (Or.inr (Or.inr (Or.inr ⟨h0, h⟩)))⟩
theorem sr_y0 (h0 : 0 = 0) (h1 : 188 ≤ a) (h2 : a ≤ 190) : sq_0 a k := Or.inr (Or.inr (Or.inl ⟨h0, h1, h2⟩))
/-- negations, one by one -/
theorem sn_m0 (hn : ¬ sq_0 a k) : a < 191 ∨ 195 < a := by
  by_cases e : 191 ≤ a ∧ a ≤ 195
  · exact absurd (sq_m0 e.1 e.2) hn
  · omega
theorem sn_o0 (hn : ¬ sq_0 a k) : a ≠ 125 ∨ (k ≠ 89 ∧ k ≠ 104 ∧ k ≠ 106 ∧ (k < 97 ∨ 100 < k)) := by
  by_cases e : a = 125
  · by_cases e2 : k = 89 ∨ (97 ≤ k ∧ k ≤ 100) ∨ k = 104 ∨ k = 106
    · exact absurd (by rw [e]; exact sq_o0 e2) hn
    · omega
  · exact Or.inl e
theorem sn_n0 (hn : ¬ sq_0 a k) : (a < 167 ∨ 171 < a) ∨ k < 301 * 0 ∨ 301 * 0 + 301 ≤ k := by
  by_cases e : (167 ≤ a ∧ a ≤ 171) ∧ 301 * 0 ≤ k ∧ k < 301 * 0 + 301
  · exact absurd (sr_n0 e.1.1 e.1.2 e.2.1 e.2.2) hn
  · omega
theorem sn_q0 (hn : ¬ sq_0 a k) : (a ≠ 172 ∧ a ≠ 174 ∧ a ≠ 175 ∧ a ≠ 178 ∧ a ≠ 179 ∧ a ≠ 185 ∧ a ≠ 186) ∨ k ≠ 0 := by
  by_cases e : k = 0
  · left
    refine ⟨fun h => hn (sr_q0 (by omega) e), fun h => hn (sr_q0 (by omega) e), fun h => hn (sr_q0 (by omega) e), fun h => hn (sr_q0 (by omega) e), fun h => hn (sr_q0 (by omega) e), fun h => hn (sr_q0 (by omega) e), fun h => hn (sr_q0 (by omega) e)⟩
  · exact Or.inr e
theorem sn_1760 (hn : ¬ sq_0 a k) : a ≠ 176 ∨ k < 801 * 0 ∨ 801 * 0 + 801 ≤ k := by
  by_cases e : a = 176
  · by_cases e2 : 801 * 0 ≤ k ∧ k < 801 * 0 + 801
    · exact absurd (by rw [e]; exact sr_1760 e2.1 e2.2) hn
    · omega
  · exact Or.inl e
theorem sn_1770 (hn : ¬ sq_0 a k) : a ≠ 177 ∨ k < 8050 * 0 ∨ 8050 * 0 + 8050 ≤ k := by
  by_cases e : a = 177
  · by_cases e2 : 8050 * 0 ≤ k ∧ k < 8050 * 0 + 8050
    · exact absurd (by rw [e]; exact sr_1770 e2.1 e2.2) hn
    · omega
  · exact Or.inl e
theorem sn_80 (hn : ¬ sq_0 a k) : (a ≠ 180 ∧ a ≠ 181) ∨ k < 800 * 0 ∨ 800 * 0 + 800 ≤ k := by
  by_cases e : (a = 180 ∨ a = 181) ∧ 800 * 0 ≤ k ∧ k < 800 * 0 + 800
  · exact absurd (sr_80 e.1 e.2.1 e.2.2) hn
  · omega
theorem sn_1820 (hn : ¬ sq_0 a k) : a ≠ 182 ∨ k < 6400 * 0 ∨ 6400 * 0 + 6400 ≤ k := by
  by_cases e : a = 182
  · by_cases e2 : 6400 * 0 ≤ k ∧ k < 6400 * 0 + 6400
    · exact absurd (by rw [e]; exact sq_1820 e2.1 e2.2) hn
    · omega
  · exact Or.inl e
theorem sn_1840 (hn : ¬ sq_0 a k) : a ≠ 184 := fun e => hn (by rw [e]; exact sq_1840)
theorem sn_1870 (hn : ¬ sq_0 a k) : a ≠ 187 ∨ k < 10 * 0 ∨ 10 * 0 + 10 ≤ k := by
  by_cases e : a = 187
  · by_cases e2 : 10 * 0 ≤ k ∧ k < 10 * 0 + 10
    · exact absurd (by rw [e]; exact sr_1870 e2.1 e2.2) hn
    · omega
  · exact Or.inl e
end SQR

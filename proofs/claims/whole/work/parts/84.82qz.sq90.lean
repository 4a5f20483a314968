/-! what the reference's solving may change: ranges; learn's frames (90, 1) -/
section SQR
variable {r r' : ix_D2} {v : Int32} {w : Int64} {a k : Nat}
theorem sr_nq1 (h1 : 167 ≤ a) (h2 : a ≤ 171) (h3 : 301 * 1 ≤ k) (h4 : k < 301 * 1 + 301) : sq_q1 a k := Or.inr (Or.inr (Or.inr (Or.inl ⟨h1, h2, h3, h4⟩)))
theorem sr_qq1 (h : a = 172 ∨ a = 174 ∨ a = 175 ∨ a = 178 ∨ a = 179 ∨ a = 185 ∨ a = 186) (h2 : k = 1) : sq_q1 a k := Or.inr (Or.inr (Or.inr (Or.inr (Or.inl ⟨h, h2⟩))))
theorem sr_176q1 (h3 : 801 * 1 ≤ k) (h4 : k < 801 * 1 + 801) : sq_q1 176 k := Or.inr (Or.inr (Or.inr (Or.inr (Or.inr (Or.inr (Or.inl ⟨rfl, h3, h4⟩))))))
theorem sr_177q1 (h3 : 8050 * 1 ≤ k) (h4 : k < 8050 * 1 + 8050) : sq_q1 177 k := Or.inr (Or.inr (Or.inr (Or.inr (Or.inr (Or.inr (Or.inr (Or.inl ⟨rfl, h3, h4⟩)))))))
theorem sr_8q1 (h : a = 180 ∨ a = 181) (h3 : 800 * 1 ≤ k) (h4 : k < 800 * 1 + 800) : sq_q1 a k := Or.inr (Or.inr (Or.inr (Or.inr (Or.inr (Or.inr (Or.inr (Or.inr (Or.inl ⟨h, h3, h4⟩))))))))
theorem sr_187q1 (h3 : 10 * 1 ≤ k) (h4 : k < 10 * 1 + 10) : sq_q1 187 k := Or.inr (Or.inr (Or.inr (Or.inr (Or.inr (Or.inr (Or.inr (Or.inr (Or.inr (Or.inr (Or.inr (Or.inr ⟨rfl, h3, h4⟩)))))))))))
theorem sr_zq1 (h0 : 1 = 0) (h : k = 91 ∨ k = 94 ∨ k = 96) : sq_q1 125 k := Or.inl ⟨rfl, Or.inr (Or.inr (Or.inr (Or.inr ⟨h0, h⟩)))⟩
theorem sr_yq1 (h0 : 1 = 0) (h1 : 188 ≤ a) (h2 : a ≤ 190) : sq_q1 a k := Or.inr (Or.inr (Or.inl ⟨h0, h1, h2⟩))
/-- negations, one by one -/
theorem sn_mq1 (hn : ¬ sq_q1 a k) : a < 191 ∨ 195 < a := by
  by_cases e : 191 ≤ a ∧ a ≤ 195
  · exact absurd (sq_mq1 e.1 e.2) hn
  · omega
theorem sn_oq1 (hn : ¬ sq_q1 a k) : a ≠ 125 ∨ (k ≠ 89 ∧ k ≠ 104 ∧ k ≠ 106 ∧ (k < 97 ∨ 100 < k)) := by
  by_cases e : a = 125
  · by_cases e2 : k = 89 ∨ (97 ≤ k ∧ k ≤ 100) ∨ k = 104 ∨ k = 106
    · exact absurd (by rw [e]; exact sq_oq1 e2) hn
    · omega
  · exact Or.inl e
theorem sn_nq1 (hn : ¬ sq_q1 a k) : (a < 167 ∨ 171 < a) ∨ k < 301 * 1 ∨ 301 * 1 + 301 ≤ k := by
  by_cases e : (167 ≤ a ∧ a ≤ 171) ∧ 301 * 1 ≤ k ∧ k < 301 * 1 + 301
  · exact absurd (sr_nq1 e.1.1 e.1.2 e.2.1 e.2.2) hn
  · omega
theorem sn_qq1 (hn : ¬ sq_q1 a k) : (a ≠ 172 ∧ a ≠ 174 ∧ a ≠ 175 ∧ a ≠ 178 ∧ a ≠ 179 ∧ a ≠ 185 ∧ a ≠ 186) ∨ k ≠ 1 := by
  by_cases e : k = 1
  · left
    refine ⟨fun h => hn (sr_qq1 (by omega) e), fun h => hn (sr_qq1 (by omega) e), fun h => hn (sr_qq1 (by omega) e), fun h => hn (sr_qq1 (by omega) e), fun h => hn (sr_qq1 (by omega) e), fun h => hn (sr_qq1 (by omega) e), fun h => hn (sr_qq1 (by omega) e)⟩
  · exact Or.inr e
theorem sn_176q1 (hn : ¬ sq_q1 a k) : a ≠ 176 ∨ k < 801 * 1 ∨ 801 * 1 + 801 ≤ k := by
  by_cases e : a = 176
  · by_cases e2 : 801 * 1 ≤ k ∧ k < 801 * 1 + 801
    · exact absurd (by rw [e]; exact sr_176q1 e2.1 e2.2) hn
    · omega
  · exact Or.inl e
theorem sn_177q1 (hn : ¬ sq_q1 a k) : a ≠ 177 ∨ k < 8050 * 1 ∨ 8050 * 1 + 8050 ≤ k := by
  by_cases e : a = 177
  · by_cases e2 : 8050 * 1 ≤ k ∧ k < 8050 * 1 + 8050
    · exact absurd (by rw [e]; exact sr_177q1 e2.1 e2.2) hn
    · omega
  · exact Or.inl e
theorem sn_8q1 (hn : ¬ sq_q1 a k) : (a ≠ 180 ∧ a ≠ 181) ∨ k < 800 * 1 ∨ 800 * 1 + 800 ≤ k := by
  by_cases e : (a = 180 ∨ a = 181) ∧ 800 * 1 ≤ k ∧ k < 800 * 1 + 800
  · exact absurd (sr_8q1 e.1 e.2.1 e.2.2) hn
  · omega
theorem sn_182q1 (hn : ¬ sq_q1 a k) : a ≠ 182 ∨ k < 6400 * 1 ∨ 6400 * 1 + 6400 ≤ k := by
  by_cases e : a = 182
  · by_cases e2 : 6400 * 1 ≤ k ∧ k < 6400 * 1 + 6400
    · exact absurd (by rw [e]; exact sq_182q1 e2.1 e2.2) hn
    · omega
  · exact Or.inl e
theorem sn_184q1 (hn : ¬ sq_q1 a k) : a ≠ 184 := fun e => hn (by rw [e]; exact sq_184q1)
theorem sn_187q1 (hn : ¬ sq_q1 a k) : a ≠ 187 ∨ k < 10 * 1 ∨ 10 * 1 + 10 ≤ k := by
  by_cases e : a = 187
  · by_cases e2 : 10 * 1 ≤ k ∧ k < 10 * 1 + 10
    · exact absurd (by rw [e]; exact sr_187q1 e2.1 e2.2) hn
    · omega
  · exact Or.inl e
end SQR

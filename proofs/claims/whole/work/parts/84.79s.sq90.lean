/-! what the reference's solving may change, cell by cell (1) -/
section SQC
variable {r r' : ix_D2} {v : Int32} {w : Int64} {a k : Nat}
theorem sq_oq1 (h : k = 89 ∨ (97 ≤ k ∧ k ≤ 100) ∨ k = 104 ∨ k = 106) : sq_q1 125 k := Or.inl ⟨rfl, by rcases h with h | h | h | h <;> omega⟩
theorem sq_mq1 (h1 : 191 ≤ a) (h2 : a ≤ 195) : sq_q1 a k := Or.inr (Or.inl ⟨h1, h2⟩)
theorem sq_nq1 (h1 : 167 ≤ a) (h2 : a ≤ 171) {m : Nat} (hm : m ≤ 300) : sq_q1 a (301 * 1 + m) := Or.inr (Or.inr (Or.inr (Or.inl ⟨h1, h2, by omega, by omega⟩)))
theorem sq_qq1 (h : a = 172 ∨ a = 174 ∨ a = 175 ∨ a = 178 ∨ a = 179 ∨ a = 185 ∨ a = 186) : sq_q1 a 1 := Or.inr (Or.inr (Or.inr (Or.inr (Or.inl ⟨h, rfl⟩))))
theorem sq_tq1 {i : Nat} (h : i < 300) : sq_q1 173 (300 * 1 + i) := Or.inr (Or.inr (Or.inr (Or.inr (Or.inr (Or.inl ⟨rfl, by omega, by omega⟩)))))
theorem sq_176q1 {i : Nat} (h : i < 801) : sq_q1 176 (801 * 1 + i) := Or.inr (Or.inr (Or.inr (Or.inr (Or.inr (Or.inr (Or.inl ⟨rfl, by omega, by omega⟩))))))
theorem sq_177q1 {i : Nat} (h : i < 8050) : sq_q1 177 (8050 * 1 + i) := Or.inr (Or.inr (Or.inr (Or.inr (Or.inr (Or.inr (Or.inr (Or.inl ⟨rfl, by omega, by omega⟩)))))))
theorem sq_8q1 {i : Nat} (h1 : a = 180 ∨ a = 181) (h : i < 800) : sq_q1 a (800 * 1 + i) := Or.inr (Or.inr (Or.inr (Or.inr (Or.inr (Or.inr (Or.inr (Or.inr (Or.inl ⟨h1, by omega, by omega⟩))))))))
theorem sq_182q1 (h1 : 6400 * 1 ≤ k) (h2 : k < 6400 * 1 + 6400) : sq_q1 182 k := Or.inr (Or.inr (Or.inr (Or.inr (Or.inr (Or.inr (Or.inr (Or.inr (Or.inr (Or.inl ⟨rfl, h1, h2⟩)))))))))
theorem sq_183q1 (h1 : 2408 * 1 ≤ k) (h2 : k < 2408 * 1 + 2408) : sq_q1 183 k := Or.inr (Or.inr (Or.inr (Or.inr (Or.inr (Or.inr (Or.inr (Or.inr (Or.inr (Or.inr (Or.inl ⟨rfl, h1, h2⟩))))))))))
theorem sq_184q1 : sq_q1 184 k := Or.inr (Or.inr (Or.inr (Or.inr (Or.inr (Or.inr (Or.inr (Or.inr (Or.inr (Or.inr (Or.inr (Or.inl rfl)))))))))))
theorem sq_187q1 {i : Nat} (h : i < 10) : sq_q1 187 (10 * 1 + i) := Or.inr (Or.inr (Or.inr (Or.inr (Or.inr (Or.inr (Or.inr (Or.inr (Or.inr (Or.inr (Or.inr (Or.inr ⟨rfl, by omega, by omega⟩)))))))))))
theorem fq_rfq1 : fq_q1 r r := fun _ _ _ => ⟨rfl, rfl⟩
theorem fq_diq1 (h : fq_q1 r r') (hs : sq_q1 a k) : fq_q1 r (ix_di r' a k v) := fun a' k' hn => ⟨by rw [up_1, if_neg (fun q => hn (by rw [q.1, q.2]; exact hs))]; exact (h a' k' hn).1, (h a' k' hn).2⟩
theorem fq_djq1 (h : fq_q1 r r') (hs : sq_q1 a k) : fq_q1 r (ix_dj r' a k w) := fun a' k' hn => ⟨(h a' k' hn).1, by rw [dj_2, if_neg (fun q => hn (by rw [q.1, q.2]; exact hs))]; exact (h a' k' hn).2⟩
theorem fq_bmq1 {y : Int32} (h : fq_q1 r r') (v0 : v.toInt ≠ 0) (v1 : -300 ≤ v.toInt) (v2 : v.toInt ≤ 300) (t0 : 0 ≤ (r'.1 174 1).toInt) (t1 : (r'.1 174 1).toInt < 300) : fq_q1 r (bm_q1 v y r') := by
  have nb := na_b v0 v1 v2
  have nt := ni_c t0
  unfold bm_q1
  exact fq_diq1 (fq_diq1 (fq_diq1 (fq_diq1 (fq_diq1 h (sq_nq1 (by omega) (by omega) nb.2.1)) (sq_nq1 (by omega) (by omega) nb.2.1)) (sq_nq1 (by omega) (by omega) nb.2.1)) (sq_tq1 (by omega))) (sq_qq1 (by omega))
/-- ints as there, longs but for sources -/
theorem fq_lgq1 {r3 : ix_D2} (h : fq_q1 r r') (e1 : r3.1 = r'.1) (e2 : ∀ a i, a ≠ 184 → (a ≠ 183 ∨ i < 2408 * 1 ∨ 2408 * 1 + 2408 ≤ i) → (a ≠ 182 ∨ i < 6400 * 1 ∨ 6400 * 1 + 6400 ≤ i) → r3.2 a i = r'.2 a i) : fq_q1 r r3 := fun a i hn => by
  have n4 : a ≠ 184 := fun e => hn (by rw [e]; exact sq_184q1)
  have n3 : a ≠ 183 ∨ i < 2408 * 1 ∨ 2408 * 1 + 2408 ≤ i := by
    by_cases e : a = 183
    · by_cases e2 : 2408 * 1 ≤ i ∧ i < 2408 * 1 + 2408
      · exact absurd (by rw [e]; exact sq_183q1 e2.1 e2.2) hn
      · omega
    · exact Or.inl e
  have n2 : a ≠ 182 ∨ i < 6400 * 1 ∨ 6400 * 1 + 6400 ≤ i := by
    by_cases e : a = 182
    · by_cases e2 : 6400 * 1 ≤ i ∧ i < 6400 * 1 + 6400
      · exact absurd (by rw [e]; exact sq_182q1 e2.1 e2.2) hn
      · omega
    · exact Or.inl e
  exact ⟨by rw [e1]; exact (h a i hn).1, by rw [e2 a i n4 n3 n2]; exact (h a i hn).2⟩
end SQC

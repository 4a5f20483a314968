/-! THE START of a run of calls -/
section STR
theorem lk_z {L : List (Nat × Nat × Nat × Int32)} {c : Nat} : ncD L c = true → ∀ k, lk_ L c k = 0 := by
  induction L with
  | nil => intro _ k; rfl
  | cons e L ih =>
    intro h k
    unfold ncD at h
    rw [List.all_cons, Bool.and_eq_true] at h
    have h1 : e.1 ≠ c := by simpa using h.1
    rw [lk_, if_neg (fun q => h1 q.1.symm)]
    exact ih h.2 k
theorem st_ly : ly_z (Zl zR_) := ⟨fun a _ => (ly_Kl a).symm, fun a k _ _ => (ly_Rl a k).symm, by show 199 ≤ lyKl.length; decide +kernel⟩
theorem st_0 {a : Nat} (h : ncD dR_l a = true) (k : Nat) : (Dl dR_l).1 a k = 0 := lk_z h k
theorem st_i {a k : Nat} {v : Int32} (h : (lk_ dR_l a k == v) = true) : (Dl dR_l).1 a k = v := by
  have : lk_ dR_l a k = v := by simpa using h
  exact this
theorem st_p : ∀ r : Fin 40, ((lk_ dR_l 128 r.val == -1005) && (lk_ dR_l 42 r.val == -1)) = true := by decide +kernel
theorem st_w : ∀ i : Fin 26, (lk_ dR_l 159 i.val == wd_.getD i.val 0) = true := by decide +kernel
theorem st_q : ∀ i : Fin 5, (lk_ dR_l 86 i.val == -1005) = true := by decide +kernel
theorem sm_z0 {f : Nat → Int} {a b : Nat} (h : ∀ i, f i = 0) : sm_ f a b = 0 := by
  induction b with
  | zero => first | rfl | (unfold sm_; rfl) | simp [sm_]
  | succ b ih => first | (rw [sm_, ih, h]; rfl) | (unfold sm_; simp [ih, h]) | (simp [sm_, ih, h])
theorem st_lt : lt_ (Dl dR_l) := by
  have z : ∀ {a : Nat}, ncD dR_l a = true → ∀ k, (Dl dR_l).1 a k = 0 := fun h k => st_0 h k
  have z0 : (0 : Int32).toInt = 0 := rfl
  have z61 := z (a := 61) (by decide +kernel)
  have z62 := z (a := 62) (by decide +kernel)
  have z64 := z (a := 64) (by decide +kernel)
  have z63 := z (a := 63) (by decide +kernel)
  have z161 := z (a := 161) (by decide +kernel)
  have z176 := z (a := 176) (by decide +kernel)
  have z177 := z (a := 177) (by decide +kernel)
  have z178 := z (a := 178) (by decide +kernel)
  have z179 := z (a := 179) (by decide +kernel)
  have z187 := z (a := 187) (by decide +kernel)
  have e85 : (Dl dR_l).1 85 0 = -1005 := st_i (by decide +kernel)
  have e166 : (Dl dR_l).1 166 0 = -1005 := st_i (by decide +kernel)
  have e85k : ∀ k, 1 ≤ k → (Dl dR_l).1 85 k = 0 := fun k hk => by
    show lk_ dR_l 85 k = 0
    unfold dR_l dW_l dC_l
    simp only [List.cons_append, List.nil_append, lk_]
    repeat (rw [if_neg (by omega)])
  have e14 : (Dl dR_l).1 0 14 = 0 := st_i (by decide +kernel)
  have e91 : (Dl dR_l).1 125 91 = 0 := st_i (by decide +kernel)
  have n5 : (-1005 : Int32).toInt = -1005 := rfl
  refine ⟨⟨⟨by rw [z62]; decide, by rw [z64]; rfl⟩, ⟨fun k hk => ?_, ?_, ?_, ?_, ?_⟩, fun _ => Or.inl ⟨by rw [e91]; rfl, fun i hi => ?_⟩, by rw [z61, z161], by rw [z161]; decide, by rw [z161]; decide, fun m h1 h2 => ?_⟩, by rw [e85, e166], fun h => ?_, fun h => ?_, fun h => ?_, 0, 0, by rw [z61]; rfl, by rw [z62]; decide, by rw [e85k 4 (by omega)]; rfl, by rw [z179]; rfl, by omega, by omega, by rw [z64]; decide, by rw [z64]; decide, fun k hk => ?_, fun k hk => by omega, fun p hp => ?_⟩
  · rw [e85k k (by unfold tt_ at hk; omega), z187]
  · rw [e85k 8 (by omega), z178]
  · rw [z179]; decide
  · rw [z179]; decide
  · rw [e85k 7 (by omega), z179]; rfl
  · have := st_q ⟨i, hi⟩
    have e : (Dl dR_l).1 86 i = -1005 := st_i this
    rw [e]; rfl
  · rw [z161, z0] at h2; omega
  · rw [e85, n5] at h; omega
  · rw [e14, z0] at h; omega
  · rw [e85, n5] at h; omega
  · rw [z176, z64, z64]; decide
  · rw [z176, z0] at hp; omega
theorem st_J : J_ 0 (Zl zR_) (Dl dR_l) := by
  have z : ∀ {a : Nat}, ncD dR_l a = true → ∀ k, (Dl dR_l).1 a k = 0 := fun h k => st_0 h k
  have z0 : (0 : Int32).toInt = 0 := rfl
  have i1 : ∀ {a k : Nat} {v : Int32}, (lk_ dR_l a k == v) = true → (Dl dR_l).1 a k = v := fun h => st_i h
  have e1 : (Dl dR_l).1 125 1 = 0 := i1 (by decide +kernel)
  have e8 : (Dl dR_l).1 125 8 = 0 := i1 (by decide +kernel)
  have e10 : (Dl dR_l).1 125 10 = 0 := i1 (by decide +kernel)
  have e11 : (Dl dR_l).1 125 11 = 0 := i1 (by decide +kernel)
  have e23 : (Dl dR_l).1 125 23 = 0 := i1 (by decide +kernel)
  have e27 : (Dl dR_l).1 125 27 = 0 := i1 (by decide +kernel)
  have e29 : (Dl dR_l).1 125 29 = 0 := i1 (by decide +kernel)
  have e4 : (Dl dR_l).1 125 4 = 0 := i1 (by decide +kernel)
  have e30 : (Dl dR_l).1 125 30 = 0 := i1 (by decide +kernel)
  have e31 : (Dl dR_l).1 125 31 = 0 := i1 (by decide +kernel)
  have e32 : (Dl dR_l).1 125 32 = 0 := i1 (by decide +kernel)
  have e59 : (Dl dR_l).1 125 59 = 0 := i1 (by decide +kernel)
  have e66 : (Dl dR_l).1 125 66 = 0 := i1 (by decide +kernel)
  have e108 : (Dl dR_l).1 125 108 = 0 := i1 (by decide +kernel)
  have e57 : (Dl dR_l).1 125 57 = 0 := i1 (by decide +kernel)
  have e58 : (Dl dR_l).1 125 58 = 0 := i1 (by decide +kernel)
  have e014 : (Dl dR_l).1 0 14 = 0 := i1 (by decide +kernel)
  have x17 : (Dl dR_l).1 0 17 = 0 := i1 (by decide +kernel)
  have x0 : (Dl dR_l).1 125 0 = 0 := i1 (by decide +kernel)
  have x13 : (Dl dR_l).1 0 13 = 0 := i1 (by decide +kernel)
  have x15 : (Dl dR_l).1 0 15 = 0 := i1 (by decide +kernel)
  have x5 : (Dl dR_l).1 0 5 = 0 := i1 (by decide +kernel)
  have x16 : (Dl dR_l).1 0 16 = -1005 := i1 (by decide +kernel)
  have x111 : (Dl dR_l).1 125 111 = -1005 := i1 (by decide +kernel)
  have z43 := z (a := 43) (by decide +kernel)
  have z44 := z (a := 44) (by decide +kernel)
  have z46 := z (a := 46) (by decide +kernel)
  have z51 := z (a := 51) (by decide +kernel)
  have z52 := z (a := 52) (by decide +kernel)
  have z54 := z (a := 54) (by decide +kernel)
  have z55 := z (a := 55) (by decide +kernel)
  have z56 := z (a := 56) (by decide +kernel)
  have z76 := z (a := 76) (by decide +kernel)
  have z78 := z (a := 78) (by decide +kernel)
  have z92 := z (a := 92) (by decide +kernel)
  have z94 := z (a := 94) (by decide +kernel)
  have z106 := z (a := 106) (by decide +kernel)
  have z108 := z (a := 108) (by decide +kernel)
  have z120 := z (a := 120) (by decide +kernel)
  have z122 := z (a := 122) (by decide +kernel)
  have z126 := z (a := 126) (by decide +kernel)
  have z127 := z (a := 127) (by decide +kernel)
  have z143 := z (a := 143) (by decide +kernel)
  have z145 := z (a := 145) (by decide +kernel)
  have z161 := z (a := 161) (by decide +kernel)
  have z196 := z (a := 196) (by decide +kernel)
  have nn0 : ix_n (0 : Int32) = 0 := rfl
  refine ⟨st_ly, ?_, ⟨?_, ?_, ?_⟩, ⟨?_, ?_⟩, ⟨?_, ?_, ?_, ?_, ?_, ?_⟩, fun i hi => ?_, ⟨?_, ?_, ?_, fun i hi => ?_⟩, ⟨?_, ?_, ?_, fun i hi => ?_⟩, ⟨⟨?_, ?_, ?_, ?_, fun k hk => ?_, fun p hp => ?_⟩, ?_, fun k hk => ?_, fun p hp => ?_⟩, ?_, ⟨?_, ?_, ?_, fun i hi => ?_⟩, ?_, ⟨⟨?_, ?_, ?_, ?_, fun k hk => ?_, fun p hp => ?_⟩, ?_, fun j hj => ?_, ?_, fun p hp => ?_⟩, ⟨⟨?_, ?_, ?_, ?_, fun k hk => ?_, fun p hp => ?_⟩, ?_, fun k hk => ?_, fun p hp => ?_⟩, ⟨?_, ?_, ?_, ?_⟩, ?_, st_lt, fun r hr => ?_, ⟨?_, ?_, ?_, fun i hi => ?_⟩, fun i hi => ?_, ⟨?_, ?_, ?_, fun i hi => ?_⟩, ?_, ⟨?_, ?_, ?_, fun i hi => ?_⟩, ?_, fun i hi => ?_, fun i c hi => ?_, fun i c hi => ?_, fun i j c e hij hj => ?_, ⟨?_, fun i hi => ?_⟩⟩
  all_goals first
    | (simp only [x17, x0, x13, x15, x5, x16, x111, e1, e8, e10, e11, e23, e27, e29, e4, e30, e31, e32, e59, e66, e108, e57, e58, e014, z43, z44, z46, z51, z52, z54, z55, z56, z76, z78, z92, z94, z106, z108, z120, z122, z126, z127, z143, z145, z161, z196, z0]; first | done | omega | exact Or.inl trivial | exact ⟨trivial, by omega, by omega⟩ | exact ⟨trivial, Or.inl trivial⟩)
    | (simp only [x17, x0, x13, x15, x5, x16, x111, e1, e8, e10, e11, e23, e27, e29, e4, e30, e31, e32, e59, e66, e108, e57, e58, e014, z43, z44, z46, z51, z52, z54, z55, z56, z76, z78, z92, z94, z106, z108, z120, z122, z126, z127, z143, z145, z161, z196, nn0, z0] at hi; omega)
    | (simp only [x17, x0, x13, x15, x5, x16, x111, e1, e8, e10, e11, e23, e27, e29, e4, e30, e31, e32, e59, e66, e108, e57, e58, e014, z43, z44, z46, z51, z52, z54, z55, z56, z76, z78, z92, z94, z106, z108, z120, z122, z126, z127, z143, z145, z161, z196, nn0, z0] at hk; omega)
    | (simp only [x17, x0, x13, x15, x5, x16, x111, e1, e8, e10, e11, e23, e27, e29, e4, e30, e31, e32, e59, e66, e108, e57, e58, e014, z43, z44, z46, z51, z52, z54, z55, z56, z76, z78, z92, z94, z106, z108, z120, z122, z126, z127, z143, z145, z161, z196, nn0, z0] at hp; omega)
    | (simp only [x17, x0, x13, x15, x5, x16, x111, e1, e8, e10, e11, e23, e27, e29, e4, e30, e31, e32, e59, e66, e108, e57, e58, e014, z43, z44, z46, z51, z52, z54, z55, z56, z76, z78, z92, z94, z106, z108, z120, z122, z126, z127, z143, z145, z161, z196, nn0, z0] at hj; omega)
    | omega
    | (show (Dl dR_l).1 0 17 = (Dl dR_l).1 125 0; rw [x17, x0])
    | (show (Dl dR_l).1 0 13 = (Dl dR_l).1 125 58; rw [x13, e58])
    | (show (Dl dR_l).1 0 15 = (Dl dR_l).1 125 59; rw [x15, e59])
    | (show (Dl dR_l).1 0 16 = (Dl dR_l).1 125 111; rw [x16, x111])
    | (show (Dl dR_l).1 51 10 = 0; exact z51 _)
    | (rw [e4, z0]; exact (sm_z0 (fun i => by rw [z127]; rfl)).symm)
    | (have q := st_p ⟨r, hr⟩; rw [Bool.and_eq_true] at q; have q1 : (Dl dR_l).1 128 r = -1005 := st_i q.1; have q2 : (Dl dR_l).1 42 r = -1 := st_i q.2; exact Or.inl ⟨by rw [q1]; rfl, by rw [q2]; rfl⟩)
    | exact st_i (st_w ⟨i, hi⟩)
    | skip
end STR

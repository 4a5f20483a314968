theorem ix_up_ne {α : Type} {f : Nat → Nat → α} {a k b : Nat} {v : α} (h : b ≠ a) : ix_up f a k v b = f b := by
  funext k'
  simp [ix_up, h]
theorem ix_up_self {α : Type} {f : Nat → Nat → α} {a k : Nat} {v : α} : ix_up f a k v a k = v := by simp [ix_up]
theorem ix_up_k {α : Type} {f : Nat → Nat → α} {a k k' : Nat} {v : α} (h : k' ≠ k) : ix_up f a k v a k' = f a k' := by simp [ix_up, h]
theorem ix_e_congr {K : ix_Cx} {w w' : ix_W} {b : Nat} (h1 : w'.1 b = w.1 b) (h2 : w'.2.1 b = w.2.1 b) (h3 : w'.2.2.1 b = w.2.2.1 b) (h4 : ix_T w' b = ix_T w b) : ix_e K w' b = ix_e K w b := by
  simp only [ix_e, ix_fs, ix_fv, ix_c, h1, h2, h3, h4]
theorem ix_set {K : ix_Cx} {w w' : ix_W} {a : Nat} (ha : a < ix_N w) (hN : ix_N w' = ix_N w) (hE : ∀ b, b ≠ a → ix_e K w' b = ix_e K w b) : (ix_ws K w).set a (K.2.2.1 + a, ix_e K w' a) = ix_ws K w' := by
  apply List.ext_getElem?
  intro i
  by_cases hi : i < ix_N w
  · rw [ix_at (w := w') (by rw [hN]; exact hi)]
    by_cases h : i = a
    · subst h
      rw [List.getElem?_set_self (by rw [ix_len]; exact hi)]
    · rw [List.getElem?_set_ne (Ne.symm h), ix_at hi, hE i h]
  · rw [List.getElem?_eq_none (by rw [List.length_set, ix_len]; omega), List.getElem?_eq_none (by rw [ix_len, hN]; omega)]
theorem ix_fset {K : ix_Cx} {w w' : ix_W} {a k n : Nat} {g : Nat → String} {v : Value} (hk : k < n) (h1 : ix_fv K w' a (g k) k = v) (h2 : ∀ j, j ≠ k → ix_fv K w' a (g j) j = ix_fv K w a (g j) j) : ((List.range n).map (fun j => ix_fv K w a (g j) j)).set k v = (List.range n).map (fun j => ix_fv K w' a (g j) j) := by
  apply List.ext_getElem?
  intro i
  by_cases hi : i < n
  · by_cases h : i = k
    · subst h
      rw [List.getElem?_set_self (by simpa using hi)]
      simp [hi, h1]
    · rw [List.getElem?_set_ne (Ne.symm h)]
      simp [hi, h2 i h]
  · rw [List.getElem?_eq_none (by simp; omega), List.getElem?_eq_none (by simp; omega)]
theorem ix_oset {K : ix_Cx} {w w' : ix_W} {a k ci : Nat} {r : vw_C} {v : Value} (ha : a < ix_N w) (hN : ix_N w' = ix_N w) (hE : ∀ b, b ≠ a → ix_e K w' b = ix_e K w b) (hT : ix_T w' a = ix_T w a) (hc : (ix_T w a).1 = ci) (hci : ci < 20) (hr : ix_cl[ci]? = some r) (hk : k < r.2.2)
    (h1 : ix_fv K w' a (r.2.1 k).2.2.1 k = v) (h2 : ∀ j, j ≠ k → ix_fv K w' a (r.2.1 j).2.2.1 j = ix_fv K w a (r.2.1 j).2.2.1 j) :
    (ix_ws K w).set a (K.2.2.1 + a, .inr (ci, ((List.range r.2.2).map (fun j => ix_fv K w a (r.2.1 j).2.2.1 j)).set k v)) = ix_ws K w' := by
  rw [← ix_set ha hN hE, ix_eo (hT ▸ hc) hci hr, ix_fset (g := fun j => (r.2.1 j).2.2.1) hk h1 h2]
theorem ix_wm {i : Nat} {w : Cond} (h : tables_1[i]? = some w) : w ∈ lw_tbl := List.mem_append_right _ (List.mem_of_getElem? h)
/-- which words a getfield or putfield needs: its link, over each class in cs, field k, of type t (0 int, 1 long, 2 reference), fin: final -/
def ix_flb (pl ps : Nat) (nest : Bool) (own : String) (idx : Nat) (ref : String) (cs : List Nat) (k t : Nat) : Bool := cs.all (fun ci => decide (ci < 20) && match ix_cl[ci]? with
  | none => false
  | some r => decide (k < r.2.2) && decide (ix_ft (r.2.1 k).2.2.1 = t) && (if nest then decide (tables_1[pl]? = some (Cond.fieldLinkNest own idx ref (r.2.1 k).2.1 (r.2.1 k).2.2.1 "ClauseCourt")) else decide (tables_1[pl]? = some (Cond.fieldLink own idx ref (r.2.1 k).2.1 (r.2.1 k).2.2.1))) && (decide (ref = (r.2.1 k).1) || decide (tables_1[ps]? = some (Cond.sameField ref (r.2.1 k).1 (r.2.1 k).2.1 (r.2.1 k).2.2.1))))
theorem ix_flb_spec {pl ps : Nat} {nest : Bool} {own : String} {idx : Nat} {ref : String} {cs : List Nat} {k t ci : Nat} (h : ix_flb pl ps nest own idx ref cs k t = true) (hc : ci ∈ cs) : ci < 20 ∧ ∃ r, ix_cl[ci]? = some r ∧ k < r.2.2 ∧ ix_ft (r.2.1 k).2.2.1 = t ∧ (nest = false → Cond.fieldLink own idx ref (r.2.1 k).2.1 (r.2.1 k).2.2.1 ∈ lw_tbl) ∧ (nest = true → Cond.fieldLinkNest own idx ref (r.2.1 k).2.1 (r.2.1 k).2.2.1 "ClauseCourt" ∈ lw_tbl) ∧ (ref = (r.2.1 k).1 ∨ Cond.sameField ref (r.2.1 k).1 (r.2.1 k).2.1 (r.2.1 k).2.2.1 ∈ lw_tbl) := by
  have h1 := List.all_eq_true.mp h ci hc
  rw [Bool.and_eq_true] at h1
  refine ⟨of_decide_eq_true h1.1, ?_⟩
  have h2 := h1.2
  cases hr : ix_cl[ci]? with
  | none => rw [hr] at h2; cases h2
  | some r =>
    rw [hr] at h2
    simp only [Bool.and_eq_true, Bool.or_eq_true, decide_eq_true_eq] at h2
    obtain ⟨⟨⟨a1, a2⟩, a3⟩, a4⟩ := h2
    refine ⟨r, rfl, a1, a2, fun hn => ?_, fun hn => ?_, a4.imp id ix_wm⟩
    · rw [hn] at a3; exact ix_wm (by simpa using a3)
    · rw [hn] at a3; exact ix_wm (by simpa using a3)
theorem ix_in0 : ∀ j, j < 4 → tables_1[([643,644,645,641] : List Nat).getD j 0]? = some (u_lay RX0 TX0 j) := by decide +kernel
theorem ix_in1 : ∀ j, j < 17 → tables_1[([235,237,239,241,243,245,247,249,251,253,255,257,259,261,263,265,267] : List Nat).getD j 0]? = some (u_lay RX1 TX1 j) := by decide +kernel
theorem ix_in2 : ∀ j, j < 12 → tables_1[([158,160,162,164,166,168,170,172,174,176,178,180] : List Nat).getD j 0]? = some (u_lay RX2 TX2 j) := by decide +kernel
theorem ix_in3 : ∀ j, j < 3 → tables_1[([522,524,526] : List Nat).getD j 0]? = some (u_lay RX3 TX3 j) := by decide +kernel
theorem ix_in4 : ∀ j, j < 17 → tables_1[([63,65,67,69,71,73,75,77,79,81,83,85,87,89,91,93,95] : List Nat).getD j 0]? = some (u_lay RX4 TX4 j) := by decide +kernel
theorem ix_in5 : ∀ j, j < 4 → tables_1[([658,659,660,657] : List Nat).getD j 0]? = some (u_lay RX5 TX5 j) := by decide +kernel
theorem ix_in6 : ∀ j, j < 4 → tables_1[([675,676,677,673] : List Nat).getD j 0]? = some (u_lay RX6 TX6 j) := by decide +kernel
theorem ix_in7 : ∀ j, j < 3 → tables_1[([124,126,128] : List Nat).getD j 0]? = some (u_lay RX7 TX7 j) := by decide +kernel
theorem ix_in8 : ∀ j, j < 20 → tables_1[([301,303,305,307,309,311,313,315,317,319,321,323,325,327,329,331,333,335,337,339] : List Nat).getD j 0]? = some (u_lay RX9 TX9 j) := by decide +kernel
theorem ix_in9 : ∀ j, j < 6 → tables_1[([834,835,836,828,830,832] : List Nat).getD j 0]? = some (u_lay RX10 TX10 j) := by decide +kernel
theorem ix_in10 : ∀ j, j < 18 → tables_1[([363,365,367,369,371,373,375,377,379,381,383,385,387,389,391,393,395,397] : List Nat).getD j 0]? = some (u_lay RX11 TX11 j) := by decide +kernel
theorem ix_in11 : ∀ j, j < 116 → tables_1[([1680,1682,1684,1686,1688,1690,1692,1694,1696,1698,1700,1702,1704,1706,1708,1710,1712,1714,1716,1718,1720,1722,1724,1726,1728,1730,1732,1734,1736,1738,1740,1742,1744,1746,1748,1750,1752,1754,1756,1758,1760,1762,1764,1766,1768,1770,1772,1774,1776,1778,1780,1782,1784,1786,1788,1790,1792,1794,1796,1798,1800,1802,1804,1806,1808,1810,1812,1814,1816,1818,1820,1822,1824,1826,1828,1830,1832,1834,1836,1838,1840,1842,1844,1846,1848,1850,1852,1854,1856,1858,1860,1862,1864,1866,1868,1870,1872,1874,1876,1878,1880,1882,1884,1886,1888,1890,1892,1894,1896,1898,1900,1902,1904,1906,1908,1910] : List Nat).getD j 0]? = some (u_lay RX12 TX12 j) := by decide +kernel
theorem ix_lg {C : String} {T : u_T} {k : Nat} : goodWord (u_lay C T k) = true := by
  unfold u_lay
  split <;> rfl
theorem ix_in_of {C : String} {T : u_T} {N : Nat} {f : Nat → Nat} (h : ∀ j, j < N → tables_1[f j]? = some (u_lay C T j)) : ∀ w ∈ u_ws C T N, w ∈ lw_tbl ∧ goodWord w = true := by
  intro w hw
  obtain ⟨j, hj, rfl⟩ := List.mem_map.mp hw
  exact ⟨ix_wm (h j (List.mem_range.mp hj)), ix_lg⟩
theorem ix_in : ∀ r ∈ ix_cl, ∀ w ∈ u_ws r.1 r.2.1 r.2.2, w ∈ lw_tbl ∧ goodWord w = true := by
  intro r hr
  simp only [ix_cl, List.mem_cons, List.not_mem_nil, or_false] at hr
  rcases hr with rfl | rfl | rfl | rfl | rfl | rfl | rfl | rfl | rfl | rfl | rfl | rfl
  · exact ix_in_of ix_in0
  · exact ix_in_of ix_in1
  · exact ix_in_of ix_in2
  · exact ix_in_of ix_in3
  · exact ix_in_of ix_in4
  · exact ix_in_of ix_in5
  · exact ix_in_of ix_in6
  · exact ix_in_of ix_in7
  · exact ix_in_of ix_in8
  · exact ix_in_of ix_in9
  · exact ix_in_of ix_in10
  · exact ix_in_of ix_in11
theorem ix_nm : ∀ r ∈ ix_cl, ∀ a, a < r.2.2 → ∀ b, b < r.2.2 → a ≠ b → (r.2.1 a).2.1 ≠ (r.2.1 b).2.1 := by
  intro r hr
  simp only [ix_cl, List.mem_cons, List.not_mem_nil, or_false] at hr
  rcases hr with rfl | rfl | rfl | rfl | rfl | rfl | rfl | rfl | rfl | rfl | rfl | rfl
  · exact nmX0
  · exact nmX1
  · exact nmX2
  · exact nmX3
  · exact nmX4
  · exact nmX5
  · exact nmX6
  · exact nmX7
  · exact nmX9
  · exact nmX10
  · exact nmX11
  · exact nmX12
theorem ix_ty : ∀ r ∈ ix_cl, ∃ ty : Nat → FieldType, ∀ k, k < r.2.2 → parseFieldDescriptor (r.2.1 k).2.2.1 = some (ty k) := by
  intro r hr
  simp only [ix_cl, List.mem_cons, List.not_mem_nil, or_false] at hr
  rcases hr with rfl | rfl | rfl | rfl | rfl | rfl | rfl | rfl | rfl | rfl | rfl | rfl
  · exact ⟨_, tyX0_ok⟩
  · exact ⟨_, tyX1_ok⟩
  · exact ⟨_, tyX2_ok⟩
  · exact ⟨_, tyX3_ok⟩
  · exact ⟨_, tyX4_ok⟩
  · exact ⟨_, tyX5_ok⟩
  · exact ⟨_, tyX6_ok⟩
  · exact ⟨_, tyX7_ok⟩
  · exact ⟨_, tyX9_ok⟩
  · exact ⟨_, tyX10_ok⟩
  · exact ⟨_, tyX11_ok⟩
  · exact ⟨_, tyX12_ok⟩
theorem ix_tbm {w : Cond} (h : w ∈ lw_tbl) (h1 : goodWord w = true) : w ∈ ix_tb := List.mem_filter.mpr ⟨h, h1⟩
theorem ix_ntm {w : Cond} (h : w ∈ lw_tbl) (h1 : ix_isn w = true) : w ∈ ix_nt := List.mem_filter.mpr ⟨h, h1⟩
section IXR
variable {p : Program} {l : Launch} {e : Env} {R : Room} {s : State} {m : MethodId} {args : Array Value} {below : List Frame} {meth : Method} {c : Code} {Q : State → Prop} {K : ix_Cx} {nL k n : Nat} {cc : ByteArray} {own : String} {pc : Nat} {L : List (Nat × Value)} {S : List Value} {w : ix_W}
theorem ix_hsame {ref O f d : String} (hts : ∀ w ∈ ix_tb, w.before args s = true) (h : ref = O ∨ Cond.sameField ref O f d ∈ lw_tbl) : ∀ x, s.fieldFound? O f d = some x → s.fieldFound? ref f d = some x := by
  intro x hx
  rcases h with rfl | h
  · exact hx
  · exact u_same (hts _ (ix_tbm h rfl)) x hx
/-- the field's value, whatever its type -/
theorem ix_get0 (X : ix_X p s m args c K cc own nL) {pl ps : Nat} {nest : Bool} {a idx kf t : Nat} {ref : String} {cs : List Nat} (hf : ix_flb pl ps nest own idx ref cs kf t = true) (hc : a < ix_N w ∧ (ix_T w a).1 ∈ cs) (hd : decode cc pc = .ok (.getfield idx, 3)) {v : Value} (hv : ∀ d, ix_ft d = t → ix_fv K w a d kf = v)
    {pc1 : Nat} (hp : pc + 3 = pc1) (kk : ix_G p l e R s m args below meth c Q K nL k n pc1 L (v :: S) w) : ix_G p l e R s m args below meth c Q K nL k n pc L (.ref (K.2.2.1 + a) :: S) w := by
  subst hp
  intro H locs ls hP hz hS hl
  obtain ⟨hx, hb, hml, hown, hts, hO, hN0, hKp⟩ := X
  obtain ⟨hci, r, hr, hk, ht, hl1, hl2, hsm⟩ := ix_flb_spec hf hc.2
  have hrm := List.mem_of_getElem? hr
  have he : (ix_ws K w)[a]? = some (K.2.2.1 + a, .inr ((ix_T w a).1, (List.range r.2.2).map (fun k => ix_fv K w a (r.2.1 k).2.2.1 k))) := by rw [ix_at hc.1, ix_eo rfl hci hr]
  have hv2 : ((List.range r.2.2).map (fun k => ix_fv K w a (r.2.1 k).2.2.1 k))[kf]? = some v := by simp [hk, hv _ ht]
  cases nest with
  | false => exact va_get hx hb hts (fun w hw => ix_tbm (ix_in r hrm w hw).1 (ix_in r hrm w hw).2) hown hO.1 hP a he hr kf hk (hts _ (ix_tbm (hl1 rfl) rfl)) (ix_hsame hts hsm) hv2 hd (kk H locs ls hP hz hS hl)
  | true => exact va_getN hx hb hts (fun w hw => ix_tbm (ix_in r hrm w hw).1 (ix_in r hrm w hw).2) hown hO.1 hP a he hr kf hk (va_Nw.use rfl (hO.2.1 _ (ix_ntm (hl2 rfl) rfl))) (ix_hsame hts hsm) hv2 hd (kk H locs ls hP hz hS hl)
theorem ix_getI (X : ix_X p s m args c K cc own nL) {pl ps : Nat} {nest : Bool} {a idx kf : Nat} {ref : String} {cs : List Nat} (hf : ix_flb pl ps nest own idx ref cs kf 0 = true) (hc : a < ix_N w ∧ (ix_T w a).1 ∈ cs) (hd : decode cc pc = .ok (.getfield idx, 3))
    {pc1 : Nat} (hp : pc + 3 = pc1) (kk : ix_G p l e R s m args below meth c Q K nL k n pc1 L (.int (w.1 a kf) :: S) w) : ix_G p l e R s m args below meth c Q K nL k n pc L (.ref (K.2.2.1 + a) :: S) w := by
  subst hp
  exact ix_get0 X hf hc hd (fun d h => by simp [ix_fv, h]) rfl kk
theorem ix_getJ (X : ix_X p s m args c K cc own nL) {pl ps : Nat} {nest : Bool} {a idx kf : Nat} {ref : String} {cs : List Nat} (hf : ix_flb pl ps nest own idx ref cs kf 1 = true) (hc : a < ix_N w ∧ (ix_T w a).1 ∈ cs) (hd : decode cc pc = .ok (.getfield idx, 3))
    {pc1 : Nat} (hp : pc + 3 = pc1) (kk : ix_G p l e R s m args below meth c Q K nL k n pc1 L (.long (w.2.1 a kf) :: S) w) : ix_G p l e R s m args below meth c Q K nL k n pc L (.ref (K.2.2.1 + a) :: S) w := by
  subst hp
  exact ix_get0 X hf hc hd (fun d h => by simp [ix_fv, h]) rfl kk
theorem ix_getR (X : ix_X p s m args c K cc own nL) {pl ps : Nat} {nest : Bool} {a idx kf b : Nat} {ref : String} {cs : List Nat} (hf : ix_flb pl ps nest own idx ref cs kf 2 = true) (hc : a < ix_N w ∧ (ix_T w a).1 ∈ cs) (hr : w.2.2.1 a kf = some b) (hd : decode cc pc = .ok (.getfield idx, 3))
    {pc1 : Nat} (hp : pc + 3 = pc1) (kk : ix_G p l e R s m args below meth c Q K nL k n pc1 L (.ref (K.2.2.1 + b) :: S) w) : ix_G p l e R s m args below meth c Q K nL k n pc L (.ref (K.2.2.1 + a) :: S) w := by
  subst hp
  exact ix_get0 X hf hc hd (fun d h => by simp [ix_fv, h, ix_rv, hr, va_rf]) rfl kk
end IXR

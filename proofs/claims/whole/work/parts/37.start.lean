/-! THE START: classes, array classes, texts, statics; what is known of them stays -/
theorem st_u {C : String} {T : u_T} {N : Nat} {pl : List Nat} (h : ∀ k, k < N → tables_1[pl.getD k 0]? = some (u_lay C T k)) : ∀ w ∈ u_ws C T N, w ∈ lw_tbl := by
  intro w hw
  obtain ⟨k, hk, rfl⟩ := List.mem_map.mp hw
  exact ix_wm (h k (List.mem_range.mp hk))
theorem st_p0 : ∀ k, k < 4 → tables_1[([643, 644, 645, 641] : List Nat).getD k 0]? = some (u_lay RX0 TX0 k) := by decide +kernel
theorem st_p1 : ∀ k, k < 17 → tables_1[([235, 237, 239, 241, 243, 245, 247, 249, 251, 253, 255, 257, 259, 261, 263, 265, 267] : List Nat).getD k 0]? = some (u_lay RX1 TX1 k) := by decide +kernel
theorem st_p2 : ∀ k, k < 12 → tables_1[([158, 160, 162, 164, 166, 168, 170, 172, 174, 176, 178, 180] : List Nat).getD k 0]? = some (u_lay RX2 TX2 k) := by decide +kernel
theorem st_p3 : ∀ k, k < 3 → tables_1[([522, 524, 526] : List Nat).getD k 0]? = some (u_lay RX3 TX3 k) := by decide +kernel
theorem st_p4 : ∀ k, k < 17 → tables_1[([63, 65, 67, 69, 71, 73, 75, 77, 79, 81, 83, 85, 87, 89, 91, 93, 95] : List Nat).getD k 0]? = some (u_lay RX4 TX4 k) := by decide +kernel
theorem st_p5 : ∀ k, k < 4 → tables_1[([658, 659, 660, 657] : List Nat).getD k 0]? = some (u_lay RX5 TX5 k) := by decide +kernel
theorem st_p6 : ∀ k, k < 4 → tables_1[([675, 676, 677, 673] : List Nat).getD k 0]? = some (u_lay RX6 TX6 k) := by decide +kernel
theorem st_p7 : ∀ k, k < 3 → tables_1[([124, 126, 128] : List Nat).getD k 0]? = some (u_lay RX7 TX7 k) := by decide +kernel
theorem st_p8 : ∀ k, k < 20 → tables_1[([301, 303, 305, 307, 309, 311, 313, 315, 317, 319, 321, 323, 325, 327, 329, 331, 333, 335, 337, 339] : List Nat).getD k 0]? = some (u_lay RX9 TX9 k) := by decide +kernel
theorem st_p9 : ∀ k, k < 6 → tables_1[([834, 835, 836, 828, 830, 832] : List Nat).getD k 0]? = some (u_lay RX10 TX10 k) := by decide +kernel
theorem st_p10 : ∀ k, k < 18 → tables_1[([363, 365, 367, 369, 371, 373, 375, 377, 379, 381, 383, 385, 387, 389, 391, 393, 395, 397] : List Nat).getD k 0]? = some (u_lay RX11 TX11 k) := by decide +kernel
theorem st_p11 : ∀ k, k < 116 → tables_1[([1680, 1682, 1684, 1686, 1688, 1690, 1692, 1694, 1696, 1698, 1700, 1702, 1704, 1706, 1708, 1710, 1712, 1714, 1716, 1718, 1720, 1722, 1724, 1726, 1728, 1730, 1732, 1734, 1736, 1738, 1740, 1742, 1744, 1746, 1748, 1750, 1752, 1754, 1756, 1758, 1760, 1762, 1764, 1766, 1768, 1770, 1772, 1774, 1776, 1778, 1780, 1782, 1784, 1786, 1788, 1790, 1792, 1794, 1796, 1798, 1800, 1802, 1804, 1806, 1808, 1810, 1812, 1814, 1816, 1818, 1820, 1822, 1824, 1826, 1828, 1830, 1832, 1834, 1836, 1838, 1840, 1842, 1844, 1846, 1848, 1850, 1852, 1854, 1856, 1858, 1860, 1862, 1864, 1866, 1868, 1870, 1872, 1874, 1876, 1878, 1880, 1882, 1884, 1886, 1888, 1890, 1892, 1894, 1896, 1898, 1900, 1902, 1904, 1906, 1908, 1910] : List Nat).getD k 0]? = some (u_lay RX12 TX12 k) := by decide +kernel
section STA
variable {s : State} {args : Array Value}
theorem st_cl (hts : ∀ w ∈ lw_tbl, w.before args s = true) : ∃ G : va_G, ∀ (k : Nat) (q : vw_C), ix_cl[k]? = some q → u_Kn s q.1 q.2.1 q.2.2 (G.1 k) (G.2 k) := by
  have h : ∀ k : Nat, ∃ g : ClassId × (Nat → Nat), ∀ q : vw_C, ix_cl[k]? = some q → u_Kn s q.1 q.2.1 q.2.2 g.1 g.2 := by
    intro k
    match k with
    | 0 =>
      obtain ⟨c, f, hk⟩ := u_known (C := RX0) (T := TX0) (N := 4) (n := 4) hts (st_u st_p0) (hts _ (ix_wm (i := 633) (w := .instantiable RX0 4) (by decide +kernel)))
      exact ⟨(c, f), fun q hq => by cases hq; exact hk⟩
    | 1 =>
      obtain ⟨c, f, hk⟩ := u_known (C := RX1) (T := TX1) (N := 17) (n := 17) hts (st_u st_p1) (hts _ (ix_wm (i := 193) (w := .instantiable RX1 17) (by decide +kernel)))
      exact ⟨(c, f), fun q hq => by cases hq; exact hk⟩
    | 2 =>
      obtain ⟨c, f, hk⟩ := u_known (C := RX2) (T := TX2) (N := 12) (n := 12) hts (st_u st_p2) (hts _ (ix_wm (i := 101) (w := .instantiable RX2 12) (by decide +kernel)))
      exact ⟨(c, f), fun q hq => by cases hq; exact hk⟩
    | 3 =>
      obtain ⟨c, f, hk⟩ := u_known (C := RX3) (T := TX3) (N := 3) (n := 3) hts (st_u st_p3) (hts _ (ix_wm (i := 483) (w := .instantiable RX3 3) (by decide +kernel)))
      exact ⟨(c, f), fun q hq => by cases hq; exact hk⟩
    | 4 =>
      obtain ⟨c, f, hk⟩ := u_known (C := RX4) (T := TX4) (N := 17) (n := 17) hts (st_u st_p4) (hts _ (ix_wm (i := 35) (w := .instantiable RX4 17) (by decide +kernel)))
      exact ⟨(c, f), fun q hq => by cases hq; exact hk⟩
    | 5 =>
      obtain ⟨c, f, hk⟩ := u_known (C := RX5) (T := TX5) (N := 4) (n := 4) hts (st_u st_p5) (hts _ (ix_wm (i := 652) (w := .instantiable RX5 4) (by decide +kernel)))
      exact ⟨(c, f), fun q hq => by cases hq; exact hk⟩
    | 6 =>
      obtain ⟨c, f, hk⟩ := u_known (C := RX6) (T := TX6) (N := 4) (n := 4) hts (st_u st_p6) (hts _ (ix_wm (i := 667) (w := .instantiable RX6 4) (by decide +kernel)))
      exact ⟨(c, f), fun q hq => by cases hq; exact hk⟩
    | 7 =>
      obtain ⟨c, f, hk⟩ := u_known (C := RX7) (T := TX7) (N := 3) (n := 3) hts (st_u st_p7) (hts _ (ix_wm (i := 107) (w := .instantiable RX7 3) (by decide +kernel)))
      exact ⟨(c, f), fun q hq => by cases hq; exact hk⟩
    | 8 =>
      obtain ⟨c, f, hk⟩ := u_known (C := RX9) (T := TX9) (N := 20) (n := 20) hts (st_u st_p8) (hts _ (ix_wm (i := 187) (w := .instantiable RX9 20) (by decide +kernel)))
      exact ⟨(c, f), fun q hq => by cases hq; exact hk⟩
    | 9 =>
      obtain ⟨c, f, hk⟩ := u_known (C := RX10) (T := TX10) (N := 6) (n := 6) hts (st_u st_p9) (hts _ (ix_wm (i := 604) (w := .instantiable RX10 6) (by decide +kernel)))
      exact ⟨(c, f), fun q hq => by cases hq; exact hk⟩
    | 10 =>
      obtain ⟨c, f, hk⟩ := u_known (C := RX11) (T := TX11) (N := 18) (n := 18) hts (st_u st_p10) (hts _ (ix_wm (i := 25) (w := .instantiable RX11 18) (by decide +kernel)))
      exact ⟨(c, f), fun q hq => by cases hq; exact hk⟩
    | 11 =>
      obtain ⟨c, f, hk⟩ := u_known (C := RX12) (T := TX12) (N := 116) (n := 116) hts (st_u st_p11) (hts _ (ix_wm (i := 1559) (w := .instantiable RX12 116) (by decide +kernel)))
      exact ⟨(c, f), fun q hq => by cases hq; exact hk⟩
    | k + 12 => exact ⟨(0, fun _ => 0), fun q hq => by simp [ix_cl] at hq⟩
  obtain ⟨g, hg⟩ := Classical.axiomOfChoice h
  exact ⟨(fun k => (g k).1, fun k => (g k).2), fun k q hq => hg k q hq⟩
theorem st_ar {ty : FieldType} (h : (Cond.arrayClass ty).before args s = true) : ∃ cA : ClassId, ArrOfT s cA ty ∧ s.vm.findClass ("[" ++ ty.toString) = some cA := by
  obtain ⟨c, k, comp, h1, h2, h3⟩ := Cond.arrayClass_spec h
  exact ⟨c, fun n z => ⟨(fun k h => by cases h), k, h2, comp, h3⟩, h1⟩
theorem st_ao {C : String} (h : (Cond.arrayOver (.object C)).before args s = true) : ∃ cA : ClassId, ArrOfT s cA (.object C) ∧ va_RA s cA (.object C) := by
  obtain ⟨comp, c, k, h1, -, h3, h4, h5⟩ := Cond.arrayOver_spec h
  exact ⟨c, fun n z => ⟨(fun k h => by cases h), k, h3, comp, h4⟩, k, comp, h3, h4, h1, h5⟩
theorem st_over {U : State} (h : (Cond.arrayOver (.array .int)).before #[] U = true) : ∃ comp c k, U.vm.findClass (FieldType.array .int).toString = some comp ∧ (U.vm.classes.findIdx? fun (x : Class) => match x.kind with | .array component _ => component == comp | _ => false) = some c ∧ U.vm.classes[c]? = some k ∧ k.kind = .array comp (.array .int) ∧ U.vm.findClass ("[" ++ (FieldType.array .int).toString) = some c := by
  have h : (Cond.arrayOver (.array .int)).holds #[] U none U [] = true := h
  simp only [Cond.holds, Cond.value, beq_iff_eq] at h
  cases hc : U.vm.findClass (FieldType.array .int).toString with
  | none => simp [hc] at h
  | some comp =>
    simp only [hc, Option.bind_some, Option.bind_eq_some_iff, Option.map_eq_some_iff] at h
    obtain ⟨c, hi, k, hk, hb⟩ := h
    obtain ⟨hlt, hp, -⟩ := Array.findIdx?_eq_some_iff_getElem.mp hi
    have hkk : U.vm.classes[c] = k := (Array.getElem?_eq_some_iff.mp hk).2
    rw [hkk] at hp
    cases hkind : k.kind with
    | array component ty =>
      rw [hkind] at hb hp
      simp at hb hp
      exact ⟨comp, c, k, rfl, hi, hk, by rw [hkind, hp, hb.1], hb.2⟩
    | _ => rw [hkind] at hb; simp at hb
theorem st_overm {u U : State} (hvm : u.vm.Alike U.vm) (h : (Cond.arrayOver (.array .int)).before #[] u = true) : (Cond.arrayOver (.array .int)).before #[] U = true := by
  obtain ⟨comp, c, k, h1, h2, h3, h4, h5⟩ := st_over h
  obtain ⟨k', hk', he⟩ := hvm.2.2 _ _ h3
  have hi : (U.vm.classes.findIdx? fun (x : Class) => match x.kind with | .array component _ => component == comp | _ => false) = some c := by
    have q1 := va_idx_bare U.vm comp
    have q2 := va_idx_bare u.vm comp
    first | rw [hvm.bare_eq] at q2 | rw [← hvm.bare_eq] at q2
    exact q1.symm.trans (q2.trans h2)
  have hkind : k'.kind = .array comp (.array .int) := by rw [he]; exact h4
  have f1 : U.vm.findClass (FieldType.array .int).toString = some comp := by rw [hvm.findClass]; exact h1
  have f2 : U.vm.findClass ("[" ++ (FieldType.array .int).toString) = some c := by rw [hvm.findClass]; exact h5
  unfold Cond.before Cond.holds
  simp only [Cond.value]
  rw [f1, Option.bind_some]
  refine (congrArg (fun o : Option Nat => (o.bind (fun c => (U.vm.classes[c]?).map fun (k : Class) => match k.kind with | .array _ ty => decide (ty = FieldType.array .int) && decide (U.vm.findClass ("[" ++ (FieldType.array .int).toString) = some c) | _ => false) == some true)) hi).trans ?_
  simp [hk', hkind, f2]
def st_P (G : va_G) (f : Nat → ClassId) (N : Nat) (U : State) : Prop := ix_F U ∧ ix_Tx (G, f, N, fun _ => True) U
theorem st_Kp {G : va_G} {f : Nat → ClassId} {N : Nat} : ix_Kp (G, f, N, st_P G f N) := by
  intro s U hW hq h
  obtain ⟨⟨f1, f2, f3⟩, t1, t2, t3, t4⟩ := h
  have hq' : ∀ a : Nat, a < s.heap.size → ¬ (fun q => N ≤ q) a → U.heap[a]? = s.heap[a]? := fun a _ h => hq a (Nat.lt_of_not_le h)
  exact ⟨⟨va_AO.moved hW.alike f1, fun q hq => va_Nc.moved hW.alike (f2 q hq), st_overm hW.alike f3⟩, (t1.moved hW.alike).kept hq', fun j q hj => vk_R.warm hW (t2 j q hj), (t3.moved hW.alike).kept hq', (t4.moved hW.alike).kept hq'⟩
def st_tm (i : Nat) : Term := Term.string (ix_sown.getD i ("", 0, "")).1 (ix_sown.getD i ("", 0, "")).2.1
def st_fl : List Cond := flatC (Jvm.Cond.and given_1 narrow_1)
theorem st_e1 : ∀ i, i < 6 → Cond.exactly (st_tm i) "java/lang/String" ∈ st_fl := by decide +kernel
theorem st_e2 : ∀ i, i < 6 → Cond.eq (.field (st_tm i) "java/lang/String" "coder" "B") (.int 0) ∈ st_fl := by decide +kernel
theorem st_e3 : ∀ i, i < 6 → Cond.arrayOf (.field (st_tm i) "java/lang/String" "value" "[B") .byte ∈ st_fl := by decide +kernel
theorem st_e4 : ∀ i, i < 6 → Cond.eq (.length (.field (st_tm i) "java/lang/String" "value" "[B")) (.int (Int32.ofNat (ix_slen.getD i 0))) ∈ st_fl := by decide +kernel
theorem st_e5 : ∀ i, i < 6 → ∀ j, j < ix_slen.getD i 0 → Cond.eq (.elem (.field (st_tm i) "java/lang/String" "value" "[B") (.int (Int32.ofNat j))) (.int ((ix_byt.getD i []).getD j 0)) ∈ st_fl := by decide +kernel
theorem st_e6 : ∀ i, i < 6 → ∀ j, j < 6 → i ≠ j → Cond.not (Cond.eq (st_tm i) (st_tm j)) ∈ st_fl ∨ Cond.not (Cond.eq (st_tm j) (st_tm i)) ∈ st_fl := by decide +kernel
theorem st_nc : ∀ q ∈ ix_ncl, Cond.not (.castable q.1 q.2) ∈ st_fl := by decide +kernel
theorem st_Sc {N : Nat} {len : List Nat} {byt : List (List Int32)} {k v k' v' : Nat → Nat} {A : Nat → Prop} {U : State} {H : Heap} (h : vk_S N len byt k v A U H) (e1 : ∀ i, i < N → k' i = k i) (e2 : ∀ i, i < N → v' i = v i) : vk_S N len byt k' v' A U H :=
  ⟨fun i hi => by rw [e1 i hi, e2 i hi]; exact h.1 i hi, fun i j hi hj e => h.2 i j hi hj (by rw [← e1 i hi, ← e1 j hj]; exact e)⟩
def st_f (a : Nat → Nat) (k v : Nat → Nat) (f0 f1 : Nat) (i : Nat) : Nat := if i < 6 then a i else if i < 200 then k (i - 100) else if i < 300 then v (i - 200) else if i = 300 then f0 else f1
theorem st_sr : ∀ (j : Nat) (q : String × Nat × String), ix_sown[j]? = some q → j < 6 ∧ Cond.stringRef q.1 q.2.1 q.2.2 ∈ lw_tbl ∧ st_tm j = Term.string q.1 q.2.1 := by
  intro j q hq
  match j, hq with
  | 0, hq => cases hq; exact ⟨by decide, ix_wm (i := 710) (by decide +kernel), rfl⟩
  | 1, hq => cases hq; exact ⟨by decide, ix_wm (i := 1022) (by decide +kernel), rfl⟩
  | 2, hq => cases hq; exact ⟨by decide, ix_wm (i := 1065) (by decide +kernel), rfl⟩
  | 3, hq => cases hq; exact ⟨by decide, ix_wm (i := 1071) (by decide +kernel), rfl⟩
  | 4, hq => cases hq; exact ⟨by decide, ix_wm (i := 1077) (by decide +kernel), rfl⟩
  | 5, hq => cases hq; exact ⟨by decide, ix_wm (i := 1078) (by decide +kernel), rfl⟩
  | k + 6, hq => simp [ix_sown] at hq
/-- classes, array classes, texts and statics of the start -/
theorem st_K {b : Nat} (hts : ∀ w ∈ lw_tbl, w.before #[Value.ref b] s = true) (hgv : (Jvm.Cond.and given_1 narrow_1).before #[Value.ref b] s = true) : ∃ (G : va_G) (f : Nat → ClassId), va_K G ix_cl (ix_tys (G, f, s.heap.size, st_P G f s.heap.size)) s ∧ st_P G f s.heap.size s := by
  have hs : ∀ w ∈ st_fl, w.before #[Value.ref b] s = true := flat_of_before _ hgv
  obtain ⟨G, hG⟩ := st_cl hts
  obtain ⟨c0, a0, b0⟩ := st_ar (hts _ (ix_wm (i := 98) (w := .arrayClass .int) (by decide +kernel)))
  obtain ⟨c1, a1, b1⟩ := st_ar (hts _ (ix_wm (i := 99) (w := .arrayClass .byte) (by decide +kernel)))
  obtain ⟨c2, a2, b2⟩ := st_ar (hts _ (ix_wm (i := 183) (w := .arrayClass .boolean) (by decide +kernel)))
  obtain ⟨c3, a3, b3⟩ := st_ar (hts _ (ix_wm (i := 270) (w := .arrayClass .long) (by decide +kernel)))
  obtain ⟨c4, a4, b4⟩ := st_ao (hts _ (ix_wm (i := 185) (w := .arrayOver (.object RX8)) (by decide +kernel)))
  have hov : (Cond.arrayOver (.array .int)).before #[] s = true := hts _ (ix_wm (i := 33) (w := .arrayOver (.array .int)) (by decide +kernel))
  obtain ⟨m5, c5, k5, -, -, w3, w4, w5⟩ := st_over hov
  have hA : ∀ a : Nat, a < s.heap.size → ¬ (fun q : Nat => s.heap.size ≤ q) a := fun a h q => absurd h (Nat.not_lt.mpr q)
  obtain ⟨kk, vv, hS6, hev⟩ := vk_Sof (args := #[Value.ref b]) (s := s) (N := 6) (tm := st_tm) (len := ix_slen) (byt := ix_byt) (A := fun q => s.heap.size ≤ q) (by decide) (fun i hi => hs _ (st_e1 i hi)) (fun i hi => hs _ (st_e2 i hi)) (fun i hi => hs _ (st_e3 i hi)) (fun i hi => hs _ (st_e4 i hi)) (fun i hi j hj => hs _ (st_e5 i hi j hj)) (fun i j hi hj hij => (st_e6 i hi j hj hij).imp (hs _) (hs _)) hA
  have z1 : va_Z "java/lang/String" "COMPACT_STRINGS" "Z" (.int 1) (fun q => s.heap.size ≤ q) s s.heap := va_Zof (hts _ (ix_wm (i := 724) (by decide +kernel))) (hts _ (ix_wm (i := 17) (by decide +kernel))) (va_eqt (hs _ (by decide +kernel))) hA
  have z2 : va_Zq "jdk/internal/util/Preconditions" "SIOOBE_FORMATTER" "Ljava/util/function/BiFunction;" (fun q => s.heap.size ≤ q) s s.heap := va_Zqof (hts _ (ix_wm (i := 763) (by decide +kernel))) (hts _ (ix_wm (i := 20) (by decide +kernel))) (hs _ (by decide +kernel)) hA
  have z3 : ∃ f0 f1 : Nat, va_Z "jdk/internal/util/Preconditions" "SIOOBE_FORMATTER" "Ljava/util/function/BiFunction;" (if f0 = 0 then .null else .ref f1) (fun q => s.heap.size ≤ q) s s.heap := by
    rcases z2 with h | ⟨t, h⟩
    · exact ⟨0, 0, h⟩
    · exact ⟨1, t, h⟩
  obtain ⟨f0, f1, z3⟩ := z3
  let f : Nat → ClassId := st_f (fun i => if i = 0 then c0 else if i = 1 then c1 else if i = 2 then c2 else if i = 3 then c3 else if i = 4 then c4 else c5) kk vv f0 f1
  have e1 : ∀ i, i < 6 → f (100 + i) = kk i := by
    intro i hi
    show st_f _ kk vv f0 f1 (100 + i) = kk i
    unfold st_f
    rw [if_neg (by omega), if_pos (by omega)]
    exact congrArg kk (by omega)
  have e2 : ∀ i, i < 6 → f (200 + i) = vv i := by
    intro i hi
    show st_f _ kk vv f0 f1 (200 + i) = vv i
    unfold st_f
    rw [if_neg (by omega), if_neg (by omega), if_pos (by omega)]
    exact congrArg vv (by omega)
  refine ⟨G, f, ⟨hG, fun k q hk => ?_⟩, ⟨hts _ (ix_wm (i := 185) (w := .arrayOver (.object RX8)) (by decide +kernel)), fun q hq => va_Nc.of (hs _ (st_nc q hq)), hov⟩, st_Sc hS6 e1 e2, fun j q hj => ?_, z1, z3⟩
  · match k, hk with
    | 0, hk => cases hk; exact ⟨a0, b0⟩
    | 1, hk => cases hk; exact ⟨a1, b1⟩
    | 2, hk => cases hk; exact ⟨a2, b2⟩
    | 3, hk => cases hk; exact ⟨a3, b3⟩
    | 4, hk => cases hk; exact ⟨a4, b4⟩
    | 5, hk => cases hk; exact ⟨fun n z => ⟨(fun k h => by cases h), k5, w3, m5, w4⟩, w5⟩
    | k + 6, hk => simp at hk
  · obtain ⟨h1, h2, h3⟩ := st_sr j q hj
    have h4 := hev j h1
    rw [h3] at h4
    show vk_R _ _ _ (f (100 + j)) s
    rw [e1 j h1]
    exact vk_R.of (hts _ h2) h4
end STA
def lw_At (p : Program) (s : State) (m : MethodId) (meth : Method) (c : Code) (b L : Nat) (xs : Nat → Int32) : Prop :=
  p.tables.exec = Jvm.exec ∧ c.code = code ∧ meth.sig.returnType = ret ∧ c.maxLocals = 4 ∧ s.vm.findClass R_law = some m.cls ∧ (∀ w ∈ lw_tbl, w.before #[Value.ref b] s = true) ∧ va_X b L xs s s.heap ∧ b < s.heap.size ∧ meth.locks = false ∧ (Jvm.Cond.and given_1 narrow_1).before #[Value.ref b] s = true
def st_z : ix_Z := (fun _ _ => none, fun _ => (0, 0), 0)
def st_d : ix_D2 := (fun _ _ => 0, fun _ _ => 0)
/-- what the pure part owes: both models' constructors, then call by call -/
def st_pure (Ls : Nat) (xs : Nat → Int32) : Prop := ∃ (n : Nat) (z2 z1 : ix_Z) (d2 d1 : ix_D2) (J : Nat → ix_Z → ix_D2 → Prop), f_X11_init n (ix_zn st_z 10 18) 0 (ix_dn st_d 0) = some (z2, d2) ∧ f_X12_init n (ix_zn z2 11 116) z2.2.2 (ix_dn d2 z2.2.2) = some (z1, d1) ∧ J 0 z1 d1 ∧ ∀ j z d, 6 * j + 6 ≤ Ls → J j z d → ∃ z' d', f_law_body n Ls xs z 0 z2.2.2 (nI (6 * j)) d = some (z', d') ∧ J (j + 1) z' d'
theorem lw_open (PURE : ∀ Ls xs, Ls ≤ 3072 → st_pure Ls xs) {p : Program} {e : Env} {s : State} {m : MethodId} {below : List Frame} {meth : Method} {c : Code} (l : Launch) {b L : Nat} {xs : Nat → Int32} (hL : L ≤ 3072) (C0 : lw_At p s m meth c b L xs) : W p l e room_1 s m #[Value.ref b] below meth c s.heap [] 0 0 (lw_Z below #[Value.ref b] s) (entryFrame m ([Value.ref b] : List Value).toArray 4) := by
  obtain ⟨hx, hb, hr, hml, hown, hts, hX, hbl, hlocks, hgv⟩ := C0
  obtain ⟨n, z2, z1, d2, d1, J, h1, h2, hj, hJ⟩ := PURE L xs hL
  obtain ⟨G, f, hK, hP0⟩ := st_K hts hgv
  let K : ix_Cx := (G, f, s.heap.size, st_P G f s.heap.size)
  have hKp : ix_Kp K := st_Kp
  have hF : ix_Fc K := fun U h => h.1
  have hT : ix_Tc K := fun U h => h.2
  have X : ix_X p s m #[Value.ref b] c K code R_law 4 := ⟨hx, hb, hml, hown, fun w hw => hts w (List.mem_filter.mp hw).1, ⟨hK, fun w hw => va_Nw.of (ix_isn_on (List.mem_filter.mp hw).2) (hts w (List.mem_filter.mp hw).1), hP0⟩, Nat.le_refl _, hKp⟩
  have hbN : ¬ ix_A K b := Nat.not_le.mpr hbl
  have hl := lv_entry ([.ref b]) (n := 4) (Nat.le_of_ble_eq_true rfl)
  rw [lg_entry_eq]
  generalize (lg_sl ([.ref b]) ++ List.replicate (4 - (lg_sl ([.ref b])).length) Slot.unset).toArray = ls at hl ⊢
  have hl : lv_has ls 4 [(0, .ref b)] := hl
  have main : ix_G p l e room_1 s m #[Value.ref b] below meth c (lw_Z below #[Value.ref b] s) K 4 0 0 0 [(0, .ref b)] [] (ix_w st_z st_d) := by
    refine lw_init hKp hF X (z := st_z) h1 h2 ?_
    exact lw_loop hKp hF hT X hX hbl hbN hr hlocks rfl hL (k0 := 300) (n0 := 300000) (by omega) (by omega) J hJ 513 0 z1 d1 (by omega) (by omega) hj
  exact main s.heap [] ls (fun k q h => by simp [ix_ws, ix_N, ix_w, st_z] at h) rfl va_S.rf hl

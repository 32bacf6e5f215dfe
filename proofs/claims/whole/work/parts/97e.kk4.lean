/-! ===== all that the start gives ===== -/
def laysW : List Cond := (kndL.map fun n => Cond.laysStatic "ScarecrowRegistry$Kind" n "LScarecrowRegistry$Kind;") ++ [Cond.laysStatic "ScarecrowRegistry" "KINDS" "[LScarecrowRegistry$Kind;", Cond.laysStatic "ScarecrowRegistry$1" "$SwitchMap$ScarecrowRegistry$Kind" "[I", Cond.laysStatic "java/lang/Integer" "DigitOnes" "[B", Cond.laysStatic "java/lang/Integer" "DigitTens" "[B", Cond.laysStatic "java/lang/String" "COMPACT_STRINGS" "Z", Cond.laysStatic "jdk/internal/util/Preconditions" "SIOOBE_FORMATTER" "Ljava/util/function/BiFunction;", Cond.laysStatic Bundle.tN "UNASSIGNED_STACK" Bundle.steD, Cond.laysStatic Bundle.tN "SUPPRESSED_SENTINEL" Bundle.listD]
def iniW : List Cond := ["ScarecrowRegistry$Kind", "ScarecrowRegistry", "ScarecrowRegistry$1", "java/lang/Integer", "java/lang/String", "jdk/internal/util/Preconditions", Bundle.tN].map Cond.initialized
def insW : List Cond := vwCl.map fun q => Cond.instantiable q.1 q.2.2
def arrW : List Cond := [.arrayClass .int, .arrayClass .char, .arrayClass .byte, .arrayOver (.object "ScarecrowRegistry$State"), .arrayClass .long, .arrayClass .double]
def nwW : List Cond := (nwF.map fun q => Cond.fieldLinkNest q.1 q.2.1 q.2.2.1 q.2.2.2.1 q.2.2.2.2.1 q.2.2.2.2.2) ++ nwM.map fun q => Cond.methodLinkNest q.1 q.2.1 q.2.2.1 q.2.2.2
def exW : List Cond := (exL.map fun a => Cond.castable a a) ++ (dcL.map Cond.declares) ++ lkL.map fun q => Cond.classLink "ScarecrowRegistryLaw" q.1 q.2
theorem tb_in {ws : List Cond} (ps : List Nat) (h : ws = ps.filterMap (fun i => tables_1[i]?)) : ∀ w ∈ ws, w ∈ tables_1 := by
  intro w hw
  rw [h] at hw
  obtain ⟨i, -, hi⟩ := List.mem_filterMap.mp hw
  exact List.mem_of_getElem? hi
set_option maxRecDepth 100000 in
theorem laysW_in : ∀ w ∈ laysW, w ∈ tables_1 := tb_in [143, 1800, 1801, 1802, 1803, 1804, 1805, 1806, 1807, 1181, 1223, 480, 482, 174, 410, 554, 556] (by decide +kernel)
set_option maxRecDepth 100000 in
theorem iniW_in : ∀ w ∈ iniW, w ∈ tables_1 := tb_in [8, 1, 29, 23, 11, 28, 15] (by decide +kernel)
set_option maxRecDepth 100000 in
theorem insW_in : ∀ w ∈ insW, w ∈ tables_1 := tb_in [496, 165, 652, 341, 135, 115, 48, 42, 34, 1321] (by decide +kernel)
set_option maxRecDepth 100000 in
theorem arrW_in : ∀ w ∈ arrW, w ∈ tables_1 := tb_in [60, 1390, 196, 121, 1760, 1761] (by decide +kernel)
set_option maxRecDepth 100000 in
theorem nwW_in : ∀ w ∈ nwW, w ∈ tables_1 := tb_in [66, 68, 70, 72, 74, 76, 78, 80, 82, 84, 86, 88, 126, 146, 148, 150, 152, 1180, 1795, 1796, 136, 266, 302, 1065] (by decide +kernel)
set_option maxRecDepth 100000 in
theorem exW_in : ∀ w ∈ exW, w ∈ tables_1 := tb_in [529, 767, 863, 783, 1129, 1103, 535, 531, 533, 732, 731, 852, 810, 1122, 1091] (by decide +kernel)
section KKA
variable {s : State} {b : Nat}
set_option maxHeartbeats 4000000 in
set_option maxRecDepth 100000 in
theorem kk_all (hq : ∀ w ∈ pre1, w.before #[Value.ref b] s = true) (ht : ∀ w ∈ tables_1, w.before #[Value.ref b] s = true) (hcl : ∃ D : va_G, ∀ (c : Nat) (q : vw_C), vwCl[c]? = some q → u_Kn s q.1 q.2.1 q.2.2 (D.1 c) (D.2 c)) : ∃ G : Gt, KK G s ∧ gB G = s.heap.size := by
  have hA : ∀ a : Nat, a < s.heap.size → ¬ (fun q => s.heap.size ≤ q) a := fun a h z => Nat.not_lt.mpr z h
  have hl : ∀ (i : Nat) (h : i < laysW.length), (laysW[i]).before #[Value.ref b] s = true := fun i h => ht _ (laysW_in _ (List.getElem_mem h))
  have hi : ∀ (i : Nat) (h : i < iniW.length), (iniW[i]).before #[Value.ref b] s = true := fun i h => ht _ (iniW_in _ (List.getElem_mem h))
  have ha : ∀ (i : Nat) (h : i < arrW.length), (arrW[i]).before #[Value.ref b] s = true := fun i h => ht _ (arrW_in _ (List.getElem_mem h))
  have iK : (Cond.initialized "ScarecrowRegistry$Kind").before #[Value.ref b] s = true := hi 0 (by decide)
  have hlK : ∀ i, i < 9 → (Cond.laysStatic "ScarecrowRegistry$Kind" (kndL.getD i "") "LScarecrowRegistry$Kind;").before #[Value.ref b] s = true := by
    intro i h9
    rcases (by omega : i = 0 ∨ i = 1 ∨ i = 2 ∨ i = 3 ∨ i = 4 ∨ i = 5 ∨ i = 6 ∨ i = 7 ∨ i = 8) with z | z | z | z | z | z | z | z | z
    · subst z; exact hl 0 (by decide)
    · subst z; exact hl 1 (by decide)
    · subst z; exact hl 2 (by decide)
    · subst z; exact hl 3 (by decide)
    · subst z; exact hl 4 (by decide)
    · subst z; exact hl 5 (by decide)
    · subst z; exact hl 6 (by decide)
    · subst z; exact hl 7 (by decide)
    · subst z; exact hl 8 (by decide)
  obtain ⟨sd, vd, hs, hv⟩ := kk_txt hq ht hA
  obtain ⟨ad, hE, hEv⟩ := kk_en hq hlK iK hA
  obtain ⟨t1, z1, T1⟩ := kk_SM hq (hl 10 (by decide)) (hi 2 (by decide)) hA
  obtain ⟨t2, z2, T2⟩ := kk_D1 hq (hl 11 (by decide)) (hi 3 (by decide)) hA
  obtain ⟨t3, z3, T3⟩ := kk_D10 hq (hl 12 (by decide)) (hi 3 (by decide)) hA
  obtain ⟨p1, p2, p3, p4, p5, p6⟩ := kp_st
  obtain ⟨t0, e0, T0⟩ := va_Tof (tm := .static "ScarecrowRegistry" "KINDS" "[LScarecrowRegistry$Kind;") (N := 9) (f := fun j => .ref (ad j)) (by decide) (hq _ (List.mem_of_getElem? p1)) (va_eqt (hq _ (List.mem_of_getElem? p2))) (fun j hj => va_eqv (hq _ (List.mem_of_getElem? (kp_Ke j hj).2.2.2.2)) (hEv j hj)) hA
  obtain ⟨D, hD⟩ := hcl
  obtain ⟨cI, aI, rI⟩ := kk_arr (ty := .int) (fun C h => by cases h) (ha 0 (by decide))
  obtain ⟨cC, aC', rC⟩ := kk_arr (ty := .char) (fun C h => by cases h) (ha 1 (by decide))
  obtain ⟨cB, aB, rB⟩ := kk_arr (ty := .byte) (fun C h => by cases h) (ha 2 (by decide))
  obtain ⟨cS, aS, rS⟩ := kk_ao (C := "ScarecrowRegistry$State") (ha 3 (by decide))
  obtain ⟨cL, aL, rL⟩ := kk_arr (ty := .long) (fun C h => by cases h) (ha 4 (by decide))
  obtain ⟨cD, aD', rD⟩ := kk_arr (ty := .double) (fun C h => by cases h) (ha 5 (by decide))
  refine ⟨(D, fun k => [cI, cC, cB, cS, cL, cD].getD k 0, s.heap.size, ad, sd, vd, fun k => [t0, t1, t2, t3].getD k 0), ⟨⟨hD, fun k q hk => ?_⟩, ⟨fun q h => va_Nw.of rfl (ht _ (nwW_in _ (List.mem_append_left _ (List.mem_map.mpr ⟨q, h, rfl⟩)))), fun q h => va_Nw.of rfl (ht _ (nwW_in _ (List.mem_append_right _ (List.mem_map.mpr ⟨q, h, rfl⟩))))⟩, ⟨vx_Zqof (hl 15 (by decide)) (hi 6 (by decide)) (hq _ (List.mem_of_getElem? p5)) hA, vx_Zqof (hl 16 (by decide)) (hi 6 (by decide)) (hq _ (List.mem_of_getElem? p6)) hA⟩, fun i h => (hs i h).1, ⟨hv, hE, va_Efof hEv (fun i h => hq _ (List.mem_of_getElem? (kp_Ke i h).2.2.1)) (fun i h => (hs _ (by have := wrd_lt i; omega)).2) hA, va_Efof hEv (fun i h => hq _ (List.mem_of_getElem? (kp_Ke i h).2.2.2.1)) (fun i h => (hs _ (by have := shp_lt i; omega)).2) hA, ⟨va_Zref (hl 9 (by decide)) (hi 1 (by decide)) e0 hA, T0⟩, ⟨z1, T1⟩, ⟨z2, T2⟩, ⟨z3, T3⟩, va_Zof (hl 13 (by decide)) (hi 4 (by decide)) (va_eqi (hq _ (List.mem_of_getElem? p3))) hA, va_Zqof (hl 14 (by decide)) (hi 5 (by decide)) (hq _ (List.mem_of_getElem? p4)) hA, (hE.1 0 (by decide)).1⟩, ⟨kk_nc hq, fun a h => va_Nw.of rfl (ht _ (exW_in _ (List.mem_append_left _ (List.mem_append_left _ (List.mem_map.mpr ⟨a, h, rfl⟩))))), fun a h => va_Nw.of rfl (ht _ (exW_in _ (List.mem_append_left _ (List.mem_append_right _ (List.mem_map.mpr ⟨a, h, rfl⟩))))), va_AO.of (ha 3 (by decide)), fun q h => va_Nw.of rfl (ht _ (exW_in _ (List.mem_append_right _ (List.mem_map.mpr ⟨q, h, rfl⟩))))⟩, Nat.le_refl _⟩, rfl⟩
  have hk6 : k < 6 := (List.getElem?_eq_some_iff.mp hk).1
  rcases (by omega : k = 0 ∨ k = 1 ∨ k = 2 ∨ k = 3 ∨ k = 4 ∨ k = 5) with z | z | z | z | z | z
  · subst z; cases hk; exact ⟨aI, rI⟩
  · subst z; cases hk; exact ⟨aC', rC⟩
  · subst z; cases hk; exact ⟨aB, rB⟩
  · subst z; cases hk; exact ⟨aS, rS⟩
  · subst z; cases hk; exact ⟨aL, rL⟩
  · subst z; cases hk; exact ⟨aD', rD⟩
end KKA

/-! ===== what the start gives: the kinds, statics, exceptions ===== -/
def stK (i : Nat) : Term := .static "ScarecrowRegistry$Kind" (kndL.getD i "") "LScarecrowRegistry$Kind;"
def ixKe : List Nat := [4, 247, 252, 258, 265, 273, 282, 292, 303]
def ixKo : List Nat := [5, 248, 253, 259, 266, 274, 283, 293, 304]
def ixKw : List Nat := [6, 249, 254, 260, 267, 275, 284, 294, 305]
def ixKs : List Nat := [7, 250, 255, 261, 268, 276, 285, 295, 306]
def ixKn : List (List Nat) := [[0, 251, 256, 262, 269, 277, 286, 296, 307], [0, 0, 257, 263, 270, 278, 287, 297, 308], [0, 0, 0, 264, 271, 279, 288, 298, 309], [0, 0, 0, 0, 272, 280, 289, 299, 310], [0, 0, 0, 0, 0, 281, 290, 300, 311], [0, 0, 0, 0, 0, 0, 291, 301, 312], [0, 0, 0, 0, 0, 0, 0, 302, 313], [0, 0, 0, 0, 0, 0, 0, 0, 314], [0, 0, 0, 0, 0, 0, 0, 0, 0]]
def ixKt : List Nat := [226, 227, 228, 229, 230, 231, 232, 233, 234]
def ixNc : List (List Nat) := [[0, 355, 370, 340, 402, 386], [323, 0, 369, 339, 401, 385], [326, 357, 0, 342, 405, 389], [324, 356, 371, 0, 403, 387], [328, 359, 374, 344, 0, 390], [327, 358, 373, 343, 406, 0]]
set_option maxRecDepth 100000 in
theorem kp_Ke : ∀ i, i < 9 → pre1[ixKe.getD i 0]? = some (Cond.exactly (stK i) "ScarecrowRegistry$Kind") ∧ pre1[ixKo.getD i 0]? = some (Cond.eq (.field (stK i) "java/lang/Enum" "ordinal" "I") (.int (([0, 1, 2, 3, 4, 5, 6, 7, 8] : List Int32).getD i 0))) ∧ pre1[ixKw.getD i 0]? = some (Cond.eq (.field (stK i) "ScarecrowRegistry$Kind" "word" "Ljava/lang/String;") (stT (wrdL.getD i 0))) ∧ pre1[ixKs.getD i 0]? = some (Cond.eq (.field (stK i) "ScarecrowRegistry$Kind" "shape" "Ljava/lang/String;") (stT (shpL.getD i 0))) ∧ pre1[ixKt.getD i 0]? = some (Cond.eq (.elem (.static "ScarecrowRegistry" "KINDS" "[LScarecrowRegistry$Kind;") (.int (Int32.ofNat i))) (stK i)) := by decide +kernel
set_option maxRecDepth 100000 in
theorem kp_Kn : ∀ i, i < 9 → ∀ j, j < 9 → i < j → pre1[(ixKn.getD i []).getD j 0]? = some (Cond.not (.eq (stK i) (stK j))) := by decide +kernel
set_option maxRecDepth 100000 in
theorem kp_st : pre1[223]? = some (Cond.arrayOf (.static "ScarecrowRegistry" "KINDS" "[LScarecrowRegistry$Kind;") (.object "ScarecrowRegistry$Kind")) ∧ pre1[224]? = some (Cond.eq (.length (.static "ScarecrowRegistry" "KINDS" "[LScarecrowRegistry$Kind;")) (.int (Int32.ofNat 9))) ∧ pre1[8]? = some (Cond.eq (.static "java/lang/String" "COMPACT_STRINGS" "Z") (.int 1)) ∧ pre1[9]? = some (Cond.isRef (.static "jdk/internal/util/Preconditions" "SIOOBE_FORMATTER" "Ljava/util/function/BiFunction;")) ∧ pre1[219]? = some (Cond.isRef (.static Bundle.tN "UNASSIGNED_STACK" Bundle.steD)) ∧ pre1[220]? = some (Cond.isRef (.static Bundle.tN "SUPPRESSED_SENTINEL" Bundle.listD)) := by decide +kernel
set_option maxRecDepth 100000 in
theorem kp_nc : ∀ i, i < 6 → ∀ j, j < 6 → i ≠ j → pre1[(ixNc.getD i []).getD j 0]? = some (Cond.not (.castable (exL.getD i "") (exL.getD j ""))) := by decide +kernel
section KKE
variable {s : State} {b : Nat} {A : Nat → Prop}
theorem kk_en (hq : ∀ w ∈ pre1, w.before #[Value.ref b] s = true) (hl : ∀ i, i < 9 → (Cond.laysStatic "ScarecrowRegistry$Kind" (kndL.getD i "") "LScarecrowRegistry$Kind;").before #[Value.ref b] s = true) (hini : (Cond.initialized "ScarecrowRegistry$Kind").before #[Value.ref b] s = true) (hA : ∀ a : Nat, a < s.heap.size → ¬ A a) : ∃ ad : Nat → Nat, va_En "ScarecrowRegistry$Kind" "LScarecrowRegistry$Kind;" kndL [("java/lang/Enum", "ordinal", "I", [0, 1, 2, 3, 4, 5, 6, 7, 8])] ad A s s.heap ∧ ∀ i, i < 9 → (stK i).eval #[Value.ref b] s none [] s = some (.ref (ad i)) := by
  refine va_Enof2 (fun i hi => hl i hi) hini (fun i hi => hq _ (List.mem_of_getElem? (kp_Ke i hi).1)) (fun q hq' i hi => ?_) (fun i j hi hj hij => ?_) hA
  · obtain rfl := List.mem_singleton.mp hq'
    exact hq _ (List.mem_of_getElem? (kp_Ke i hi).2.1)
  · rcases Nat.lt_or_ge i j with h | h
    · exact Or.inl (hq _ (List.mem_of_getElem? (kp_Kn i hi j hj h)))
    · exact Or.inr (hq _ (List.mem_of_getElem? (kp_Kn j hj i hi (by omega))))
theorem kk_nc (hq : ∀ w ∈ pre1, w.before #[Value.ref b] s = true) : ∀ a ∈ exL, ∀ c ∈ exL, a ≠ c → va_Nc a c s := by
  intro a ha c hc hne
  obtain ⟨i, hi, rfl⟩ := List.mem_iff_getElem.mp ha
  obtain ⟨j, hj, rfl⟩ := List.mem_iff_getElem.mp hc
  have hi6 : i < 6 := hi
  have hj6 : j < 6 := hj
  have := hq _ (List.mem_of_getElem? (kp_nc i hi6 j hj6 (fun e => hne (by subst e; rfl))))
  rw [List.getD_eq_getElem?_getD, List.getD_eq_getElem?_getD, List.getElem?_eq_getElem hi, List.getElem?_eq_getElem hj] at this
  exact va_Nc.of this
end KKE

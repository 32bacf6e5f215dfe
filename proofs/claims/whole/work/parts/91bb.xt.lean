theorem sel_priv {y x0 y0 : MethodName} {cl : String} {s : State} {args : Array Value} (hy : y.cls ≠ "java/lang/invoke/MethodHandle" ∧ y.cls ≠ "java/lang/invoke/VarHandle")
    (hpriv : (Cond.privateMethod y).before args s = true) (hinst : (Cond.instanceMethod y).before args s = true) (h0 : (Cond.selects cl x0 y0).before args s = true) (hcc : y0.cls = y.cls) :
    (Cond.selects cl y y).before args s = true := by
  obtain ⟨c, r, m0, hc0, -, hn0, -, mk0, hmk, hni⟩ := Cond.selects_spec h0
  obtain ⟨mk, methM, hnamed, hmethM, -, -⟩ := Cond.instanceMethod_spec hinst
  have hfound : s.methodFound? y.cls y.name y.desc = some mk := State.methodFound?_of_named hnamed hy
  have hb := findClass_of_methodNamed hn0
  rw [hcc] at hb
  have hcls : mk.cls = m0.cls := Option.some.inj ((findClass_of_methodNamed hnamed).symm.trans hb)
  have hsel : selectMethod {} s.vm c mk = .method mk := selectMethod_private hmethM (Cond.privateMethod_at hpriv mk methM hnamed hmethM)
  simp only [Cond.before, Cond.holds, Cond.value, hc0, hfound, hnamed, hsel, hcls, hmk]
  simp; exact hni
/-- three words of the law's roads that the skeleton's table leaves out: private methods of StringBuilder's superclass, which itself can't be made -/
def xw_l : List Cond := [Cond.selects RJ4 yJ5_ensureCapacityInternal_d00df yJ5_ensureCapacityInternal_d00df, Cond.selects RJ4 yJ5_newCapacity_0f7a4 yJ5_newCapacity_0f7a4, Cond.selects RJ4 yJ5_inflate_da8c8 yJ5_inflate_da8c8]
def lw_xt : List Cond := xw_l ++ lw_tbl
theorem in_xt {w : Cond} (h : w ∈ lw_tbl) : w ∈ lw_xt := List.mem_append_right _ h
theorem xw_m0 : Cond.selects RJ4 yJ5_isLatin1_aae02 yJ5_isLatin1_aae02 ∈ lw_tbl := by decide +kernel
theorem xw_m1 : Cond.privateMethod yJ5_ensureCapacityInternal_d00df ∈ lw_tbl ∧ Cond.instanceMethod yJ5_ensureCapacityInternal_d00df ∈ lw_tbl := by decide +kernel
theorem xw_m2 : Cond.privateMethod yJ5_newCapacity_0f7a4 ∈ lw_tbl ∧ Cond.instanceMethod yJ5_newCapacity_0f7a4 ∈ lw_tbl := by decide +kernel
theorem xw_m3 : Cond.privateMethod yJ5_inflate_da8c8 ∈ lw_tbl ∧ Cond.instanceMethod yJ5_inflate_da8c8 ∈ lw_tbl := by decide +kernel
theorem xw_ok {s : State} {args : Array Value} (hts : ∀ w ∈ lw_tbl, w.before args s = true) : ∀ w ∈ xw_l, w.before args s = true :=
  List.forall_mem_cons.mpr ⟨sel_priv (by decide +kernel) (hts _ xw_m1.1) (hts _ xw_m1.2) (hts _ xw_m0) (by decide +kernel),
    List.forall_mem_cons.mpr ⟨sel_priv (by decide +kernel) (hts _ xw_m2.1) (hts _ xw_m2.2) (hts _ xw_m0) (by decide +kernel),
      List.forall_mem_cons.mpr ⟨sel_priv (by decide +kernel) (hts _ xw_m3.1) (hts _ xw_m3.2) (hts _ xw_m0) (by decide +kernel), fun _ h => nomatch h⟩⟩⟩
theorem xt_hts {s : State} {args : Array Value} (hts : ∀ w ∈ lw_tbl, w.before args s = true) : ∀ w ∈ lw_xt, w.before args s = true :=
  fun w hw => (List.mem_append.mp hw).elim (fun h => xw_ok hts w h) (fun h => hts w h)

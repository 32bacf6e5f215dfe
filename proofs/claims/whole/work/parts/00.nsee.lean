/-! NoSuchElementException: its constructor of one text stands in the JDK with another place of its super's link than the other exceptions' -/
abbrev vx_nse : String := "java/util/NoSuchElementException"
abbrev vx_nss : List String := ["java/lang/RuntimeException", "java/lang/Exception"]
def vx_nsr : ByteArray := ⟨#[0x2a, 0x2b, 0xb7, 0x00, 0x0d, 0xb1]⟩
theorem vx_nsr0 : decode vx_nsr 0 = .ok (.aload_n 0, 1) := by decide +kernel
theorem vx_nsr1 : decode vx_nsr 1 = .ok (.aload_n 1, 1) := by decide +kernel
theorem vx_nsr2 : decode vx_nsr 2 = .ok (.invokespecial 13, 3) := by decide +kernel
theorem vx_nsr5 : decode vx_nsr 5 = .ok (.return_, 1) := by decide +kernel
/-- a word of the kit's list, put right for that class -/
def vx_fx (w : Cond) : Cond := match w with
  | .code y b n r => if y = Bundle.initS vx_nse then .code y vx_nsr n r else .code y b n r
  | .methodLink c i y => if c = vx_nse then .methodLink c 13 y else .methodLink c i y
  | w => w
/-- the words of 'throw new X(text)' -/
def vx_oa (own : String) (ic : Nat) (X : String) (names : List String) : List Cond := if X = vx_nse ∧ names = vx_nss ∧ own ≠ vx_nse then (Bundle.ownAtoms own ic X names).map vx_fx else Bundle.ownAtoms own ic X names
theorem vx_oa_ins {own : String} {ic : Nat} {X : String} {names : List String} : Cond.instantiable X 6 ∈ vx_oa own ic X names := by
  unfold vx_oa
  split
  · exact List.mem_map.mpr ⟨.instantiable X 6, by simp [Bundle.ownAtoms], rfl⟩
  · simp [Bundle.ownAtoms]
theorem vx_fxT : ∀ w ∈ Bundle.throwableAtoms, vx_fx w = w := by decide +kernel
theorem vx_fxS : ∀ w ∈ Bundle.throwableSAtoms, vx_fx w = w := by decide +kernel
theorem vx_fxR : ∀ w ∈ Bundle.chainSAtoms "java/lang/RuntimeException" ["java/lang/Exception"], vx_fx w = w := by decide +kernel
theorem vx_fxP : Bundle.passSAtoms vx_nse "java/lang/RuntimeException" 13 vx_nsr = (Bundle.passSAtoms vx_nse "java/lang/RuntimeException" 7 Bundle.six).map vx_fx := by decide +kernel
theorem vx_fxc {args : Array Value} {s : State} (h : (vx_fx (.code (Bundle.initS vx_nse) Bundle.six 2 none)).before args s = true) : (Cond.code (Bundle.initS vx_nse) vx_nsr 2 none).before args s = true := by
  have e : vx_fx (.code (Bundle.initS vx_nse) Bundle.six 2 none) = .code (Bundle.initS vx_nse) vx_nsr 2 none := by decide +kernel
  rw [e] at h
  exact h
theorem vx_nsf : Bundle.fit vx_nse = true := by decide +kernel
theorem vx_nsF : Bundle.fit "java/lang/RuntimeException" = true := by decide +kernel
theorem vx_nsG : ∀ n ∈ ["java/lang/Exception"], Bundle.fit n = true := by decide +kernel
theorem vx_chainN {args : Array Value} {s : State} {pl : Platform} (hpl : pl.magicAccessors = ({} : Platform).magicAccessors) {top : MethodId} (htop : s.methodNamed? (Bundle.initS Bundle.tN) = some top)
    (h : ∀ c ∈ Bundle.chainSAtoms vx_nse vx_nss, (vx_fx c).before args s = true) :
    ∃ (P1 : PassC) (Ps : List PassC), Ps.length = vx_nss.length ∧ P1.LinksS pl s ∧ (∀ P, P ∈ Ps → P.LinksS pl s) ∧ s.methodNamed? (Bundle.initS vx_nse) = some P1.m ∧
      P1.sup = firstOf top (Ps.map (·.toPassT)) ∧ PassesOn top (Ps.map (·.toPassT)) := by
  have h1 : ∀ c ∈ Bundle.passSAtoms vx_nse "java/lang/RuntimeException" 13 vx_nsr, c.before args s = true := by
    intro c hc
    rw [vx_fxP] at hc
    obtain ⟨w, hw, rfl⟩ := List.mem_map.mp hc
    exact h w (List.mem_append_left _ hw)
  have h2 : ∀ c ∈ Bundle.chainSAtoms "java/lang/RuntimeException" ["java/lang/Exception"], c.before args s = true := by
    intro c hc
    have h9 := h c (List.mem_append_right _ hc)
    rw [vx_fxR c hc] at h9
    exact h9
  obtain ⟨P, L, hm, hs⟩ := PassC.ofS_atoms (args := args) (s := s) hpl (X := vx_nse) (Y := "java/lang/RuntimeException") (Bundle.fit_spec vx_nsf).1 (Bundle.fit_spec vx_nsF).2 vx_nsr0 vx_nsr1 vx_nsr2 vx_nsr5 h1
  obtain ⟨P', Ps, hlen, L', hL, hm', hsup, hpass⟩ := Bundle.chainS (args := args) hpl htop ["java/lang/Exception"] "java/lang/RuntimeException" vx_nsF vx_nsG h2
  refine ⟨P, P' :: Ps, ?_, L, ?_, hm, Option.some.inj (hs.symm.trans hm'), hsup, hpass⟩
  · show Ps.length + 1 = 2
    rw [hlen]; rfl
  · intro Q hQ
    rcases List.mem_cons.mp hQ with rfl | hQ
    · exact L'
    · exact hL Q hQ
section VXN
variable {p : Program} {l : Launch} {e : Env} {R : Room} {s : State} {m₀ : MethodId} {args : Array Value} {below : List Frame} {meth : Method} {c : Code} {W : State} {locs : List Loc} {cells slots : Nat}
set_option maxHeartbeats 1000000 in
theorem vx_ctorN (X : Stand p l e R s m₀ args below meth c W locs cells slots) (hexec : p.tables.exec = Jvm.exec) (htr : e.platform.stackTraces = false) {own : String} {ic : Nat}
    (hown : s.vm.findClass own = some m₀.cls) (hne : own ≠ vx_nse)
    (h : ∀ a ∈ Bundle.ownAtoms own ic vx_nse vx_nss, (vx_fx a).before args s = true)
    (hlocs : ∀ x ∈ locs, ∀ cell, s.heap[x.base]? = some cell → cell.vm.isStatics = false)
    {a : Addr} {cX : ClassId} {kX : Class} (hfoundX : s.vm.findClass vx_nse = some cX) (hkX : s.vm.classes[cX]? = some kX) (hcell : W.heap[a]? = some (freshCell cX kX)) (hnew : s.heap.size ≤ a)
    {msg : Value} (hmsg : msg.isRef = true)
    {g : JFrame} (hg : g.method = m₀) (hsize : g.locals.size = c.maxLocals) {rest : List Value} (hstack : g.stack = msg :: .ref a :: .ref a :: rest)
    (hd6 : decode c.code g.pc = .ok (.invokespecial ic, 3))
    (hRframes : vx_nss.length + 3 < R.frames) (hRlocals : 2 * g.monitorRoom + ((Value.ref a :: rest).map fun v => v.category).sum + (13 * (vx_nss.length + 1) + 42) ≤ R.locals) :
    ∃ (V : State) (ce : Cell) (L : List Loc), Stand p l e R s m₀ args below meth c (V.setCell a ce) (locs ++ L) cells slots ∧ (∀ y ∈ L, y.base = a) ∧ a < V.heap.size ∧ ce.cls = cX ∧ ce.vm = .none ∧
      ∀ target, Steps p.tables e below ((V.setCell a ce).setTop { g with stack := .ref a :: rest, pc := g.pc + 3 }) target → Steps p.tables e below (W.setTop g) target := by
  have howns : e.platform.frameOwnsMonitors = true := by rw [X.admits.platform]
  have hfin : e.platform.finalization = false := by rw [X.admits.platform]
  have hpl : e.platform.magicAccessors = ({} : Platform).magicAccessors := by rw [X.admits.platform]
  have a' : ∀ x, x ∈ Bundle.ownAtoms own ic vx_nse vx_nss → vx_fx x = x → x.holds args s none s [] = true := fun x hx e => by
    have h9 := h x hx
    rw [e] at h9
    exact h9
  obtain ⟨T, Z0, L, -, Y⟩ := ThrowableC.of_atoms (args := args) howns hfin hpl (fun x hx => a' x (by simp [Bundle.ownAtoms, hx]) (vx_fxT x hx))
  obtain ⟨Z, M, LZ, LM, hnZ⟩ := Init0T.ofS_atoms (args := args) hpl L Y (fun x hx => a' x (by simp [Bundle.ownAtoms, hx]) (vx_fxS x hx))
  obtain ⟨P1, Ps, hlen, L1, hL, hP1m, hlink1, hlink⟩ := vx_chainN (args := args) hpl hnZ (fun x hx => h x (by simp [Bundle.ownAtoms, hx]))
  have hfound : s.vm.findClass vx_nse = some P1.m.cls := findClass_of_methodNamed hP1m
  cases Option.some.inj (hfoundX.symm.trans hfound)
  obtain ⟨c1, kX', hc1, hk, hord, -, -, hn6⟩ := Cond.instantiable_spec (a' (.instantiable vx_nse 6) (by simp [Bundle.ownAtoms]) rfl)
  cases Option.some.inj (hc1.symm.trans hfound)
  cases Option.some.inj (hkX.symm.trans hk)
  have hsel0 : selectMethod e.platform s.vm P1.m.cls T.fill0 = .method T.fill0 := by
    obtain ⟨c2, r2, m2, q1, q2, q3, q4, -⟩ := Cond.selects_spec (a' (.selects vx_nse Bundle.tFill0 Bundle.tFill0) (by simp [Bundle.ownAtoms]) rfl)
    cases Option.some.inj (q1.symm.trans hfound)
    cases Option.some.inj (q2.symm.trans (State.methodFound?_of_named Y.fill0 (by decide)))
    cases Option.some.inj (q3.symm.trans Y.fill0)
    rw [Launch.admits_selectMethod X.admits]; exact q4
  have hselF : selectMethod e.platform s.vm P1.m.cls T.fill = .method T.fill := by
    obtain ⟨c2, r2, m2, q1, q2, q3, q4, -⟩ := Cond.selects_spec (a' (.selects vx_nse Bundle.tFill Bundle.tFill) (by simp [Bundle.ownAtoms]) rfl)
    cases Option.some.inj (q1.symm.trans hfound)
    cases Option.some.inj (q2.symm.trans (State.methodFound?_of_named Y.fill (by decide)))
    cases Option.some.inj (q3.symm.trans Y.fill)
    rw [Launch.admits_selectMethod X.admits]; exact q4
  obtain ⟨cellS0, hcS0, hiss⟩ := Y.statics
  obtain ⟨u0, hu0⟩ := Cond.staticRefV Y.unassigned L.unassignedStatic L.statics hcS0 hiss (a' (.isRef (.static Bundle.tN "UNASSIGNED_STACK" Bundle.steD)) (by simp [Bundle.ownAtoms]) rfl)
  obtain ⟨sen, hsen⟩ := Cond.staticRefV Y.sentinel L.sentinelStatic L.statics hcS0 hiss (a' (.isRef (.static Bundle.tN "SUPPRESSED_SENTINEL" Bundle.listD)) (by simp [Bundle.ownAtoms]) rfl)
  obtain ⟨ci198, i198, fB, hk198, hg198, ha198, hsB, -, hnB, htB, hffB⟩ := Cond.ownField (t := .object "java/lang/Object") Y.found L.cls (by decide +kernel) (a' (.fieldLink Bundle.tN 198 Bundle.tN "backtrace" "Ljava/lang/Object;") (by simp [Bundle.ownAtoms]) rfl) (a' (.lays Bundle.tN Bundle.tN "backtrace" "Ljava/lang/Object;") (by simp [Bundle.ownAtoms]) rfl) e.platform hpl
  obtain ⟨cellS, hcS', heS, -, hkeep⟩ := X.same.2.2.2.2.2 T.aS cellS0 hcS0
  have hcellS : W.heap[T.aS]? = some cellS := hcS'
  have hout' : ∀ i, (⟨T.aS, i⟩ : Loc) ∉ locs := fun i hmem => by
    have := hlocs _ hmem cellS0 hcS0
    rw [hiss] at this; cases this
  have hknownS : cellS.vm ≠ .unknown := by
    rw [heS]; intro hu
    rw [show cellS0.vm = .unknown from hu] at hiss
    cases hiss
  have hneS : T.aS ≠ a := Nat.ne_of_lt (Nat.lt_of_lt_of_le (Array.getElem?_eq_some_iff.mp hcS0).1 hnew)
  obtain ⟨iM, hffM⟩ := Y.msg
  obtain ⟨tyC, dC, hdC, hdnC⟩ := Cond.laysAt hfound hk Y.cause (a' (.lays vx_nse Bundle.tN "cause" "Ljava/lang/Throwable;") (by simp [Bundle.ownAtoms]) rfl)
  obtain ⟨tyS, dS, hdS, hdnS⟩ := Cond.laysAt hfound hk Y.stack (a' (.lays vx_nse Bundle.tN "stackTrace" Bundle.steD) (by simp [Bundle.ownAtoms]) rfl)
  obtain ⟨tyP, dP, hdP, hdnP⟩ := Cond.laysAt hfound hk Y.supp (a' (.lays vx_nse Bundle.tN "suppressedExceptions" Bundle.listD) (by simp [Bundle.ownAtoms]) rfl)
  obtain ⟨tyM, dM, hdM, hdnM⟩ := Cond.laysAt hfound hk hffM (a' (.lays vx_nse Bundle.tN "detailMessage" "Ljava/lang/String;") (by simp [Bundle.ownAtoms]) rfl)
  obtain ⟨tyB, dB, hdB, hdnB⟩ := Cond.laysAt hfound hk hffB (a' (.lays vx_nse Bundle.tN "backtrace" "Ljava/lang/Object;") (by simp [Bundle.ownAtoms]) rfl)
  have bC := Cond.laysApart hdB hdC hdnB hdnC (by rw [hnB, Y.causeName]; decide)
  have bS := Cond.laysApart hdB hdS hdnB hdnS (by rw [hnB, Y.stackName]; decide)
  have bP := Cond.laysApart hdB hdP hdnB hdnP (by rw [hnB, Y.suppName]; decide)
  have hskip : SkipFacts T e.platform s (fun u => u) u0 ((preparedCellV T.toThrowableT (freshCell P1.m.cls kX) a u0 sen).withEntry W.cur) :=
    ⟨{ ci198 := ci198, i198 := i198, fBack := fB }, ⟨hk198, hg198, ha198, hsB⟩, by
      have := fresh_default (c := P1.m.cls) tyB
      rw [htB] at this
      simpa [preparedCellV, Cell.setSlot, Cell.withEntry, Array.getElem?_setIfInBounds, bC, bS, bP, bC.symm, bS.symm, bP.symm, defaultValue] using this, fun _ _ => rfl⟩
  obtain ⟨tm, methC, cdC, kC, vm₁, hnC, -, -, -, -, -, -, -, hW₁, st1⟩ := Steps.initColdS (tb := p.tables) (e := e) (below := below) (s := s) (U := W) X.here hexec X.warmed hpl hown (t := Bundle.initS vx_nse) rfl rfl (Bundle.fit_spec vx_nsf).2
    (a' (.methodLink own ic (Bundle.initS vx_nse)) (by simp [Bundle.ownAtoms]) (if_neg hne)) (a' (.instanceMethod (Bundle.initS vx_nse)) (by simp [Bundle.ownAtoms, Bundle.chainSAtoms, Bundle.passSAtoms]) rfl) (bytes := vx_nsr) (maxL := 2) (vx_fxc (h (.code (Bundle.initS vx_nse) Bundle.six 2 none) (by simp [Bundle.ownAtoms, Bundle.chainSAtoms, Bundle.passSAtoms])))
    (f := g) hg (a := a) (msg := msg) (rest := .ref a :: rest) hstack hd6
  cases Option.some.inj (hnC.symm.trans hP1m)
  have X₁ := X.noted hW₁
  obtain ⟨vm₂, X₂, st2⟩ := X₁.ctorMessageOffV hexec (g := { g with stack := .ref a :: rest }) hg hsize T L Z LZ M LM (P1 :: Ps)
    (fun P hP => by rcases List.mem_cons.mp hP with rfl | hP; exact L1; exact hL P hP) ⟨hlink1, hlink⟩ (u0 := u0) (sen := sen) (self := a) hmsg (cell := freshCell P1.m.cls kX) (cellS := cellS)
    hcell (fun _ => by simp) (by simp) rfl rfl hsel0 hselF hcellS hneS hknownS (by rw [hkeep _ (hout' _)]; exact hu0) (by rw [hkeep _ (hout' _)]; exact hsen)
    (Takes.of_laid hk hord tyC (by rw [Y.causeType]; rfl)) (Takes.of_laid hk hord tyS (by rw [Y.stackType]; exact fits_refV_array _ u0)) (Takes.of_laid hk hord tyP (by rw [Y.suppType]; exact fits_refV_object _ sen))
    (Takes.of_laid hk hord tyM (by rw [Y.msgType]; exact fits_refV_object _ ⟨msg, hmsg⟩)) Y.objLocals hskip htr [] hd6
    (by simp only [List.length_cons, hlen]; omega) (by simp only [List.length_cons, hlen]; exact hRlocals)
  have hlt : a < ((W.setVm vm₁).setVm vm₂).heap.size := (Array.getElem?_eq_some_iff.mp hcell).1
  refine ⟨(W.setVm vm₁).setVm vm₂, _, _, X₂, fun y hy => ?_, hlt, rfl, rfl, fun target hwalk => st1 _ (fun acts => ?_)⟩
  · simp only [List.mem_cons, List.not_mem_nil, or_false] at hy
    rcases hy with rfl | rfl | rfl | rfl | rfl <;> rfl
  · rw [doInvoke_state]
    exact st2 _ hwalk
theorem vx_ctorAny (X : Stand p l e R s m₀ args below meth c W locs cells slots) (hexec : p.tables.exec = Jvm.exec) (htr : e.platform.stackTraces = false) {own cls : String} {names : List String} {ic : Nat}
    (hown : s.vm.findClass own = some m₀.cls) (hcls : Bundle.fit cls = true) (hnames : ∀ n ∈ names, Bundle.fit n = true)
    (h : ∀ a ∈ vx_oa own ic cls names, a.before args s = true)
    (hlocs : ∀ x ∈ locs, ∀ cell, s.heap[x.base]? = some cell → cell.vm.isStatics = false)
    {a : Addr} {cX : ClassId} {kX : Class} (hfoundX : s.vm.findClass cls = some cX) (hkX : s.vm.classes[cX]? = some kX) (hcell : W.heap[a]? = some (freshCell cX kX)) (hnew : s.heap.size ≤ a)
    {msg : Value} (hmsg : msg.isRef = true)
    {g : JFrame} (hg : g.method = m₀) (hsize : g.locals.size = c.maxLocals) (hlocked : g.locked = none) (hentered : g.entered = []) {rest : List Value} (hstack : g.stack = msg :: .ref a :: .ref a :: rest)
    (hd6 : decode c.code g.pc = .ok (.invokespecial ic, 3)) (hd9 : decode c.code (g.pc + 3) = .ok (.athrow, 1)) (hout : ∀ x ∈ c.exceptionTable.toList, covers x (g.pc + 3) = false)
    (hRframes : names.length + 3 < R.frames) (hRlocals : 2 * g.monitorRoom + ((Value.ref a :: rest).map fun v => v.category).sum + (13 * (names.length + 1) + 42) ≤ R.locals) (hlocks : meth.locks = false) :
    ∃ U : State, Steps p.tables e below (W.setTop g) U ∧ U.status = .running ∧ Ended U below (.threw a) ∧ s.WarmedH U.vm ∧ s.sameButNew ({ U with vm := s.vm } : State) locs cells slots ∧
      ∃ ce, U.heap[a]? = some ce ∧ s.vm.findClass cls = some ce.cls ∧ ce.vm = .none := by
  by_cases hq : cls = vx_nse ∧ names = vx_nss ∧ own ≠ vx_nse
  · obtain ⟨h1, h2, hne⟩ := hq
    subst h1
    subst h2
    have h3 : ∀ w ∈ Bundle.ownAtoms own ic vx_nse vx_nss, (vx_fx w).before args s = true := fun w hw => h _ (by rw [vx_oa, if_pos ⟨rfl, rfl, hne⟩]; exact List.mem_map.mpr ⟨w, hw, rfl⟩)
    obtain ⟨V, ce, L, X₂, hL, hlt, hcl, hvm, st⟩ := vx_ctorN X hexec htr hown hne h3 hlocs hfoundX hkX hcell hnew hmsg hg hsize hstack hd6 hRframes hRlocals
    obtain ⟨hwalk, hrun, hended, hWU, hsame⟩ := X₂.athrowLeaves hexec (g := { g with stack := .ref a :: rest, pc := g.pc + 3 }) hg hlocked hentered hout (a := a) (rest := rest) rfl hd9 hlocks
    refine ⟨_, st _ hwalk, hrun, hended, hWU, hsame.weaken (fun y hy hlt' => ?_) (Nat.le_refl _) (Nat.le_refl _), ce, heapAt_setCell_self (s := V) ce hlt, ?_, hvm⟩
    · rcases List.mem_append.mp hy with h1 | h1
      · exact h1
      · exfalso
        rw [hL y h1] at hlt'
        exact Nat.not_lt.mpr hnew hlt'
    · rw [hcl]; exact hfoundX
  · rw [vx_oa, if_neg hq] at h
    obtain ⟨U, a1, a2, a3, a4, a5, ce, hce, hO⟩ := X.ctorThrowS hexec htr hown hcls hnames h hlocs hfoundX hkX hcell hnew hmsg hg hsize hlocked hentered hstack hd6 hd9 hout hRframes hRlocals hlocks
    exact ⟨U, a1, a2, a3, a4, a5, ce, hce, hO.cls, hO.vm⟩
end VXN

/-! ===== a world that is being built: cells in a run, one behind the other ===== -/
def bl (G : Gt) (i : Nat) (F : Nat → va_E) : va_W := (List.range i).map (fun j => (gB G + j, F j))
def ue (F : Nat → va_E) (j : Nat) (x : va_E) : Nat → va_E := fun k => if k = j then x else F k
theorem bl_at {G : Gt} {i j : Nat} {F : Nat → va_E} (h : j < i) : (bl G i F)[j]? = some (gB G + j, F j) := by
  simp [bl, List.getElem?_map, List.getElem?_range h]
theorem bl_set {G : Gt} {i j : Nat} {F : Nat → va_E} {x : va_E} : (bl G i F).set j (gB G + j, x) = bl G i (ue F j x) := by
  apply List.ext_getElem?
  intro q
  rw [List.getElem?_set]
  have hl : ∀ F', (bl G i F').length = i := fun F' => by simp [bl]
  by_cases hj : j = q
  · subst hj
    rw [if_pos rfl, hl]
    by_cases h : j < i
    · rw [if_pos h, bl_at h, ue, if_pos rfl]
    · rw [if_neg h, List.getElem?_eq_none (by rw [hl]; omega)]
  · rw [if_neg hj]
    by_cases h : q < i
    · rw [bl_at h, bl_at h, ue, if_neg (fun e => hj e.symm)]
    · rw [List.getElem?_eq_none (by rw [hl]; omega), List.getElem?_eq_none (by rw [hl]; omega)]
theorem bl_push {G : Gt} {i : Nat} {F : Nat → va_E} {x : va_E} : bl G i F ++ [(gB G + i, x)] = bl G (i + 1) (ue F i x) := by
  unfold bl
  rw [List.range_succ, List.map_append]
  congr 1
  · apply List.map_congr_left
    intro a ha
    have := List.mem_range.mp ha
    rw [ue, if_neg (by omega)]
  · simp [ue]
def WBb (G : Gt) (u : Nat × (Nat → va_E)) (t : State) : Prop := va_P G.1 vwCl (bl G u.1 u.2) t.heap ∧ va_D (Af G) (bl G u.1 u.2) ∧ t.heap.size = gB G + u.1
def PreB (G : Gt) (u : Nat × (Nat → va_E)) (av : List Value) : Array Value → State → Prop := va_Pc av (fun U => KK G U ∧ WBb G u U)
theorem PreB.blind {G : Gt} {u : Nat × (Nat → va_E)} {av : List Value} : FrameBlind (PreB G u av) := fun _ _ _ _ q => ⟨q.1, q.2.1.calling, q.2.2⟩
def QB (G : Gt) (r : Nat × (Nat → va_E)) : Array Value → State → Outcome → State → Prop := va_Qv (fun u : Nat × (Nat → va_E) => u = r) (WBb G) (Af G)
def MB (l : Launch) (y : MethodName) (ws : List Cond) (rm : Room) (G : Gt) (u : Nat × (Nat → va_E)) (av : List Value) (r : Nat × (Nat → va_E)) (mc ms : Nat) : Prop := Met l y ws rm (PreB G u av) (QB G r) mc ms (Af G)
def VB (G : Gt) (p : Program) (l : Launch) (e : Env) (R : Room) (s : State) (m : MethodId) (args : Array Value) (below : List Frame) (meth : Method) (c : Code) (nL : Nat) (Q : State → Prop) (k n i : Nat) (F : Nat → va_E) (pc : Nat) (lv : List (Nat × Value)) (st : List Value) : Prop :=
  ∀ (H : Heap) (locs : List Loc) (ls : Array Slot), va_P G.1 vwCl (bl G i F) H → va_D (Af G) (bl G i F) → va_S (Af G) s.heap H locs → H.size = gB G + i → lv_has ls nL lv → W p l e R s m args below meth c H locs k n Q (F0 m pc ls st)
section TWELVE
variable {G : Gt} {p : Program} {l : Launch} {e : Env} {R : Room} {s : State} {m : MethodId} {args : Array Value} {below : List Frame} {meth : Method} {c : Code} {nL : Nat} {Q : State → Prop} {k n i index : Nat} {F : Nat → va_E} {pc : Nat} {lv lv' : List (Nat × Value)} {st st' : List Value} {own : String} {Ts : List Cond} {cc : ByteArray} {rt : Option FieldType}
theorem wb_iconst {i9 : Int} {v : Int32} (X : Cx G p s m args meth c own Ts cc nL rt) (d : decode cc pc = .ok (.iconst i9, 1)) (hv : Int32.ofInt i9 = v) (kk : VB G p l e R s m args below meth c nL Q k n i F (pc + 1) lv (.int v :: st)) : VB G p l e R s m args below meth c nL Q k n i F pc lv st := fun H locs ls hP hD hS hz hl => lv_iconst X.1 X.2.1 d hv (kk H locs ls hP hD hS hz hl)
theorem wb_bipush {i9 : Int} {v : Int32} (X : Cx G p s m args meth c own Ts cc nL rt) (d : decode cc pc = .ok (.bipush i9, 2)) (hv : (Int8.ofInt i9).toInt32 = v) (kk : VB G p l e R s m args below meth c nL Q k n i F (pc + 2) lv (.int v :: st)) : VB G p l e R s m args below meth c nL Q k n i F pc lv st := fun H locs ls hP hD hS hz hl => lv_bipush X.1 X.2.1 d hv (kk H locs ls hP hD hS hz hl)
theorem wb_sipush {i9 : Int} {v : Int32} (X : Cx G p s m args meth c own Ts cc nL rt) (d : decode cc pc = .ok (.sipush i9, 3)) (hv : (Int16.ofInt i9).toInt32 = v) (kk : VB G p l e R s m args below meth c nL Q k n i F (pc + 3) lv (.int v :: st)) : VB G p l e R s m args below meth c nL Q k n i F pc lv st := fun H locs ls hP hD hS hz hl => lv_sipush X.1 X.2.1 d hv (kk H locs ls hP hD hS hz hl)
theorem wb_iload_n {i9 : Fin 4} {x : Int32} (X : Cx G p s m args meth c own Ts cc nL rt) (d : decode cc pc = .ok (.iload_n i9, 1)) (j : Nat) (h : lv[j]? = some ((i9 : Nat), .int x)) (kk : VB G p l e R s m args below meth c nL Q k n i F (pc + 1) lv (.int x :: st)) : VB G p l e R s m args below meth c nL Q k n i F pc lv st := fun H locs ls hP hD hS hz hl => lv_iload_n X.1 X.2.1 d rfl (lv_at hl j h) (kk H locs ls hP hD hS hz hl)
theorem wb_iload {i9 : Nat} {x : Int32} (X : Cx G p s m args meth c own Ts cc nL rt) (d : decode cc pc = .ok (.iload i9, 2)) (j : Nat) (h : lv[j]? = some (i9, .int x)) (kk : VB G p l e R s m args below meth c nL Q k n i F (pc + 2) lv (.int x :: st)) : VB G p l e R s m args below meth c nL Q k n i F pc lv st := fun H locs ls hP hD hS hz hl => lv_iload X.1 X.2.1 d (lv_at hl j h) (kk H locs ls hP hD hS hz hl)
theorem wb_aload_n {i9 : Fin 4} {x : Nat} (X : Cx G p s m args meth c own Ts cc nL rt) (d : decode cc pc = .ok (.aload_n i9, 1)) (j : Nat) (h : lv[j]? = some ((i9 : Nat), .ref x)) (kk : VB G p l e R s m args below meth c nL Q k n i F (pc + 1) lv (.ref x :: st)) : VB G p l e R s m args below meth c nL Q k n i F pc lv st := fun H locs ls hP hD hS hz hl => lv_aload_n X.1 X.2.1 d rfl (lv_at hl j h) (kk H locs ls hP hD hS hz hl)
theorem wb_aload {i9 : Nat} {x : Nat} (X : Cx G p s m args meth c own Ts cc nL rt) (d : decode cc pc = .ok (.aload i9, 2)) (j : Nat) (h : lv[j]? = some (i9, .ref x)) (kk : VB G p l e R s m args below meth c nL Q k n i F (pc + 2) lv (.ref x :: st)) : VB G p l e R s m args below meth c nL Q k n i F pc lv st := fun H locs ls hP hD hS hz hl => lv_aload X.1 X.2.1 d (lv_at hl j h) (kk H locs ls hP hD hS hz hl)
theorem wb_istore_n {i9 : Fin 4} {x : Int32} (X : Cx G p s m args meth c own Ts cc nL rt) (d : decode cc pc = .ok (.istore_n i9, 1)) (hn : (i9 : Nat) < nL) (h : lvs lv (i9 : Nat) (.int x) = lv') (kk : VB G p l e R s m args below meth c nL Q k n i F (pc + 1) lv' st) : VB G p l e R s m args below meth c nL Q k n i F pc lv (.int x :: st) := fun H locs ls hP hD hS hz hl => lv_istore_n X.1 X.2.1 d rfl hl hn h (fun ls' hl' => kk H locs ls' hP hD hS hz hl')
theorem wb_istore {i9 : Nat} {x : Int32} (X : Cx G p s m args meth c own Ts cc nL rt) (d : decode cc pc = .ok (.istore i9, 2)) (hn : i9 < nL) (h : lvs lv i9 (.int x) = lv') (kk : VB G p l e R s m args below meth c nL Q k n i F (pc + 2) lv' st) : VB G p l e R s m args below meth c nL Q k n i F pc lv (.int x :: st) := fun H locs ls hP hD hS hz hl => lv_istore X.1 X.2.1 d hl hn h (fun ls' hl' => kk H locs ls' hP hD hS hz hl')
theorem wb_astore_n {i9 : Fin 4} {x : Nat} (X : Cx G p s m args meth c own Ts cc nL rt) (d : decode cc pc = .ok (.astore_n i9, 1)) (hn : (i9 : Nat) < nL) (h : lvs lv (i9 : Nat) (.ref x) = lv') (kk : VB G p l e R s m args below meth c nL Q k n i F (pc + 1) lv' st) : VB G p l e R s m args below meth c nL Q k n i F pc lv (.ref x :: st) := fun H locs ls hP hD hS hz hl => lv_astore_n X.1 X.2.1 d rfl hl hn h (fun ls' hl' => kk H locs ls' hP hD hS hz hl')
theorem wb_iinc {i9 : Nat} {z : Int} {x v : Int32} (X : Cx G p s m args meth c own Ts cc nL rt) (d : decode cc pc = .ok (.iinc i9 z, 3)) (j : Nat) (hj : lv[j]? = some (i9, .int x)) (hv : x + Int32.ofInt z = v) (hn : i9 < nL) (h : lvs lv i9 (.int v) = lv') (kk : VB G p l e R s m args below meth c nL Q k n i F (pc + 3) lv' st) : VB G p l e R s m args below meth c nL Q k n i F pc lv st := fun H locs ls hP hD hS hz hl => lv_iinc X.1 X.2.1 d hl hj hv hn h (fun ls' hl' => kk H locs ls' hP hD hS hz hl')
theorem wb_iadd {x y : Int32} (X : Cx G p s m args meth c own Ts cc nL rt) (d : decode cc pc = .ok (.iadd, 1)) (kk : VB G p l e R s m args below meth c nL Q k n i F (pc + 1) lv (.int (x + y) :: st)) : VB G p l e R s m args below meth c nL Q k n i F pc lv (.int y :: .int x :: st) := fun H locs ls hP hD hS hz hl => lv_iadd X.1 X.2.1 d (kk H locs ls hP hD hS hz hl)
theorem wb_dup {v : Value} (X : Cx G p s m args meth c own Ts cc nL rt) (d : decode cc pc = .ok (.dup, 1)) (hv : v.category = 1) (kk : VB G p l e R s m args below meth c nL Q k n i F (pc + 1) lv (v :: v :: st)) : VB G p l e R s m args below meth c nL Q k n i F pc lv (v :: st) := fun H locs ls hP hD hS hz hl => lv_dup X.1 X.2.1 d hv (kk H locs ls hP hD hS hz hl)
theorem wb_goto {off : Int} {tgt : Nat} (X : Cx G p s m args meth c own Ts cc nL rt) (d : decode cc pc = .ok (.goto off, 3)) (ht : (pc : Int) + off = (tgt : Int)) (kk : VB G p l e R s m args below meth c nL Q k n i F tgt lv st) : VB G p l e R s m args below meth c nL Q k n i F pc lv st := fun H locs ls hP hD hS hz hl => lv_goto X.1 X.2.1 d ht (kk H locs ls hP hD hS hz hl)
theorem wb_mmin {x y : Int32} (X : Cx G p s m args meth c own Ts cc nL rt) (hlink : Cond.methodLink own index Lib.Math.min.name ∈ Ts) (hstat : Cond.static Lib.Math.min.name ∈ Ts) (hini : Cond.initialized "java/lang/Math" ∈ Ts) (hcode : Cond.code Lib.Math.min.name Lib.Math.min.code 2 (some .int) ∈ Ts) (hfr : 1 ≤ R.frames) (hlo : (st.map fun v => v.category).sum + 13 ≤ R.locals) (hc : k ≤ R.cells) (hs : n ≤ R.slots) (d : decode cc pc = .ok (.invokestatic index, 3)) (kk : VB G p l e R s m args below meth c nL Q k n i F (pc + 3) lv (.int (if y < x then y else x) :: st)) : VB G p l e R s m args below meth c nL Q k n i F pc lv (.int y :: .int x :: st) := fun H locs ls hP hD hS hz hl => va_mmin X.1 X.2.1 (X.2.2.1.trans hl.1.symm) X.2.2.2.1 (X.2.2.2.2.1 _ hlink) (X.2.2.2.2.1 _ hstat) (X.2.2.2.2.1 _ hini) (X.2.2.2.2.1 _ hcode) hfr hlo hc hs d (kk H locs ls hP hD hS hz hl)
theorem wb_mmax {x y : Int32} (X : Cx G p s m args meth c own Ts cc nL rt) (hlink : Cond.methodLink own index Lib.Math.max.name ∈ Ts) (hstat : Cond.static Lib.Math.max.name ∈ Ts) (hini : Cond.initialized "java/lang/Math" ∈ Ts) (hcode : Cond.code Lib.Math.max.name Lib.Math.max.code 2 (some .int) ∈ Ts) (hfr : 1 ≤ R.frames) (hlo : (st.map fun v => v.category).sum + 13 ≤ R.locals) (hc : k ≤ R.cells) (hs : n ≤ R.slots) (d : decode cc pc = .ok (.invokestatic index, 3)) (kk : VB G p l e R s m args below meth c nL Q k n i F (pc + 3) lv (.int (if x < y then y else x) :: st)) : VB G p l e R s m args below meth c nL Q k n i F pc lv (.int y :: .int x :: st) := fun H locs ls hP hD hS hz hl => va_mmax X.1 X.2.1 (X.2.2.1.trans hl.1.symm) X.2.2.2.1 (X.2.2.2.2.1 _ hlink) (X.2.2.2.2.1 _ hstat) (X.2.2.2.2.1 _ hini) (X.2.2.2.2.1 _ hcode) hfr hlo hc hs d (kk H locs ls hP hD hS hz hl)
theorem wb_widen {k' n' : Nat} (h1 : k ≤ k') (h2 : n ≤ n') (kk : VB G p l e R s m args below meth c nL Q k' n' i F pc lv st) : VB G p l e R s m args below meth c nL Q k n i F pc lv st := fun H locs ls hP hD hS hz hl => W.widen h1 h2 (kk H locs ls hP hD hS hz hl)
theorem wb_sub {lv lv' : List (Nat × Value)} (is : List Nat) (h : lv_pick lv is = lv') (kk : VB G p l e R s m args below meth c nL Q k n i F pc lv' st) : VB G p l e R s m args below meth c nL Q k n i F pc lv st := fun H locs ls hP hD hS hz hl => kk H locs ls hP hD hS hz (lv_sub hl is h)
theorem wb_F {F' : Nat → va_E} (h : F = F') (kk : VB G p l e R s m args below meth c nL Q k n i F' pc lv st) : VB G p l e R s m args below meth c nL Q k n i F pc lv st := h ▸ kk
theorem wb_obj {a : Nat} (X : Cx G p s m args meth c own Ts cc nL rt) (hlink : Cond.methodLink own index Lib.objectInit ∈ Ts) (hinst : Cond.instanceMethod Lib.objectInit ∈ Ts) (hcode : Cond.code Lib.objectInit ⟨#[0xb1]⟩ 1 none ∈ Ts) (hfr : 1 ≤ R.frames) (hlo : (st.map fun v => v.category).sum + 12 ≤ R.locals) (d : decode cc pc = .ok (.invokespecial index, 3)) (kk : VB G p l e R s m args below meth c nL Q k n i F (pc + 3) lv st) : VB G p l e R s m args below meth c nL Q k n i F pc lv (.ref a :: st) := fun H locs ls hP hD hS hz hl => W.objInit X.1 X.2.1 X.2.2.2.1 (X.2.2.2.2.1 _ hlink) (X.2.2.2.2.1 _ hinst) (X.2.2.2.2.1 _ hcode) rfl (hl.1.trans X.2.2.1.symm) rfl d hfr (by show 2 * 0 + _ + 12 ≤ _; omega) (kk H locs ls hP hD hS hz hl)
theorem wb_new {ci N : Nat} {C : String} {T : u_T} {fs : List Value} (X : Cx G p s m args meth c own Ts cc nL rt) (hin : ∀ w ∈ u_ws C T N, w ∈ Ts) (ty : Nat → FieldType) (hty : ∀ k, k < N → parseFieldDescriptor (T k).2.2.1 = some (ty k)) (hcl : Cond.classLink own index C ∈ Ts) (hinst : Cond.instantiable C N ∈ Ts) (hini : Cond.initialized C ∈ Ts) (hc : vwCl[ci]? = some (C, T, N)) (hfs : ∀ j, j < N → defaultValue (ty j) = vp_V fs j) (hcells : k + 1 ≤ R.cells) (hslots : n + N ≤ R.slots) (d : decode cc pc = .ok (.new index, 3)) (kk : VB G p l e R s m args below meth c nL Q (k + 1) (n + N) (i + 1) (ue F i (.inr (ci, fs))) (pc + 3) lv (rf G i :: st)) : VB G p l e R s m args below meth c nL Q k n i F pc lv st := by
  intro H locs ls hP hD hS hz hl
  have hKn := X.2.2.2.2.2.2.2.1.1 ci _ hc
  refine W.newcK X.1 X.2.1 X.2.2.2.1 (X.2.2.2.2.1 _ hcl) (X.2.2.2.2.1 _ hinst) (X.2.2.2.2.1 _ hini) rfl d hcells hslots hKn.2.1 hz fun H1 kC hkC e1 z1 o1 => ?_
  have hk : ∀ (k : Nat) (x : Nat × va_E), (bl G i F)[k]? = some x → H1[x.1]? = H[x.1]? := fun k x hx => o1 x.1 (by rw [← hz]; exact (hP k x hx).lt)
  refine kk H1 locs ls ?_ ?_ ⟨Nat.le_trans hS.1 (by omega), fun x h1 h2 => (o1 x (by have := hS.1; omega)).trans (hS.2.1 x h1 h2), hS.2.2⟩ z1 hl
  · rw [← bl_push]
    refine (hP.kept hk).app (fun k x hx => ?_)
    have hz9 : k < 1 := (List.getElem?_eq_some_iff.mp hx).1
    rw [show k = 0 by omega] at hx
    cases hx
    exact ⟨_, hc, (u_born ty (X.2.2.2.2.1) hin hKn hkC e1 hty).to hfs⟩
  · rw [← bl_push]
    exact hD.push hP hz.symm (Nat.le_add_right _ _)
theorem wb_newa0 {x : Int32} {N : Nat} (X : Cx G p s m args meth c own Ts cc nL rt) (harr : Cond.arrayClass .int ∈ Ts) (hn : ¬ x < 0) (hN : x.toNatClampNeg = N) (hby : N * componentBytes .int ≤ 536870912) (hcells : k + 1 ≤ R.cells) (hslots : n + N ≤ R.slots) (d : decode cc pc = .ok (.newarray .int, 2)) (kk : VB G p l e R s m args below meth c nL Q (k + 1) (n + N) (i + 1) (ue F i (.inl (G.2.1 0, (N, .inl (fun _ => 0))))) (pc + 2) lv (rf G i :: st)) : VB G p l e R s m args below meth c nL Q k n i F pc lv (.int x :: st) := by
  intro H locs ls hP hD hS hz hl
  refine va_newaK (atype := .int) X.1 X.2.1 (X.2.2.2.2.1 _ harr) rfl d rfl hn hN hby hcells hslots hz fun H1 cA e1 z1 o1 hAr hNm => ?_
  have hcA : cA = G.2.1 0 := Option.some.inj (hNm.symm.trans (X.2.2.2.2.2.2.2.1.2 0 _ rfl).2)
  subst hcA
  have hk : ∀ (k : Nat) (x : Nat × va_E), (bl G i F)[k]? = some x → H1[x.1]? = H[x.1]? := fun k x hx => o1 x.1 (by rw [← hz]; exact (hP k x hx).lt)
  refine kk H1 locs ls ?_ ?_ ⟨Nat.le_trans hS.1 (by omega), fun x h1 h2 => (o1 x (by have := hS.1; omega)).trans (hS.2.1 x h1 h2), hS.2.2⟩ z1 hl
  · rw [← bl_push]
    refine (hP.kept hk).app (fun k x hx => ?_)
    have hz9 : k < 1 := (List.getElem?_eq_some_iff.mp hx).1
    rw [show k = 0 by omega] at hx
    cases hx
    exact e1
  · rw [← bl_push]
    exact hD.push hP hz.symm (Nat.le_add_right _ _)
theorem wb_newa1 {x : Int32} {N : Nat} (X : Cx G p s m args meth c own Ts cc nL rt) (harr : Cond.arrayClass .char ∈ Ts) (hn : ¬ x < 0) (hN : x.toNatClampNeg = N) (hby : N * componentBytes .char ≤ 536870912) (hcells : k + 1 ≤ R.cells) (hslots : n + N ≤ R.slots) (d : decode cc pc = .ok (.newarray .char, 2)) (kk : VB G p l e R s m args below meth c nL Q (k + 1) (n + N) (i + 1) (ue F i (.inl (G.2.1 1, (N, .inl (fun _ => 0))))) (pc + 2) lv (rf G i :: st)) : VB G p l e R s m args below meth c nL Q k n i F pc lv (.int x :: st) := by
  intro H locs ls hP hD hS hz hl
  refine va_newaK (atype := .char) X.1 X.2.1 (X.2.2.2.2.1 _ harr) rfl d rfl hn hN hby hcells hslots hz fun H1 cA e1 z1 o1 hAr hNm => ?_
  have hcA : cA = G.2.1 1 := Option.some.inj (hNm.symm.trans (X.2.2.2.2.2.2.2.1.2 1 _ rfl).2)
  subst hcA
  have hk : ∀ (k : Nat) (x : Nat × va_E), (bl G i F)[k]? = some x → H1[x.1]? = H[x.1]? := fun k x hx => o1 x.1 (by rw [← hz]; exact (hP k x hx).lt)
  refine kk H1 locs ls ?_ ?_ ⟨Nat.le_trans hS.1 (by omega), fun x h1 h2 => (o1 x (by have := hS.1; omega)).trans (hS.2.1 x h1 h2), hS.2.2⟩ z1 hl
  · rw [← bl_push]
    refine (hP.kept hk).app (fun k x hx => ?_)
    have hz9 : k < 1 := (List.getElem?_eq_some_iff.mp hx).1
    rw [show k = 0 by omega] at hx
    cases hx
    exact e1
  · rw [← bl_push]
    exact hD.push hP hz.symm (Nat.le_add_right _ _)
theorem wb_newa2 {x : Int32} {N : Nat} (X : Cx G p s m args meth c own Ts cc nL rt) (harr : Cond.arrayClass .byte ∈ Ts) (hn : ¬ x < 0) (hN : x.toNatClampNeg = N) (hby : N * componentBytes .byte ≤ 536870912) (hcells : k + 1 ≤ R.cells) (hslots : n + N ≤ R.slots) (d : decode cc pc = .ok (.newarray .byte, 2)) (kk : VB G p l e R s m args below meth c nL Q (k + 1) (n + N) (i + 1) (ue F i (.inl (G.2.1 2, (N, .inl (fun _ => 0))))) (pc + 2) lv (rf G i :: st)) : VB G p l e R s m args below meth c nL Q k n i F pc lv (.int x :: st) := by
  intro H locs ls hP hD hS hz hl
  refine va_newaK (atype := .byte) X.1 X.2.1 (X.2.2.2.2.1 _ harr) rfl d rfl hn hN hby hcells hslots hz fun H1 cA e1 z1 o1 hAr hNm => ?_
  have hcA : cA = G.2.1 2 := Option.some.inj (hNm.symm.trans (X.2.2.2.2.2.2.2.1.2 2 _ rfl).2)
  subst hcA
  have hk : ∀ (k : Nat) (x : Nat × va_E), (bl G i F)[k]? = some x → H1[x.1]? = H[x.1]? := fun k x hx => o1 x.1 (by rw [← hz]; exact (hP k x hx).lt)
  refine kk H1 locs ls ?_ ?_ ⟨Nat.le_trans hS.1 (by omega), fun x h1 h2 => (o1 x (by have := hS.1; omega)).trans (hS.2.1 x h1 h2), hS.2.2⟩ z1 hl
  · rw [← bl_push]
    refine (hP.kept hk).app (fun k x hx => ?_)
    have hz9 : k < 1 := (List.getElem?_eq_some_iff.mp hx).1
    rw [show k = 0 by omega] at hx
    cases hx
    exact e1
  · rw [← bl_push]
    exact hD.push hP hz.symm (Nat.le_add_right _ _)
theorem wb_put {q ci kf N : Nat} {fs : List Value} {C ref : String} {T : u_T} {v : Value} {ty : FieldType} (X : Cx G p s m args meth c own Ts cc nL rt) (ty0 : Nat → FieldType) (hty : ∀ k, k < N → parseFieldDescriptor (T k).2.2.1 = some (ty0 k)) (hnm : ∀ a, a < N → ∀ b, b < N → a ≠ b → (T a).2.1 ≠ (T b).2.1) (hq : q < i) (he : F q = .inr (ci, fs)) (hc : vwCl[ci]? = some (C, T, N)) (hin : ∀ w ∈ u_ws C T N, w ∈ Ts) (hk : kf < N) (hlink : Cond.fieldLink own index ref (T kf).2.1 (T kf).2.2.1 ∈ Ts) (hsame : ∀ x, s.fieldFound? (T kf).1 (T kf).2.1 (T kf).2.2.1 = some x → s.fieldFound? ref (T kf).2.1 (T kf).2.2.1 = some x) (hfin : (T kf).2.2.2 = false) (hd : parseFieldDescriptor (T kf).2.2.1 = some ty) (hn : narrow ty v = v) (hfit : fits ty v = true) (hl9 : kf < fs.length) (d : decode cc pc = .ok (.putfield index, 3)) (kk : VB G p l e R s m args below meth c nL Q k n i (ue F q (.inr (ci, fs.set kf v))) (pc + 3) lv st) : VB G p l e R s m args below meth c nL Q k n i F pc lv (v :: rf G q :: st) := by
  intro H locs ls hP hD hS0 hz hl
  have hap := va_apart (own := own) (X.2.2.2.2.1) hin ty0 hty hnm X.2.2.2.2.2.2.2.1 hc
  obtain ⟨r, h1, cell, q1, q2, q3, q4⟩ := hP q (gB G + q, .inr (ci, fs)) (by rw [bl_at hq, he])
  have hr : r = (C, T, N) := Option.some.inj (h1.symm.trans hc)
  subst hr
  obtain ⟨hS, hfc, kC, hkC, hkind⟩ := X.2.2.2.2.2.2.2.1.1 ci _ hc
  obtain ⟨cf, k9, fi, f, hi, hsl⟩ := hS kf hk
  have hlay := X.2.2.2.2.1 _ (hin _ (u_in_lay hk))
  unfold u_lay at hlay
  rw [if_neg (by rw [hfin]; decide)] at hlay
  have hst := (u_facts hfc hkC (u_lays X.2.2.2.2.1 hin hk) hi).1
  have h6 := u_store hfc hkC hkind hlay hi hd hn hfit
  refine W.putK X.1 X.2.1 (f := f) ⟨X.2.2.2.1, X.2.2.2.2.1 _ hlink, ⟨_, _, _, hsame _ hi⟩, hst⟩ (by rw [q2]; exact h6) q1 q3 (by rw [hsl]; exact k2_hasslot (q4 kf hk)) rfl rfl d fun H1 e1 e2 e3 => ?_
  rw [hsl] at e1 ⊢
  refine kk H1 _ ls ?_ ?_ (hS0.put e2 e3 (Nat.le_add_right _ _)) (by rw [e2]; exact hz) hl
  · rw [← bl_set]
    exact hP.set hD (by rw [bl_at hq, he]) ⟨_, hc, t_OB.to (V := updV (vp_V fs) kf v) ⟨_, e1, q2, q3, t_set q4 hap hk v⟩ (fun j _ => vp_updV_set hl9 v j)⟩ e3
  · rw [← bl_set]
    exact hD.set (e0 := F q) (bl_at hq)
theorem wb_putF {q ci kf N : Nat} {fs : List Value} {C ref : String} {T : u_T} {v : Value} {ty : FieldType} (X : Cx G p s m args meth c own Ts cc nL rt) (ty0 : Nat → FieldType) (hty : ∀ k, k < N → parseFieldDescriptor (T k).2.2.1 = some (ty0 k)) (hnm : ∀ a, a < N → ∀ b, b < N → a ≠ b → (T a).2.1 ≠ (T b).2.1) (hq : q < i) (he : F q = .inr (ci, fs)) (hc : vwCl[ci]? = some (C, T, N)) (hin : ∀ w ∈ u_ws C T N, w ∈ Ts) (hk : kf < N) (hlink : Cond.fieldLink own index ref (T kf).2.1 (T kf).2.2.1 ∈ Ts) (hsame : ∀ x, s.fieldFound? (T kf).1 (T kf).2.1 (T kf).2.2.1 = some x → s.fieldFound? ref (T kf).2.1 (T kf).2.2.1 = some x) (hfin : (T kf).2.2.2 = true) (hin2 : meth.name = "<init>") (hdecl : (T kf).1 = own) (hd : parseFieldDescriptor (T kf).2.2.1 = some ty) (hn : narrow ty v = v) (hfit : fits ty v = true) (hl9 : kf < fs.length) (d : decode cc pc = .ok (.putfield index, 3)) (kk : VB G p l e R s m args below meth c nL Q k n i (ue F q (.inr (ci, fs.set kf v))) (pc + 3) lv st) : VB G p l e R s m args below meth c nL Q k n i F pc lv (v :: rf G q :: st) := by
  intro H locs ls hP hD hS0 hz hl
  have hap := va_apart (own := own) (X.2.2.2.2.1) hin ty0 hty hnm X.2.2.2.2.2.2.2.1 hc
  obtain ⟨r, h1, cell, q1, q2, q3, q4⟩ := hP q (gB G + q, .inr (ci, fs)) (by rw [bl_at hq, he])
  have hr : r = (C, T, N) := Option.some.inj (h1.symm.trans hc)
  subst hr
  obtain ⟨hS, hfc, kC, hkC, hkind⟩ := X.2.2.2.2.2.2.2.1.1 ci _ hc
  obtain ⟨cf, k9, fi, f, hi, hsl⟩ := hS kf hk
  have hlay := X.2.2.2.2.1 _ (hin _ (u_in_lay hk))
  unfold u_lay at hlay
  rw [if_pos hfin] at hlay
  have hst := (u_facts hfc hkC (u_lays X.2.2.2.2.1 hin hk) hi).1
  have hcf : m.cls = cf := by
    obtain ⟨_, _, c', _, _, _, -, -, hf', -, -, -, hown2, -⟩ := Cond.laysFinal_spec hlay
    have e1 : c' = cf := by have := hi.symm.trans hf'; simp at this; exact this.1.symm
    rw [hdecl] at hown2
    rw [← e1]; exact Option.some.inj (X.2.2.2.1.symm.trans hown2)
  have h6 := u_fits hfc hkC hkind (Or.inr hlay) hi hd hn hfit
  refine W.putFinK X.1 X.2.1 X.2.2.2.1 (X.2.2.2.2.1 _ hlink) (hsame _ hi) hst hcf hin2 (by rw [q2]; exact h6) q1 q3 (by rw [hsl]; exact k2_hasslot (q4 kf hk)) rfl rfl d fun H1 e1 e2 e3 => ?_
  rw [hsl] at e1 ⊢
  refine kk H1 _ ls ?_ ?_ (hS0.put e2 e3 (Nat.le_add_right _ _)) (by rw [e2]; exact hz) hl
  · rw [← bl_set]
    exact hP.set hD (by rw [bl_at hq, he]) ⟨_, hc, t_OB.to (V := updV (vp_V fs) kf v) ⟨_, e1, q2, q3, t_set q4 hap hk v⟩ (fun j _ => vp_updV_set hl9 v j)⟩ e3
  · rw [← bl_set]
    exact hD.set (e0 := F q) (bl_at hq)
theorem wb_get {q ci kf N : Nat} {fs : List Value} {C ref : String} {T : u_T} {v : Value} (X : Cx G p s m args meth c own Ts cc nL rt) (hq : q < i) (he : F q = .inr (ci, fs)) (hc : vwCl[ci]? = some (C, T, N)) (hin : ∀ w ∈ u_ws C T N, w ∈ Ts) (hk : kf < N) (hsame : ∀ x, s.fieldFound? (T kf).1 (T kf).2.1 (T kf).2.2.1 = some x → s.fieldFound? ref (T kf).2.1 (T kf).2.2.1 = some x) (hv : fs[kf]? = some v) (hlink : Cond.fieldLink own index ref (T kf).2.1 (T kf).2.2.1 ∈ Ts) (d : decode cc pc = .ok (.getfield index, 3)) (kk : VB G p l e R s m args below meth c nL Q k n i F (pc + 3) lv (v :: st)) : VB G p l e R s m args below meth c nL Q k n i F pc lv (rf G q :: st) := fun H locs ls hP hD hS hz hl => va_get X.1 X.2.1 X.2.2.2.2.1 hin X.2.2.2.1 X.2.2.2.2.2.2.2.1 hP q (by rw [bl_at hq, he]) hc kf hk (X.2.2.2.2.1 _ hlink) hsame hv d (kk H locs ls hP hD hS hz hl)
theorem wb_alen {q t : Nat} {x : vp_A} {ty : FieldType} {v : Int32} (X : Cx G p s m args meth c own Ts cc nL rt) (hq : q < i) (he : F q = .inl (G.2.1 t, x)) (ht : (tysG G)[t]? = some (G.2.1 t, ty)) (hv : Int32.ofNat x.1 = v) (d : decode cc pc = .ok (.arraylength, 1)) (kk : VB G p l e R s m args below meth c nL Q k n i F (pc + 1) lv (.int v :: st)) : VB G p l e R s m args below meth c nL Q k n i F pc lv (rf G q :: st) := fun H locs ls hP hD hS hz hl => va_alen X.1 X.2.1 X.2.2.2.2.2.2.2.1 hP q t (by rw [bl_at hq, he]) ht hv d (kk H locs ls hP hD hS hz hl)
theorem wb_iast {q N : Nat} {f : Nat → Int32} {j x : Int32} (X : Cx G p s m args meth c own Ts cc nL rt) (hq : q < i) (he : F q = .inl (G.2.1 0, (N, .inl f))) (hin : vp_in j N) (d : decode cc pc = .ok (.iastore, 1)) (kk : VB G p l e R s m args below meth c nL Q k n i (ue F q (.inl (G.2.1 0, (N, .inl (upd f (ix j) x))))) (pc + 1) lv st) : VB G p l e R s m args below meth c nL Q k n i F pc lv (.int x :: .int j :: rf G q :: st) := by
  intro H locs ls hP hD hS hz hl
  have ha : (bl G i F)[q]? = some (gB G + q, .inl (G.2.1 0, (N, .inl f))) := by rw [bl_at hq, he]
  refine W.iast X.1 X.2.1 (hP q _ ha) ((X.2.2.2.2.2.2.2.1.2 0 _ rfl).1 N (fun j => .int (f j))) (fun q => by cases q) (by show ¬ (j < 0 ∨ (arrV _ _ _).slots.size ≤ _); rw [arrV_size]; exact hin) rfl rfl d fun H1 e z oq => ?_
  refine kk H1 _ ls ?_ ?_ (hS.put z oq (Nat.le_add_right _ _)) (by rw [z]; exact hz) hl
  · rw [← bl_set]
    refine hP.set hD ha ?_ oq
    show H1[gB G + q]? = some (vp_cell _ _)
    rw [e, vp_cell_i, vp_cell_i, arrV_store]
    congr 2
    funext w
    by_cases hw : w = j.toNatClampNeg
    · subst hw
      simp [updV, upd]
    · simp [updV, upd, hw]
  · rw [← bl_set]
    exact hD.set (e0 := F q) (bl_at hq)
theorem wb_icmp_ge {x y : Int32} {off : Int} {tgt : Nat} (X : Cx G p s m args meth c own Ts cc nL rt) (d : decode cc pc = .ok (.if_icmp .ge off, 3)) (ht : (pc : Int) + off = (tgt : Int)) (kA : y ≤ x → VB G p l e R s m args below meth c nL Q k n i F tgt lv st) (kB : ¬ y ≤ x → VB G p l e R s m args below meth c nL Q k n i F (pc + 3) lv st) : VB G p l e R s m args below meth c nL Q k n i F pc lv (.int y :: .int x :: st) := by
  intro H locs ls hP hD hS hz hl
  exact lv_icmp_ge X.1 X.2.1 d ht (fun h => kA h H locs ls hP hD hS hz hl) (fun h => kB (by first | exact h | exact Classical.not_not.mp h) H locs ls hP hD hS hz hl)
theorem wb_icmp_ne {x y : Int32} {off : Int} {tgt : Nat} (X : Cx G p s m args meth c own Ts cc nL rt) (d : decode cc pc = .ok (.if_icmp .ne off, 3)) (ht : (pc : Int) + off = (tgt : Int)) (kA : ¬ x = y → VB G p l e R s m args below meth c nL Q k n i F tgt lv st) (kB : x = y → VB G p l e R s m args below meth c nL Q k n i F (pc + 3) lv st) : VB G p l e R s m args below meth c nL Q k n i F pc lv (.int y :: .int x :: st) := by
  intro H locs ls hP hD hS hz hl
  exact lv_icmp_ne X.1 X.2.1 d ht (fun h => kA h H locs ls hP hD hS hz hl) (fun h => kB (by first | exact h | exact Classical.not_not.mp h) H locs ls hP hD hS hz hl)
theorem wb_if_eq {x : Int32} {off : Int} {tgt : Nat} (X : Cx G p s m args meth c own Ts cc nL rt) (d : decode cc pc = .ok (.ifCond .eq off, 3)) (ht : (pc : Int) + off = (tgt : Int)) (kA : x = 0 → VB G p l e R s m args below meth c nL Q k n i F tgt lv st) (kB : ¬ x = 0 → VB G p l e R s m args below meth c nL Q k n i F (pc + 3) lv st) : VB G p l e R s m args below meth c nL Q k n i F pc lv (.int x :: st) := by
  intro H locs ls hP hD hS hz hl
  exact lv_if_eq X.1 X.2.1 d ht (fun h => kA h H locs ls hP hD hS hz hl) (fun h => kB (by first | exact h | exact Classical.not_not.mp h) H locs ls hP hD hS hz hl)
theorem wb_anewa {x : Int32} {N : Nat} (X : Cx G p s m args meth c own Ts cc nL rt) (hcl : Cond.classLink own index "ScarecrowRegistry$State" ∈ Ts) (hn : ¬ x < 0) (hN : x.toNatClampNeg = N) (hby : N * 4 ≤ 536870912) (hcells : k + 1 ≤ R.cells) (hslots : n + N ≤ R.slots) (d : decode cc pc = .ok (.anewarray index, 3)) (kk : VB G p l e R s m args below meth c nL Q (k + 1) (n + N) (i + 1) (ue F i (.inl (G.2.1 3, (N, .inr (.inr (.inr (.inr (fun _ => none)))))))) (pc + 3) lv (rf G i :: st)) : VB G p l e R s m args below meth c nL Q k n i F pc lv (.int x :: st) := by
  subst hN
  intro H locs ls hP hD hS hz hl
  refine W.anew X.1 X.2.1 X.2.2.2.1 (X.2.2.2.2.1 _ hcl) (va_AO.use X.2.2.2.2.2.2.2.2.2.2.2.2.1.2.2.2.1) rfl d rfl hn hby hcells hslots fun cA kA comp f1 f2 f3 f4 => ?_
  have hcA : cA = G.2.1 3 := by
    obtain ⟨-, -, -, -, -, h5⟩ := (X.2.2.2.2.2.2.2.1.2 3 _ rfl).2
    exact Option.some.inj (f1.symm.trans h5)
  subst hcA
  generalize hH1 : H.push ({ cls := G.2.1 3, slots := Array.replicate x.toNatClampNeg .null, vm := .none } : Cell) = H1
  have z1 : H1.size = gB G + i + 1 := by rw [← hH1, Array.size_push, hz]
  have e1 : H1[gB G + i]? = some (arrV (G.2.1 3) x.toNatClampNeg (fun _ => .null)) := by rw [← hH1, ← hz, Array.getElem?_push_size, ← arrV_new]
  have o1 : ∀ q : Nat, q < gB G + i → H1[q]? = H[q]? := fun q hq => by rw [← hH1, Array.getElem?_push, if_neg (by omega)]
  have hk : ∀ (k : Nat) (x : Nat × va_E), (bl G i F)[k]? = some x → H1[x.1]? = H[x.1]? := fun k x hx => o1 x.1 (by rw [← hz]; exact (hP k x hx).lt)
  rw [hz]
  refine kk H1 locs ls ?_ ?_ ⟨Nat.le_trans hS.1 (by omega), fun x h1 h2 => (o1 x (by have := hS.1; omega)).trans (hS.2.1 x h1 h2), hS.2.2⟩ z1 hl
  · rw [← bl_push]
    refine (hP.kept hk).app (fun k x hx => ?_)
    have hz9 : k < 1 := (List.getElem?_eq_some_iff.mp hx).1
    rw [show k = 0 by omega] at hx
    cases hx
    exact e1
  · rw [← bl_push]
    exact hD.push hP hz.symm (Nat.le_add_right _ _)
theorem wb_aast {q qk N : Nat} {f : Nat → Option Nat} {vs : List Value} {j : Int32} (X : Cx G p s m args meth c own Ts cc nL rt) (hq : q < i) (he : F q = .inl (G.2.1 3, (N, .inr (.inr (.inr (.inr f)))))) (hqk : qk < i) (hv : F qk = .inr (7, vs)) (hin : vp_in j N) (d : decode cc pc = .ok (.aastore, 1)) (kk : VB G p l e R s m args below meth c nL Q k n i (ue F q (.inl (G.2.1 3, (N, .inr (.inr (.inr (.inr (va_up f (ix j) (some (gB G + qk)))))))))) (pc + 1) lv st) : VB G p l e R s m args below meth c nL Q k n i F pc lv (rf G qk :: .int j :: rf G q :: st) := by
  intro H locs ls hP hD hS hz hl
  have ha : (bl G i F)[q]? = some (gB G + q, .inl (G.2.1 3, (N, .inr (.inr (.inr (.inr f)))))) := by rw [bl_at hq, he]
  have hv9 : (bl G i F)[qk]? = some (gB G + qk, .inr (7, vs)) := by rw [bl_at hqk, hv]
  have hlt : j.toNatClampNeg < N := Nat.not_le.mp fun q => hin (Or.inr q)
  have h0 : ¬ j < 0 := fun q => hin (Or.inl q)
  obtain ⟨r', hr', cellV, g1, g2, g3, -⟩ := hP qk _ hv9
  have hcls := (X.2.2.2.2.2.2.2.1.1 7 _ rfl).2
  obtain ⟨kA, comp, k1, k2, k3, -⟩ := (X.2.2.2.2.2.2.2.1.2 3 _ rfl).2
  have hcomp : comp = G.1.1 7 := Option.some.inj (k3.symm.trans hcls.1)
  subst hcomp
  obtain ⟨kC, hkC, -⟩ := hcls.2
  refine W.aast X.1 X.2.1 (hP q _ ha) (fun q h => by cases h) (fun h => by cases h) k1 k2 rfl hkC ⟨h0, by show _ < (arrV _ _ _).slots.size; rw [arrV_size]; exact hlt⟩ g1 (fun q h => by rw [g3] at h; cases h) (by rw [g2]; exact hkC) (by rw [g2]; exact va_assign hcls) rfl rfl d fun H1 e z oq => ?_
  refine kk H1 _ ls ?_ ?_ (hS.put z oq (Nat.le_add_right _ _)) (by rw [z]; exact hz) hl
  · rw [← bl_set]
    refine hP.set hD ha ?_ oq
    show H1[gB G + q]? = some (vp_cell _ _)
    rw [e, vp_cell_q, vp_cell_q, arrV_store]
    congr 2
    funext w
    by_cases hw : w = j.toNatClampNeg
    · subst hw
      simp [updV, va_up, va_rf]
    · simp [updV, va_up, hw]
  · rw [← bl_set]
    exact hD.set (e0 := F q) (bl_at hq)
theorem wb_arrq {q N : Nat} {cA : ClassId} {f g : Nat → Option Nat} (hq : q < i) (he : F q = .inl (cA, (N, .inr (.inr (.inr (.inr f)))))) (hfg : ∀ j, j < N → f j = g j) (kk : VB G p l e R s m args below meth c nL Q k n i (ue F q (.inl (cA, (N, .inr (.inr (.inr (.inr g))))))) pc lv st) : VB G p l e R s m args below meth c nL Q k n i F pc lv st := by
  intro H locs ls hP hD hS hz hl
  have ha : (bl G i F)[q]? = some (gB G + q, .inl (cA, (N, .inr (.inr (.inr (.inr f)))))) := by rw [bl_at hq, he]
  refine kk H locs ls ?_ ?_ hS hz hl
  · rw [← bl_set]
    refine hP.set hD ha ?_ (fun _ _ => rfl)
    have h1 : H[gB G + q]? = some (vp_cell cA (N, .inr (.inr (.inr (.inr f))))) := hP q _ ha
    show H[gB G + q]? = some (vp_cell cA (N, .inr (.inr (.inr (.inr g)))))
    rw [h1, vp_cell_q, vp_cell_q]
    have e9 : (fun j : Fin N => va_rf (f j.val)) = (fun j : Fin N => va_rf (g j.val)) := funext fun j => by rw [hfg j.val j.isLt]
    show some ({ cls := cA, slots := Array.ofFn (n := N) fun j => va_rf (f j.val), vm := .none } : Cell) = some ({ cls := cA, slots := Array.ofFn (n := N) fun j => va_rf (g j.val), vm := .none } : Cell)
    rw [e9]
  · rw [← bl_set]
    exact hD.set (e0 := F q) (bl_at hq)
variable {y : MethodName} {bytes : ByteArray} {ret : Option FieldType} {ws : List Cond} {rm' : Room} {maxL mc9 ms9 : Nat} {As : List Value}
theorem wb_callI {q : Nat} {i' : Nat} {F' : Nat → va_E} (X : Cx G p s m args meth c own Ts cc nL rt) (hM : MB l y ws rm' G (i, F) (rf G q :: As) (i', F') mc9 ms9) (cw : CallB R s args own index y bytes maxL none ws rm' mc9 ms9 As.length ∧ y.name = "<init>" ∧ (Cond.instanceMethod y).before args s = true) (hst : st = As.reverse ++ rf G q :: st') (hsz : (st'.map fun v => v.category).sum ≤ 8) (d : decode cc pc = .ok (.invokespecial index, 3)) (hf : k + mc9 ≤ R.cells ∧ n + ms9 ≤ R.slots) (kk : VB G p l e R s m args below meth c nL Q (k + mc9) (n + ms9) i' F' (pc + 3) lv st') : VB G p l e R s m args below meth c nL Q k n i F pc lv st := by
  intro H locs ls hP hD hS hz hl
  subst hst
  refine va_callv (va_runI (As := As) (rest := st') ⟨X.1, X.2.1, X.2.2.1, X.2.2.2.1, X.2.2.2.2.1⟩ hM cw ⟨PreB.blind, fun U hU hW => ⟨rfl, X.2.2.2.2.2.2.2.to hS hU hW, by rw [hU]; exact hP, hD, by rw [hU]; exact hz⟩⟩ rfl rfl hl.1 rfl (lv_room hsz) d hf) hS (fun q _ h => h) (fun q h => h) (fun u t H1 locs1 ht hvm hw hB hz9 hk hS1 => ?_)
  obtain rfl := hw
  obtain ⟨hP1, hD1, hz1⟩ := hB
  rw [ht] at hP1 hz1
  exact kk H1 locs1 ls hP1 hD1 hS1 hz1 hl
theorem wb_callV {q ci N : Nat} {C : String} {T : u_T} {fs : List Value} {i' : Nat} {F' : Nat → va_E} (X : Cx G p s m args meth c own Ts cc nL rt) (hM : MB l y ws rm' G (i, F) (rf G q :: As) (i', F') mc9 ms9) (cw : CallW R s args own C index y bytes maxL ret ws rm' mc9 ms9 As.length) (hq : q < i) (he : F q = .inr (ci, fs)) (hcl : vwCl[ci]? = some (C, T, N)) (hst : st = As.reverse ++ rf G q :: st') (hsz : (st'.map fun v => v.category).sum ≤ 8) (d : decode cc pc = .ok (.invokevirtual index, 3)) (hf : k + mc9 ≤ R.cells ∧ n + ms9 ≤ R.slots) (kk : VB G p l e R s m args below meth c nL Q (k + mc9) (n + ms9) i' F' (pc + 3) lv st') : VB G p l e R s m args below meth c nL Q k n i F pc lv st := by
  intro H locs ls hP hD hS hz hl
  subst hst
  refine va_callv (va_runV (As := As) (rest := st') ⟨X.1, X.2.1, X.2.2.1, X.2.2.2.1, X.2.2.2.2.1⟩ hM cw ⟨PreB.blind, va_recv X.2.2.2.2.2.2.2.1 hP hcl (by rw [bl_at hq, he]), fun U hU hW => ⟨rfl, X.2.2.2.2.2.2.2.to hS hU hW, by rw [hU]; exact hP, hD, by rw [hU]; exact hz⟩⟩ rfl rfl hl.1 rfl (lv_room hsz) d hf) hS (fun q _ h => h) (fun q h => h) (fun u t H1 locs1 ht hvm hw hB hz9 hk hS1 => ?_)
  obtain rfl := hw
  obtain ⟨hP1, hD1, hz1⟩ := hB
  rw [ht] at hP1 hz1
  exact kk H1 locs1 ls hP1 hD1 hS1 hz1 hl
variable {mc ms : Nat}
theorem wb_vret {r : Nat × (Nat → va_E)} (X : Cx G p s m args meth c own Ts cc nL none) (d : decode cc pc = .ok (.return_, 1)) (hk : k ≤ mc) (hn : n ≤ ms) (hr : r = (i, F)) : VB G p l e R s m args below meth c nL (MQ below (QB G r) args s mc ms (Af G)) k n i F pc lv [] := by
  intro H locs ls hP hD hS hz hl
  refine W.widen hk hn ?_
  exact W.vret X.1 X.2.1 X.2.2.2.2.2.1 (fun t ht hW => ⟨⟨r, rfl, rfl, by rw [hr, ht]; exact hP, by rw [hr]; exact hD, by rw [hr, ht]; exact hz⟩, hS.F ht⟩) hS.2.2 d (hlocks := X.2.2.2.2.2.2.1)
theorem MB_of {y : MethodName} {ws ws' : List Cond} {rm : Room} {av : List Value} {mc ms maxL : Nat} {ret : Option FieldType} {u r : Nat × (Nat → va_E)} (hy : plainName y.cls = true) (hown : y.cls = own) (hw : ws = Cond.code y cc maxL ret :: ws') (hlen : (lg_sl av).length ≤ maxL) (body : ∀ (p : Program) (e : Env) (s : State) (m : MethodId) (args : Array Value) (below : List Frame) (meth : Method) (c : Code), Cx G p s m args meth c own ws cc maxL ret → meth.name = y.name → VB G p l e rm s m args below meth c maxL (MQ below (QB G r) args s mc ms (Af G)) 0 0 u.1 u.2 0 (lv_args 0 av) []) : MB l y ws rm G u av r mc ms := by
  refine Met.ofW (cc := cc) (maxL := maxL) (ret := ret) hy hw ?_
  intro p e s m args below meth c s₁ B hml hv
  obtain ⟨rfl, hK, hP, hD, hz⟩ := hv
  have hl := lv_entry av hlen
  rw [lg_entry_eq]
  exact body p e s m _ below meth c ⟨B.exec, B.bytes, hml, by rw [← hown]; exact findClass_of_methodNamed B.named, atoms_spec (ws := ws) B.pre, B.returns, B.notSynchronized, hK⟩ (name_of_methodNamed B.named B.method).1 s.heap [] _ hP hD va_S.rf hz hl
theorem MBF_of {y : MethodName} {ws ws' : List Cond} {rm : Room} {av : List Value} {mc ms maxL : Nat} {ret : Option FieldType} {u r : Nat × (Nat → va_E)} (hy : plainFor y = true) (hown : y.cls = own) (hw : ws = Cond.code y cc maxL ret :: ws') (hlen : (lg_sl av).length ≤ maxL) (body : ∀ (p : Program) (e : Env) (s : State) (m : MethodId) (args : Array Value) (below : List Frame) (meth : Method) (c : Code), Cx G p s m args meth c own ws cc maxL ret → meth.name = y.name → VB G p l e rm s m args below meth c maxL (MQ below (QB G r) args s mc ms (Af G)) 0 0 u.1 u.2 0 (lv_args 0 av) []) : MB l y ws rm G u av r mc ms := by
  refine va_MetF (cc := cc) (maxL := maxL) (ret := ret) hy hw ?_
  intro p e s m args below meth c s₁ B hml hv
  obtain ⟨rfl, hK, hP, hD, hz⟩ := hv
  have hl := lv_entry av hlen
  rw [lg_entry_eq]
  exact body p e s m _ below meth c ⟨B.exec, B.bytes, hml, by rw [← hown]; exact findClass_of_methodNamed B.named, atoms_spec (ws := ws) B.pre, B.returns, B.notSynchronized, hK⟩ (name_of_methodNamed B.named B.method).1 s.heap [] _ hP hD va_S.rf hz hl
theorem wb_getsP (X : Cx G p s m args meth c own Ts cc nL rt) (hlink : Cond.fieldLink own index "ScarecrowRegistry$Kind" "PUT" "LScarecrowRegistry$Kind;" ∈ Ts) (d : decode cc pc = .ok (.getstatic index, 3)) (kk : VB G p l e R s m args below meth c nL Q k n i F (pc + 3) lv (.ref (adK G 0) :: st)) : VB G p l e R s m args below meth c nL Q k n i F pc lv st := fun H locs ls hP hD hS hz hl => va_gets X.1 X.2.1 (KO_of X).2.2.2.2.2.2.2.2.2.2 hS X.2.2.2.1 (X.2.2.2.2.1 _ hlink) (fun _ h => h) d (kk H locs ls hP hD hS hz hl)
theorem wb_callIN {q : Nat} {host : String} {i' : Nat} {F' : Nat → va_E} (X : Cx G p s m args meth c own Ts cc nL rt) (hM : MB l y ws rm' G (i, F) (rf G q :: As) (i', F') mc9 ms9) (cw : va_CN R s args own index y host bytes maxL none ws rm' mc9 ms9 As.length ∧ y.name = "<init>" ∧ (Cond.instanceMethod y).before args s = true) (hst : st = As.reverse ++ rf G q :: st') (hsz : (st'.map fun v => v.category).sum ≤ 8) (d : decode cc pc = .ok (.invokespecial index, 3)) (hf : k + mc9 ≤ R.cells ∧ n + ms9 ≤ R.slots) (kk : VB G p l e R s m args below meth c nL Q (k + mc9) (n + ms9) i' F' (pc + 3) lv st') : VB G p l e R s m args below meth c nL Q k n i F pc lv st := by
  intro H locs ls hP hD hS hz hl
  subst hst
  refine va_callv (va_runIN (As := As) (rest := st') ⟨X.1, X.2.1, X.2.2.1, X.2.2.2.1, X.2.2.2.2.1⟩ hM cw ⟨PreB.blind, fun U hU hW => ⟨rfl, X.2.2.2.2.2.2.2.to hS hU hW, by rw [hU]; exact hP, hD, by rw [hU]; exact hz⟩⟩ rfl rfl hl.1 rfl (lv_room hsz) d hf) hS (fun q _ h => h) (fun q h => h) (fun u t H1 locs1 ht hvm hw hB hz9 hk hS1 => ?_)
  obtain rfl := hw
  obtain ⟨hP1, hD1, hz1⟩ := hB
  rw [ht] at hP1 hz1
  exact kk H1 locs1 ls hP1 hD1 hS1 hz1 hl
theorem wb_getsC (X : Cx G p s m args meth c own Ts cc nL rt) (hlink : Cond.fieldLink own index "java/lang/String" "COMPACT_STRINGS" "Z" ∈ Ts) (d : decode cc pc = .ok (.getstatic index, 3)) (kk : VB G p l e R s m args below meth c nL Q k n i F (pc + 3) lv (.int 1 :: st)) : VB G p l e R s m args below meth c nL Q k n i F pc lv st := fun H locs ls hP hD hS hz hl => va_gets X.1 X.2.1 (KO_of X).2.2.2.2.2.2.2.2.1 hS X.2.2.2.1 (X.2.2.2.2.1 _ hlink) (fun _ h => h) d (kk H locs ls hP hD hS hz hl)
end TWELVE

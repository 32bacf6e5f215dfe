/-! ===== what stands still: classes, constants, texts ===== -/
def strL : List (String × Nat × String) := [("ScarecrowRegistry$Kind", 58, "put "), ("ScarecrowRegistry$Kind", 60, "n"), ("ScarecrowRegistry$Kind", 66, "move "), ("ScarecrowRegistry$Kind", 68, "d>n"), ("ScarecrowRegistry$Kind", 71, "revoke "), ("ScarecrowRegistry$Kind", 73, "d"), ("ScarecrowRegistry$Kind", 76, "restore "), ("ScarecrowRegistry$Kind", 79, "root "), ("ScarecrowRegistry$Kind", 81, "d n"), ("ScarecrowRegistry$Kind", 84, "issue "), ("ScarecrowRegistry$Kind", 86, "d>d n"), ("ScarecrowRegistry$Kind", 89, "drop "), ("ScarecrowRegistry$Kind", 92, "sow "), ("ScarecrowRegistry$Kind", 94, "n n"), ("ScarecrowRegistry$Kind", 97, "wait "), ("ScarecrowRegistryModel", 172, "ot"), ("ScarecrowRegistryModel", 181, "oke"), ("ScarecrowRegistryModel", 183, "store"), ("ScarecrowRegistryModel", 185, "ut"), ("ScarecrowRegistryModel", 187, "ove"), ("ScarecrowRegistryModel", 192, "ssue"), ("ScarecrowRegistryModel", 194, "rop"), ("ScarecrowRegistryModel", 196, "ow"), ("ScarecrowRegistryModel", 198, "ait"), ("ScarecrowRegistry", 98, "no scarecrow stands there"), ("ScarecrowRegistry", 124, "the scarecrow is not certified"), ("ScarecrowRegistry", 132, "there is no such rank"), ("ScarecrowRegistry", 153, "the registry issued the certificate"), ("ScarecrowRegistry", 177, "the number of days is out of range"), ("ScarecrowRegistry", 207, "there are no certificates"), ("ScarecrowRegistry", 215, "the text buffer is full"), ("ScarecrowRegistry", 231, "the text does not match the grammar"), ("ScarecrowRegistry", 249, "a command of the text failed"), ("ScarecrowRegistry", 255, "no fault position was kept yet"), ("ScarecrowRegistry", 274, "the line has no such character"), ("ScarecrowRegistry", 287, "there is no denial with a cause"), ("ScarecrowRegistry", 292, "there is no change to undo"), ("ScarecrowRegistry", 302, "there is no snapshot"), ("ScarecrowRegistry", 310, "there is no such scarecrow"), ("ScarecrowRegistry", 315, "there is no such certificate"), ("ScarecrowRegistry", 320, "there is no such field"), ("ScarecrowRegistry", 322, "nothing was denied yet"), ("ScarecrowRegistry", 324, "there is no such scarecrow or certificate"), ("ScarecrowRegistry", 326, "there is no such field, or a number is out of range"), ("ScarecrowRegistry", 328, "the call is denied")]
def strD : String × Nat × String := ("", 0, "")
def bytL : List (List Int32) := [[112, 117, 116, 32], [110], [109, 111, 118, 101, 32], [100, 62, 110], [114, 101, 118, 111, 107, 101, 32], [100], [114, 101, 115, 116, 111, 114, 101, 32], [114, 111, 111, 116, 32], [100, 32, 110], [105, 115, 115, 117, 101, 32], [100, 62, 100, 32, 110], [100, 114, 111, 112, 32], [115, 111, 119, 32], [110, 32, 110], [119, 97, 105, 116, 32], [111, 116], [111, 107, 101], [115, 116, 111, 114, 101], [117, 116], [111, 118, 101], [115, 115, 117, 101], [114, 111, 112], [111, 119], [97, 105, 116]]
def nwF : List (String × Nat × String × String × String × String) := [("ScarecrowRegistry", 81, "ScarecrowRegistry$State", "standings", "LScarecrowRegistry$Row;", "ScarecrowRegistry"), ("ScarecrowRegistry", 74, "ScarecrowRegistry$State", "scarecrows", "I", "ScarecrowRegistry"), ("ScarecrowRegistry", 103, "ScarecrowRegistry$State", "revoked", "I", "ScarecrowRegistry"), ("ScarecrowRegistry", 150, "ScarecrowRegistry$State", "issuers", "LScarecrowRegistry$Row;", "ScarecrowRegistry"), ("ScarecrowRegistry", 155, "ScarecrowRegistry$State", "subjects", "LScarecrowRegistry$Row;", "ScarecrowRegistry"), ("ScarecrowRegistry", 158, "ScarecrowRegistry$State", "addresses", "LScarecrowRegistry$Row;", "ScarecrowRegistry"), ("ScarecrowRegistry", 161, "ScarecrowRegistry$State", "lastDays", "LScarecrowRegistry$Row;", "ScarecrowRegistry"), ("ScarecrowRegistry", 144, "ScarecrowRegistry$State", "certificates", "I", "ScarecrowRegistry"), ("ScarecrowRegistry", 190, "ScarecrowRegistry$State", "grains", "LScarecrowRegistry$Row;", "ScarecrowRegistry"), ("ScarecrowRegistry", 118, "ScarecrowRegistry$State", "day", "I", "ScarecrowRegistry"), ("ScarecrowRegistry", 199, "ScarecrowRegistry$State", "eaten", "I", "ScarecrowRegistry"), ("ScarecrowRegistry", 202, "ScarecrowRegistry$State", "sown", "I", "ScarecrowRegistry"), ("ScarecrowRegistry", 289, "ScarecrowRegistry$History", "count", "I", "ScarecrowRegistry"), ("ScarecrowRegistry", 210, "ScarecrowRegistry$CommandText", "length", "I", "ScarecrowRegistry"), ("ScarecrowRegistry", 225, "ScarecrowRegistry$CommandText", "position", "I", "ScarecrowRegistry"), ("ScarecrowRegistry", 342, "ScarecrowRegistry$CommandText", "kind", "LScarecrowRegistry$Kind;", "ScarecrowRegistry"), ("ScarecrowRegistry", 333, "ScarecrowRegistry$CommandText", "parameters", "LScarecrowRegistry$Row;", "ScarecrowRegistry"), ("ScarecrowRegistry$CommandText", 60, "ScarecrowRegistry", "KINDS", "[LScarecrowRegistry$Kind;", "ScarecrowRegistry"), ("ScarecrowRegistry$CommandText", 64, "ScarecrowRegistry$Kind", "word", "Ljava/lang/String;", "ScarecrowRegistry"), ("ScarecrowRegistry$CommandText", 91, "ScarecrowRegistry$Kind", "shape", "Ljava/lang/String;", "ScarecrowRegistry")]
def nwM : List (String × Nat × MethodName × String) := [("ScarecrowRegistry", 34, ⟨"ScarecrowRegistry$CommandText", "<init>", "()V"⟩, "ScarecrowRegistry"), ("ScarecrowRegistry$State", 72, ⟨"ScarecrowRegistry", "has", "(II)Z"⟩, "ScarecrowRegistry"), ("ScarecrowRegistry$State", 93, ⟨"ScarecrowRegistry", "distance", "(II)I"⟩, "ScarecrowRegistry"), ("ScarecrowRegistry$State", 105, ⟨"ScarecrowRegistry", "lookOn", "(I)I"⟩, "ScarecrowRegistry")]
def kndL : List String := ["PUT", "MOVE", "REVOKE", "RESTORE", "ROOT", "ISSUE", "DROP", "SOW", "WAIT"]
def wrdL : List Nat := [0, 2, 4, 6, 7, 9, 11, 12, 14]
def shpL : List Nat := [1, 3, 5, 5, 8, 10, 1, 13, 1]
def dcL : List MethodName := [Bundle.initS Bundle.tN, Bundle.initS "java/lang/RuntimeException", Bundle.initS "java/lang/Exception"]
def lkL : List (Nat × String) := [(15, "java/lang/UnsupportedOperationException"), (13, "java/lang/IllegalArgumentException"), (33, "java/util/NoSuchElementException"), (21, "java/lang/IndexOutOfBoundsException"), (111, "java/lang/IllegalStateException"), (101, "java/lang/ArithmeticException")]
def exL : List String := ["java/lang/IllegalArgumentException", "java/lang/IndexOutOfBoundsException", "java/util/NoSuchElementException", "java/lang/UnsupportedOperationException", "java/lang/IllegalStateException", "java/lang/ArithmeticException"]
/-- the texts' objects, the kinds, the tables -/
def KO (G : Gt) (U : State) (H : Heap) : Prop :=
  (∀ i, i < 24 → va_O "java/lang/String" (sad G i) (Af G) U H ∧ va_OF "java/lang/String" "coder" "B" (.int 0) (sad G i) (Af G) U H ∧ va_OF "java/lang/String" "value" "[B" (.ref (vad G i)) (sad G i) (Af G) U H ∧ va_T .byte (vad G i) (bytL.getD i []).length (fun j => .int ((bytL.getD i []).getD j 0)) (Af G) U H) ∧
  va_En "ScarecrowRegistry$Kind" "LScarecrowRegistry$Kind;" kndL [("java/lang/Enum", "ordinal", "I", [0, 1, 2, 3, 4, 5, 6, 7, 8])] (adK G) (Af G) U H ∧
  va_Ef 9 "ScarecrowRegistry$Kind" "word" "Ljava/lang/String;" (fun i => .ref (sad G (wrdL.getD i 0))) (adK G) (Af G) U H ∧
  va_Ef 9 "ScarecrowRegistry$Kind" "shape" "Ljava/lang/String;" (fun i => .ref (sad G (shpL.getD i 0))) (adK G) (Af G) U H ∧
  (va_Z "ScarecrowRegistry" "KINDS" "[LScarecrowRegistry$Kind;" (.ref (tad G 0)) (Af G) U H ∧ va_T (.object "ScarecrowRegistry$Kind") (tad G 0) 9 (fun j => .ref (adK G j)) (Af G) U H) ∧
  (va_Z "ScarecrowRegistry$1" "$SwitchMap$ScarecrowRegistry$Kind" "[I" (.ref (tad G 1)) (Af G) U H ∧ va_T .int (tad G 1) 9 (fun j => .int (nI (j + 1))) (Af G) U H) ∧
  (va_Z "java/lang/Integer" "DigitOnes" "[B" (.ref (tad G 2)) (Af G) U H ∧ va_T .byte (tad G 2) 100 (fun j => .int (nI (48 + j % 10))) (Af G) U H) ∧
  (va_Z "java/lang/Integer" "DigitTens" "[B" (.ref (tad G 3)) (Af G) U H ∧ va_T .byte (tad G 3) 100 (fun j => .int (nI (48 + j / 10))) (Af G) U H) ∧
  va_Z "java/lang/String" "COMPACT_STRINGS" "Z" (.int 1) (Af G) U H ∧ va_Zq "jdk/internal/util/Preconditions" "SIOOBE_FORMATTER" "Ljava/util/function/BiFunction;" (Af G) U H ∧ va_Z "ScarecrowRegistry$Kind" "PUT" "LScarecrowRegistry$Kind;" (.ref (adK G 0)) (Af G) U H
theorem KO.moved {G : Gt} {u U : State} {H : Heap} (hvm : u.vm.Alike U.vm) (h : KO G u H) : KO G U H := by
  obtain ⟨h1, h2, h3, h4, h5, h6, h7, h8, h9, h10, h11⟩ := h
  exact ⟨fun i hi => ⟨va_O.moved hvm (h1 i hi).1, va_OF.moved hvm (h1 i hi).2.1, va_OF.moved hvm (h1 i hi).2.2.1, va_T.moved hvm (h1 i hi).2.2.2⟩, va_En.moved hvm h2, va_Ef.moved hvm h3, va_Ef.moved hvm h4, ⟨va_Z.moved hvm h5.1, va_T.moved hvm h5.2⟩, ⟨va_Z.moved hvm h6.1, va_T.moved hvm h6.2⟩, ⟨va_Z.moved hvm h7.1, va_T.moved hvm h7.2⟩, ⟨va_Z.moved hvm h8.1, va_T.moved hvm h8.2⟩, va_Z.moved hvm h9, va_Zq.moved hvm h10, va_Z.moved hvm h11⟩
theorem KO.kept {G : Gt} {U : State} {H H1 : Heap} (h : KO G U H) (hq : ∀ a : Nat, a < H.size → ¬ Af G a → H1[a]? = H[a]?) : KO G U H1 := by
  obtain ⟨h1, h2, h3, h4, h5, h6, h7, h8, h9, h10, h11⟩ := h
  exact ⟨fun i hi => ⟨(h1 i hi).1.kept hq, (h1 i hi).2.1.kept hq, (h1 i hi).2.2.1.kept hq, (h1 i hi).2.2.2.kept hq⟩, h2.kept hq, h3.kept hq, h4.kept hq, ⟨h5.1.kept hq, h5.2.kept hq⟩, ⟨h6.1.kept hq, h6.2.kept hq⟩, ⟨h7.1.kept hq, h7.2.kept hq⟩, ⟨h8.1.kept hq, h8.2.kept hq⟩, h9.kept hq, h10.kept hq, h11.kept hq⟩
def KK (G : Gt) (U : State) : Prop :=
  va_K G.1 vwCl (tysG G) U ∧
  ((∀ q ∈ nwF, va_Nw (.fieldLinkNest q.1 q.2.1 q.2.2.1 q.2.2.2.1 q.2.2.2.2.1 q.2.2.2.2.2) U) ∧ ∀ q ∈ nwM, va_Nw (.methodLinkNest q.1 q.2.1 q.2.2.1 q.2.2.2) U) ∧
  (vx_Zq Bundle.tN "UNASSIGNED_STACK" Bundle.steD (Af G) U U.heap ∧ vx_Zq Bundle.tN "SUPPRESSED_SENTINEL" Bundle.listD (Af G) U U.heap) ∧
  (∀ i, i < 45 → vk_R (strL.getD i strD).1 (strL.getD i strD).2.1 (strL.getD i strD).2.2 (sad G i) U) ∧
  KO G U U.heap ∧
  ((∀ a ∈ exL, ∀ b ∈ exL, a ≠ b → va_Nc a b U) ∧ (∀ a ∈ exL, va_Nw (.castable a a) U) ∧ (∀ a ∈ dcL, va_Nw (.declares a) U) ∧ va_AO "ScarecrowRegistry$State" U ∧ ∀ q ∈ lkL, va_Nw (.classLink "ScarecrowRegistryLaw" q.1 q.2) U) ∧
  gB G ≤ U.heap.size
theorem KK.calling {G : Gt} {U : State} {g : JFrame} {mk : MethodId} {a : Array Value} (h : KK G U) : KK G (U.calling g mk a) := by
  obtain ⟨h1, h2, h3, h4, h5, h6, h7⟩ := h
  have hv : U.vm.Alike (U.calling g mk a).vm := Vm.Alike.refl U.vm
  exact ⟨va_K.moved hv h1, ⟨fun q hq => va_Nw.same rfl rfl (h2.1 q hq), fun q hq => va_Nw.same rfl rfl (h2.2 q hq)⟩, ⟨vx_Zq.moved hv h3.1, vx_Zq.moved hv h3.2⟩, fun i hi => vk_R.same rfl (h4 i hi), KO.moved hv h5, ⟨fun a ha b hb hn => va_Nc.moved hv (h6.1 a ha b hb hn), fun a ha => va_Nw.same rfl rfl (h6.2.1 a ha), fun a ha => va_Nw.same rfl rfl (h6.2.2.1 a ha), va_AO.moved hv h6.2.2.2.1, fun q hq => va_Nw.same rfl rfl (h6.2.2.2.2 q hq)⟩, h7⟩
theorem KK.to {G : Gt} {s U : State} {H : Heap} {locs : List Loc} (h : KK G s) (hS : va_S (Af G) s.heap H locs) (hU : U.heap = H) (hW : s.WarmedH U.vm) : KK G U := by
  obtain ⟨h1, h2, h3, h4, h5, h6, h7⟩ := h
  have hv : s.vm.Alike U.vm := hW.alike
  refine ⟨va_K.moved hv h1, ⟨fun q hq => va_Nw.warmF hW (h2.1 q hq), fun q hq => va_Nw.warmM hW (h2.2 q hq)⟩, ⟨?_, ?_⟩, fun i hi => vk_R.warm hW (h4 i hi), ?_, ⟨fun a ha b hb hn => va_Nc.moved hv (h6.1 a ha b hb hn), fun a ha => va_Nw.warmC hW (h6.2.1 a ha), fun a ha => va_Nw.warmD hW (h6.2.2.1 a ha), va_AO.moved hv h6.2.2.2.1, fun q hq => word_at hW (Or.inl rfl) (h6.2.2.2.2 q hq)⟩, ?_⟩
  · rw [hU]; exact vx_Zq.moved hv (h3.1.kept hS.2.1)
  · rw [hU]; exact vx_Zq.moved hv (h3.2.kept hS.2.1)
  · rw [hU]; exact KO.moved hv (h5.kept hS.2.1)
  · rw [hU]; exact Nat.le_trans h7 hS.1
/-! ===== the walk over the world: what a body owes, said of a specification that is walked beside it ===== -/
def Cx (G : Gt) (p : Program) (s : State) (m : MethodId) (args : Array Value) (meth : Method) (c : Code) (own : String) (Ts : List Cond) (cc : ByteArray) (nL : Nat) (rt : Option FieldType) : Prop :=
  p.tables.exec = Jvm.exec ∧ c.code = cc ∧ c.maxLocals = nL ∧ s.vm.findClass own = some m.cls ∧ (∀ w ∈ Ts, w.before args s = true) ∧ meth.sig.returnType = rt ∧ meth.locks = false ∧ KK G s
def VS {ρ : Type} (G : Gt) (p : Program) (l : Launch) (e : Env) (R : Room) (s : State) (m : MethodId) (args : Array Value) (below : List Frame) (meth : Method) (c : Code) (nL : Nat) (Qf : ρ → State → Prop) (sp : Option ρ) (k n : Nat) (S : Wo) (pc : Nat) (lv : List (Nat × Value)) (st : List Value) : Prop :=
  ∀ r, sp = some r → ∀ (H : Heap) (locs : List Loc) (ls : Array Slot), va_P G.1 vwCl (lay G S) H → va_D (Af G) (lay G S) → va_S (Af G) s.heap H locs → lv_has ls nL lv → W p l e R s m args below meth c H locs k n (Qf r) (F0 m pc ls st)
def wr {ρ : Type} (S : Wo) (f : Wo → Option ρ) : Option ρ := f S
def inb (i : Int32) (n : Nat) : Bool := !(decide (i < 0) || decide (n ≤ i.toNatClampNeg))
theorem inb_in {i : Int32} {n : Nat} : inb i n = true ↔ vp_in i n := by
  unfold inb vp_in
  simp
abbrev ix (i : Int32) : Nat := i.toNatClampNeg
abbrev lvs (lv : List (Nat × Value)) (i : Nat) (v : Value) : List (Nat × Value) := (i, v) :: lv.filter (fun q => !(q.1 == i) && !(q.1 + 1 == i && q.2.category == 2))
section ROWS
variable {ρ : Type} {G : Gt} {p : Program} {l : Launch} {e : Env} {R : Room} {s : State} {m : MethodId} {args : Array Value} {below : List Frame} {meth : Method} {c : Code} {nL : Nat} {Qf : ρ → State → Prop} {sp A B : Option ρ} {k n : Nat} {S : Wo} {pc : Nat} {lv lv' : List (Nat × Value)} {st : List Value} {own : String} {Ts : List Cond} {cc : ByteArray} {rt : Option FieldType}
theorem vs_none {sp : Option ρ} (h : sp = none) : VS G p l e R s m args below meth c nL Qf sp k n S pc lv st := fun r hr => by rw [h] at hr; cases hr
theorem vs_eq {sp sp' : Option ρ} (h : sp = sp') (kk : VS G p l e R s m args below meth c nL Qf sp' k n S pc lv st) : VS G p l e R s m args below meth c nL Qf sp k n S pc lv st := h ▸ kk
theorem vs_sub {lv lv' : List (Nat × Value)} (is : List Nat) (h : lv_pick lv is = lv') (kk : VS G p l e R s m args below meth c nL Qf sp k n S pc lv' st) : VS G p l e R s m args below meth c nL Qf sp k n S pc lv st := fun r hr H locs ls hP hD hS hl => kk r hr H locs ls hP hD hS (lv_sub hl is h)
theorem vs_widen {k' n' : Nat} (h1 : k ≤ k') (h2 : n ≤ n') (kk : VS G p l e R s m args below meth c nL Qf sp k' n' S pc lv st) : VS G p l e R s m args below meth c nL Qf sp k n S pc lv st := fun r hr H locs ls hP hD hS hl => W.widen h1 h2 (kk r hr H locs ls hP hD hS hl)
theorem vs_wr {f : Wo → Option ρ} {T : Wo} (kk : ∀ S1, S1 = T → VS G p l e R s m args below meth c nL Qf (f S1) k n S1 pc lv st) (hT : S = T) : VS G p l e R s m args below meth c nL Qf (wr T f) k n S pc lv st := fun r hr => by subst hT; exact kk _ rfl r hr
theorem vs_iconst {i : Int} {v : Int32} (X : Cx G p s m args meth c own Ts cc nL rt) (d : decode cc pc = .ok (.iconst i, 1)) (hv : Int32.ofInt i = v) (kk : VS G p l e R s m args below meth c nL Qf sp k n S (pc + 1) lv (.int v :: st)) : VS G p l e R s m args below meth c nL Qf sp k n S pc lv st := fun r hr H locs ls hP hD hS hl => lv_iconst X.1 X.2.1 d hv (kk r hr H locs ls hP hD hS hl)
theorem vs_bipush {i : Int} {v : Int32} (X : Cx G p s m args meth c own Ts cc nL rt) (d : decode cc pc = .ok (.bipush i, 2)) (hv : (Int8.ofInt i).toInt32 = v) (kk : VS G p l e R s m args below meth c nL Qf sp k n S (pc + 2) lv (.int v :: st)) : VS G p l e R s m args below meth c nL Qf sp k n S pc lv st := fun r hr H locs ls hP hD hS hl => lv_bipush X.1 X.2.1 d hv (kk r hr H locs ls hP hD hS hl)
theorem vs_sipush {i : Int} {v : Int32} (X : Cx G p s m args meth c own Ts cc nL rt) (d : decode cc pc = .ok (.sipush i, 3)) (hv : (Int16.ofInt i).toInt32 = v) (kk : VS G p l e R s m args below meth c nL Qf sp k n S (pc + 3) lv (.int v :: st)) : VS G p l e R s m args below meth c nL Qf sp k n S pc lv st := fun r hr H locs ls hP hD hS hl => lv_sipush X.1 X.2.1 d hv (kk r hr H locs ls hP hD hS hl)
theorem vs_lconst {i : Fin 2} {v : Int64} (X : Cx G p s m args meth c own Ts cc nL rt) (d : decode cc pc = .ok (.lconst i, 1)) (hv : Int64.ofNat (i : Nat) = v) (kk : VS G p l e R s m args below meth c nL Qf sp k n S (pc + 1) lv (.long v :: st)) : VS G p l e R s m args below meth c nL Qf sp k n S pc lv st := fun r hr H locs ls hP hD hS hl => lv_lconst X.1 X.2.1 d hv (kk r hr H locs ls hP hD hS hl)
theorem vs_null (X : Cx G p s m args meth c own Ts cc nL rt) (d : decode cc pc = .ok (.aconst_null, 1)) (kk : VS G p l e R s m args below meth c nL Qf sp k n S (pc + 1) lv (.null :: st)) : VS G p l e R s m args below meth c nL Qf sp k n S pc lv st := fun r hr H locs ls hP hD hS hl => lv_null X.1 X.2.1 d (kk r hr H locs ls hP hD hS hl)
theorem vs_iload_n {i : Fin 4} {x : Int32} (X : Cx G p s m args meth c own Ts cc nL rt) (d : decode cc pc = .ok (.iload_n i, 1)) (j : Nat) (h : lv[j]? = some ((i : Nat), .int x)) (kk : VS G p l e R s m args below meth c nL Qf sp k n S (pc + 1) lv (.int x :: st)) : VS G p l e R s m args below meth c nL Qf sp k n S pc lv st := fun r hr H locs ls hP hD hS hl => lv_iload_n X.1 X.2.1 d rfl (lv_at hl j h) (kk r hr H locs ls hP hD hS hl)
theorem vs_iload {i : Nat} {x : Int32} (X : Cx G p s m args meth c own Ts cc nL rt) (d : decode cc pc = .ok (.iload i, 2)) (j : Nat) (h : lv[j]? = some (i, .int x)) (kk : VS G p l e R s m args below meth c nL Qf sp k n S (pc + 2) lv (.int x :: st)) : VS G p l e R s m args below meth c nL Qf sp k n S pc lv st := fun r hr H locs ls hP hD hS hl => lv_iload X.1 X.2.1 d (lv_at hl j h) (kk r hr H locs ls hP hD hS hl)
theorem vs_aload_n {i : Fin 4} {x : Nat} (X : Cx G p s m args meth c own Ts cc nL rt) (d : decode cc pc = .ok (.aload_n i, 1)) (j : Nat) (h : lv[j]? = some ((i : Nat), .ref x)) (kk : VS G p l e R s m args below meth c nL Qf sp k n S (pc + 1) lv (.ref x :: st)) : VS G p l e R s m args below meth c nL Qf sp k n S pc lv st := fun r hr H locs ls hP hD hS hl => lv_aload_n X.1 X.2.1 d rfl (lv_at hl j h) (kk r hr H locs ls hP hD hS hl)
theorem vs_aload {i : Nat} {x : Nat} (X : Cx G p s m args meth c own Ts cc nL rt) (d : decode cc pc = .ok (.aload i, 2)) (j : Nat) (h : lv[j]? = some (i, .ref x)) (kk : VS G p l e R s m args below meth c nL Qf sp k n S (pc + 2) lv (.ref x :: st)) : VS G p l e R s m args below meth c nL Qf sp k n S pc lv st := fun r hr H locs ls hP hD hS hl => lv_aload X.1 X.2.1 d (lv_at hl j h) (kk r hr H locs ls hP hD hS hl)
theorem vs_istore_n {i : Fin 4} {x : Int32} (X : Cx G p s m args meth c own Ts cc nL rt) (d : decode cc pc = .ok (.istore_n i, 1)) (hn : (i : Nat) < nL) (h : lvs lv (i : Nat) (.int x) = lv') (kk : VS G p l e R s m args below meth c nL Qf sp k n S (pc + 1) lv' st) : VS G p l e R s m args below meth c nL Qf sp k n S pc lv (.int x :: st) := fun r hr H locs ls hP hD hS hl => lv_istore_n X.1 X.2.1 d rfl hl hn h (fun ls' hl' => kk r hr H locs ls' hP hD hS hl')
theorem vs_istore {i : Nat} {x : Int32} (X : Cx G p s m args meth c own Ts cc nL rt) (d : decode cc pc = .ok (.istore i, 2)) (hn : i < nL) (h : lvs lv i (.int x) = lv') (kk : VS G p l e R s m args below meth c nL Qf sp k n S (pc + 2) lv' st) : VS G p l e R s m args below meth c nL Qf sp k n S pc lv (.int x :: st) := fun r hr H locs ls hP hD hS hl => lv_istore X.1 X.2.1 d hl hn h (fun ls' hl' => kk r hr H locs ls' hP hD hS hl')
theorem vs_astore_n {i : Fin 4} {x : Nat} (X : Cx G p s m args meth c own Ts cc nL rt) (d : decode cc pc = .ok (.astore_n i, 1)) (hn : (i : Nat) < nL) (h : lvs lv (i : Nat) (.ref x) = lv') (kk : VS G p l e R s m args below meth c nL Qf sp k n S (pc + 1) lv' st) : VS G p l e R s m args below meth c nL Qf sp k n S pc lv (.ref x :: st) := fun r hr H locs ls hP hD hS hl => lv_astore_n X.1 X.2.1 d rfl hl hn h (fun ls' hl' => kk r hr H locs ls' hP hD hS hl')
theorem vs_astore {i : Nat} {x : Nat} (X : Cx G p s m args meth c own Ts cc nL rt) (d : decode cc pc = .ok (.astore i, 2)) (hn : i < nL) (h : lvs lv i (.ref x) = lv') (kk : VS G p l e R s m args below meth c nL Qf sp k n S (pc + 2) lv' st) : VS G p l e R s m args below meth c nL Qf sp k n S pc lv (.ref x :: st) := fun r hr H locs ls hP hD hS hl => lv_astore X.1 X.2.1 d hl hn h (fun ls' hl' => kk r hr H locs ls' hP hD hS hl')
theorem vs_iinc {i : Nat} {z : Int} {x v : Int32} (X : Cx G p s m args meth c own Ts cc nL rt) (d : decode cc pc = .ok (.iinc i z, 3)) (j : Nat) (hj : lv[j]? = some (i, .int x)) (hv : x + Int32.ofInt z = v) (hn : i < nL) (h : lvs lv i (.int v) = lv') (kk : VS G p l e R s m args below meth c nL Qf sp k n S (pc + 3) lv' st) : VS G p l e R s m args below meth c nL Qf sp k n S pc lv st := fun r hr H locs ls hP hD hS hl => lv_iinc X.1 X.2.1 d hl hj hv hn h (fun ls' hl' => kk r hr H locs ls' hP hD hS hl')
theorem vs_iadd {x y : Int32} (X : Cx G p s m args meth c own Ts cc nL rt) (d : decode cc pc = .ok (.iadd, 1)) (kk : VS G p l e R s m args below meth c nL Qf sp k n S (pc + 1) lv (.int (x + y) :: st)) : VS G p l e R s m args below meth c nL Qf sp k n S pc lv (.int y :: .int x :: st) := fun r hr H locs ls hP hD hS hl => lv_iadd X.1 X.2.1 d (kk r hr H locs ls hP hD hS hl)
theorem vs_isub {x y : Int32} (X : Cx G p s m args meth c own Ts cc nL rt) (d : decode cc pc = .ok (.isub, 1)) (kk : VS G p l e R s m args below meth c nL Qf sp k n S (pc + 1) lv (.int (x - y) :: st)) : VS G p l e R s m args below meth c nL Qf sp k n S pc lv (.int y :: .int x :: st) := fun r hr H locs ls hP hD hS hl => lv_isub X.1 X.2.1 d (kk r hr H locs ls hP hD hS hl)
theorem vs_imul {x y : Int32} (X : Cx G p s m args meth c own Ts cc nL rt) (d : decode cc pc = .ok (.imul, 1)) (kk : VS G p l e R s m args below meth c nL Qf sp k n S (pc + 1) lv (.int (x * y) :: st)) : VS G p l e R s m args below meth c nL Qf sp k n S pc lv (.int y :: .int x :: st) := fun r hr H locs ls hP hD hS hl => lv_imul X.1 X.2.1 d (kk r hr H locs ls hP hD hS hl)
theorem vs_iand {x y : Int32} (X : Cx G p s m args meth c own Ts cc nL rt) (d : decode cc pc = .ok (.iand, 1)) (kk : VS G p l e R s m args below meth c nL Qf sp k n S (pc + 1) lv (.int (x &&& y) :: st)) : VS G p l e R s m args below meth c nL Qf sp k n S pc lv (.int y :: .int x :: st) := fun r hr H locs ls hP hD hS hl => lv_iand X.1 X.2.1 d (kk r hr H locs ls hP hD hS hl)
theorem vs_ior {x y : Int32} (X : Cx G p s m args meth c own Ts cc nL rt) (d : decode cc pc = .ok (.ior, 1)) (kk : VS G p l e R s m args below meth c nL Qf sp k n S (pc + 1) lv (.int (x ||| y) :: st)) : VS G p l e R s m args below meth c nL Qf sp k n S pc lv (.int y :: .int x :: st) := fun r hr H locs ls hP hD hS hl => lv_ior X.1 X.2.1 d (kk r hr H locs ls hP hD hS hl)
theorem vs_ixor {x y : Int32} (X : Cx G p s m args meth c own Ts cc nL rt) (d : decode cc pc = .ok (.ixor, 1)) (kk : VS G p l e R s m args below meth c nL Qf sp k n S (pc + 1) lv (.int (x ^^^ y) :: st)) : VS G p l e R s m args below meth c nL Qf sp k n S pc lv (.int y :: .int x :: st) := fun r hr H locs ls hP hD hS hl => lv_ixor X.1 X.2.1 d (kk r hr H locs ls hP hD hS hl)
theorem vs_idiv {x y : Int32} (X : Cx G p s m args meth c own Ts cc nL rt) (d : decode cc pc = .ok (.idiv, 1)) (hy : ¬ y = 0) (kk : VS G p l e R s m args below meth c nL Qf sp k n S (pc + 1) lv (.int (x / y) :: st)) : VS G p l e R s m args below meth c nL Qf sp k n S pc lv (.int y :: .int x :: st) := fun r hr H locs ls hP hD hS hl => lv_idiv X.1 X.2.1 d hy (kk r hr H locs ls hP hD hS hl)
theorem vs_irem {x y : Int32} (X : Cx G p s m args meth c own Ts cc nL rt) (d : decode cc pc = .ok (.irem, 1)) (hy : ¬ y = 0) (kk : VS G p l e R s m args below meth c nL Qf sp k n S (pc + 1) lv (.int (x - x / y * y) :: st)) : VS G p l e R s m args below meth c nL Qf sp k n S pc lv (.int y :: .int x :: st) := fun r hr H locs ls hP hD hS hl => lv_irem X.1 X.2.1 d hy (kk r hr H locs ls hP hD hS hl)
theorem vs_ineg {x : Int32} (X : Cx G p s m args meth c own Ts cc nL rt) (d : decode cc pc = .ok (.ineg, 1)) (kk : VS G p l e R s m args below meth c nL Qf sp k n S (pc + 1) lv (.int (-x) :: st)) : VS G p l e R s m args below meth c nL Qf sp k n S pc lv (.int x :: st) := fun r hr H locs ls hP hD hS hl => lv_ineg X.1 X.2.1 d (kk r hr H locs ls hP hD hS hl)
theorem vs_ishl {x y : Int32} (X : Cx G p s m args meth c own Ts cc nL rt) (d : decode cc pc = .ok (.ishl, 1)) (kk : VS G p l e R s m args below meth c nL Qf sp k n S (pc + 1) lv (.int (x <<< (y &&& 31)) :: st)) : VS G p l e R s m args below meth c nL Qf sp k n S pc lv (.int y :: .int x :: st) := fun r hr H locs ls hP hD hS hl => lv_ishl X.1 X.2.1 d (kk r hr H locs ls hP hD hS hl)
theorem vs_ishr {x y : Int32} (X : Cx G p s m args meth c own Ts cc nL rt) (d : decode cc pc = .ok (.ishr, 1)) (kk : VS G p l e R s m args below meth c nL Qf sp k n S (pc + 1) lv (.int (x >>> (y &&& 31)) :: st)) : VS G p l e R s m args below meth c nL Qf sp k n S pc lv (.int y :: .int x :: st) := fun r hr H locs ls hP hD hS hl => lv_ishr X.1 X.2.1 d (kk r hr H locs ls hP hD hS hl)
theorem vs_iushr {x y v : Int32} (X : Cx G p s m args meth c own Ts cc nL rt) (d : decode cc pc = .ok (.iushr, 1)) (hv : (x.toUInt32 >>> (y.toUInt32 &&& Int32.toUInt32 31)).toInt32 = v) (kk : VS G p l e R s m args below meth c nL Qf sp k n S (pc + 1) lv (.int v :: st)) : VS G p l e R s m args below meth c nL Qf sp k n S pc lv (.int y :: .int x :: st) := fun r hr H locs ls hP hD hS hl => lv_iushr X.1 X.2.1 d hv (kk r hr H locs ls hP hD hS hl)
theorem vs_i2l {x : Int32} {v : Int64} (X : Cx G p s m args meth c own Ts cc nL rt) (d : decode cc pc = .ok (.i2l, 1)) (hv : x.toInt64 = v) (kk : VS G p l e R s m args below meth c nL Qf sp k n S (pc + 1) lv (.long v :: st)) : VS G p l e R s m args below meth c nL Qf sp k n S pc lv (.int x :: st) := fun r hr H locs ls hP hD hS hl => lv_i2l X.1 X.2.1 d hv (kk r hr H locs ls hP hD hS hl)
theorem vs_i2b {x : Int32} {v : Int32} (X : Cx G p s m args meth c own Ts cc nL rt) (d : decode cc pc = .ok (.i2b, 1)) (hv : x.toInt8.toInt32 = v) (kk : VS G p l e R s m args below meth c nL Qf sp k n S (pc + 1) lv (.int v :: st)) : VS G p l e R s m args below meth c nL Qf sp k n S pc lv (.int x :: st) := fun r hr H locs ls hP hD hS hl => lv_i2b X.1 X.2.1 d hv (kk r hr H locs ls hP hD hS hl)
theorem vs_i2c {x : Int32} {v : Int32} (X : Cx G p s m args meth c own Ts cc nL rt) (d : decode cc pc = .ok (.i2c, 1)) (hv : (x.toUInt32 % 65536).toInt32 = v) (kk : VS G p l e R s m args below meth c nL Qf sp k n S (pc + 1) lv (.int v :: st)) : VS G p l e R s m args below meth c nL Qf sp k n S pc lv (.int x :: st) := fun r hr H locs ls hP hD hS hl => lv_i2c X.1 X.2.1 d hv (kk r hr H locs ls hP hD hS hl)
theorem vs_dup {v : Value} (X : Cx G p s m args meth c own Ts cc nL rt) (d : decode cc pc = .ok (.dup, 1)) (hv : v.category = 1) (kk : VS G p l e R s m args below meth c nL Qf sp k n S (pc + 1) lv (v :: v :: st)) : VS G p l e R s m args below meth c nL Qf sp k n S pc lv (v :: st) := fun r hr H locs ls hP hD hS hl => lv_dup X.1 X.2.1 d hv (kk r hr H locs ls hP hD hS hl)
theorem vs_pop {v : Value} (X : Cx G p s m args meth c own Ts cc nL rt) (d : decode cc pc = .ok (.pop, 1)) (hv : v.category = 1) (kk : VS G p l e R s m args below meth c nL Qf sp k n S (pc + 1) lv st) : VS G p l e R s m args below meth c nL Qf sp k n S pc lv (v :: st) := fun r hr H locs ls hP hD hS hl => lv_pop X.1 X.2.1 d hv (kk r hr H locs ls hP hD hS hl)
theorem vs_dup_x1 {v w : Value} (X : Cx G p s m args meth c own Ts cc nL rt) (d : decode cc pc = .ok (.dup_x1, 1)) (hv : v.category = 1) (hw : w.category = 1) (kk : VS G p l e R s m args below meth c nL Qf sp k n S (pc + 1) lv (v :: w :: v :: st)) : VS G p l e R s m args below meth c nL Qf sp k n S pc lv (v :: w :: st) := fun r hr H locs ls hP hD hS hl => lv_dup_x1 X.1 X.2.1 d hv hw (kk r hr H locs ls hP hD hS hl)
theorem vs_dup2 {v w : Value} (X : Cx G p s m args meth c own Ts cc nL rt) (d : decode cc pc = .ok (.dup2, 1)) (hv : v.category = 1) (hw : w.category = 1) (kk : VS G p l e R s m args below meth c nL Qf sp k n S (pc + 1) lv (v :: w :: v :: w :: st)) : VS G p l e R s m args below meth c nL Qf sp k n S pc lv (v :: w :: st) := fun r hr H locs ls hP hD hS hl => lv_dup2_11 X.1 X.2.1 d hv hw (kk r hr H locs ls hP hD hS hl)
theorem vs_goto {off : Int} {tgt : Nat} (X : Cx G p s m args meth c own Ts cc nL rt) (d : decode cc pc = .ok (.goto off, 3)) (ht : (pc : Int) + off = (tgt : Int)) (kk : VS G p l e R s m args below meth c nL Qf sp k n S tgt lv st) : VS G p l e R s m args below meth c nL Qf sp k n S pc lv st := fun r hr H locs ls hP hD hS hl => lv_goto X.1 X.2.1 d ht (kk r hr H locs ls hP hD hS hl)

theorem vs_if_eq {x : Int32} {off : Int} {tgt : Nat} (X : Cx G p s m args meth c own Ts cc nL rt) (d : decode cc pc = .ok (.ifCond .eq off, 3)) (ht : (pc : Int) + off = (tgt : Int)) (k1 : x = 0 → VS G p l e R s m args below meth c nL Qf A k n S tgt lv st) (k2 : ¬ (x = 0) → VS G p l e R s m args below meth c nL Qf B k n S (pc + 3) lv st) : VS G p l e R s m args below meth c nL Qf (if x = 0 then A else B) k n S pc lv (.int x :: st) := by
  intro r hr H locs ls hP hD hS hl
  exact lv_if_eq X.1 X.2.1 d ht (fun h => k1 h r (by rw [if_pos h] at hr; exact hr) H locs ls hP hD hS hl) (fun h => k2 h r (by rw [if_neg h] at hr; exact hr) H locs ls hP hD hS hl)
theorem vs_icmp_eq {x y : Int32} {off : Int} {tgt : Nat} (X : Cx G p s m args meth c own Ts cc nL rt) (d : decode cc pc = .ok (.if_icmp .eq off, 3)) (ht : (pc : Int) + off = (tgt : Int)) (k1 : x = y → VS G p l e R s m args below meth c nL Qf A k n S tgt lv st) (k2 : ¬ (x = y) → VS G p l e R s m args below meth c nL Qf B k n S (pc + 3) lv st) : VS G p l e R s m args below meth c nL Qf (if x = y then A else B) k n S pc lv (.int y :: .int x :: st) := by
  intro r hr H locs ls hP hD hS hl
  exact lv_icmp_eq X.1 X.2.1 d ht (fun h => k1 h r (by rw [if_pos h] at hr; exact hr) H locs ls hP hD hS hl) (fun h => k2 h r (by rw [if_neg h] at hr; exact hr) H locs ls hP hD hS hl)
theorem vs_if_ne {x : Int32} {off : Int} {tgt : Nat} (X : Cx G p s m args meth c own Ts cc nL rt) (d : decode cc pc = .ok (.ifCond .ne off, 3)) (ht : (pc : Int) + off = (tgt : Int)) (k1 : x = 0 → VS G p l e R s m args below meth c nL Qf A k n S (pc + 3) lv st) (k2 : ¬ (x = 0) → VS G p l e R s m args below meth c nL Qf B k n S tgt lv st) : VS G p l e R s m args below meth c nL Qf (if x = 0 then A else B) k n S pc lv (.int x :: st) := by
  intro r hr H locs ls hP hD hS hl
  exact lv_if_ne X.1 X.2.1 d ht (fun h => k2 h r (by rw [if_neg h] at hr; exact hr) H locs ls hP hD hS hl) (fun h => k1 h r (by rw [if_pos h] at hr; exact hr) H locs ls hP hD hS hl)
theorem vs_icmp_ne {x y : Int32} {off : Int} {tgt : Nat} (X : Cx G p s m args meth c own Ts cc nL rt) (d : decode cc pc = .ok (.if_icmp .ne off, 3)) (ht : (pc : Int) + off = (tgt : Int)) (k1 : x = y → VS G p l e R s m args below meth c nL Qf A k n S (pc + 3) lv st) (k2 : ¬ (x = y) → VS G p l e R s m args below meth c nL Qf B k n S tgt lv st) : VS G p l e R s m args below meth c nL Qf (if x = y then A else B) k n S pc lv (.int y :: .int x :: st) := by
  intro r hr H locs ls hP hD hS hl
  exact lv_icmp_ne X.1 X.2.1 d ht (fun h => k2 h r (by rw [if_neg h] at hr; exact hr) H locs ls hP hD hS hl) (fun h => k1 h r (by rw [if_pos h] at hr; exact hr) H locs ls hP hD hS hl)
theorem vs_if_lt {x : Int32} {off : Int} {tgt : Nat} (X : Cx G p s m args meth c own Ts cc nL rt) (d : decode cc pc = .ok (.ifCond .lt off, 3)) (ht : (pc : Int) + off = (tgt : Int)) (k1 : x < 0 → VS G p l e R s m args below meth c nL Qf A k n S tgt lv st) (k2 : ¬ (x < 0) → VS G p l e R s m args below meth c nL Qf B k n S (pc + 3) lv st) : VS G p l e R s m args below meth c nL Qf (if x < 0 then A else B) k n S pc lv (.int x :: st) := by
  intro r hr H locs ls hP hD hS hl
  exact lv_if_lt X.1 X.2.1 d ht (fun h => k1 h r (by rw [if_pos h] at hr; exact hr) H locs ls hP hD hS hl) (fun h => k2 h r (by rw [if_neg h] at hr; exact hr) H locs ls hP hD hS hl)
theorem vs_icmp_lt {x y : Int32} {off : Int} {tgt : Nat} (X : Cx G p s m args meth c own Ts cc nL rt) (d : decode cc pc = .ok (.if_icmp .lt off, 3)) (ht : (pc : Int) + off = (tgt : Int)) (k1 : x < y → VS G p l e R s m args below meth c nL Qf A k n S tgt lv st) (k2 : ¬ (x < y) → VS G p l e R s m args below meth c nL Qf B k n S (pc + 3) lv st) : VS G p l e R s m args below meth c nL Qf (if x < y then A else B) k n S pc lv (.int y :: .int x :: st) := by
  intro r hr H locs ls hP hD hS hl
  exact lv_icmp_lt X.1 X.2.1 d ht (fun h => k1 h r (by rw [if_pos h] at hr; exact hr) H locs ls hP hD hS hl) (fun h => k2 h r (by rw [if_neg h] at hr; exact hr) H locs ls hP hD hS hl)
theorem vs_if_ge {x : Int32} {off : Int} {tgt : Nat} (X : Cx G p s m args meth c own Ts cc nL rt) (d : decode cc pc = .ok (.ifCond .ge off, 3)) (ht : (pc : Int) + off = (tgt : Int)) (k1 : 0 ≤ x → VS G p l e R s m args below meth c nL Qf A k n S tgt lv st) (k2 : ¬ (0 ≤ x) → VS G p l e R s m args below meth c nL Qf B k n S (pc + 3) lv st) : VS G p l e R s m args below meth c nL Qf (if 0 ≤ x then A else B) k n S pc lv (.int x :: st) := by
  intro r hr H locs ls hP hD hS hl
  exact lv_if_ge X.1 X.2.1 d ht (fun h => k1 h r (by rw [if_pos h] at hr; exact hr) H locs ls hP hD hS hl) (fun h => k2 h r (by rw [if_neg h] at hr; exact hr) H locs ls hP hD hS hl)
theorem vs_icmp_ge {x y : Int32} {off : Int} {tgt : Nat} (X : Cx G p s m args meth c own Ts cc nL rt) (d : decode cc pc = .ok (.if_icmp .ge off, 3)) (ht : (pc : Int) + off = (tgt : Int)) (k1 : y ≤ x → VS G p l e R s m args below meth c nL Qf A k n S tgt lv st) (k2 : ¬ (y ≤ x) → VS G p l e R s m args below meth c nL Qf B k n S (pc + 3) lv st) : VS G p l e R s m args below meth c nL Qf (if y ≤ x then A else B) k n S pc lv (.int y :: .int x :: st) := by
  intro r hr H locs ls hP hD hS hl
  exact lv_icmp_ge X.1 X.2.1 d ht (fun h => k1 h r (by rw [if_pos h] at hr; exact hr) H locs ls hP hD hS hl) (fun h => k2 h r (by rw [if_neg h] at hr; exact hr) H locs ls hP hD hS hl)
theorem vs_if_gt {x : Int32} {off : Int} {tgt : Nat} (X : Cx G p s m args meth c own Ts cc nL rt) (d : decode cc pc = .ok (.ifCond .gt off, 3)) (ht : (pc : Int) + off = (tgt : Int)) (k1 : 0 < x → VS G p l e R s m args below meth c nL Qf A k n S tgt lv st) (k2 : ¬ (0 < x) → VS G p l e R s m args below meth c nL Qf B k n S (pc + 3) lv st) : VS G p l e R s m args below meth c nL Qf (if 0 < x then A else B) k n S pc lv (.int x :: st) := by
  intro r hr H locs ls hP hD hS hl
  exact lv_if_gt X.1 X.2.1 d ht (fun h => k1 h r (by rw [if_pos h] at hr; exact hr) H locs ls hP hD hS hl) (fun h => k2 h r (by rw [if_neg h] at hr; exact hr) H locs ls hP hD hS hl)
theorem vs_icmp_gt {x y : Int32} {off : Int} {tgt : Nat} (X : Cx G p s m args meth c own Ts cc nL rt) (d : decode cc pc = .ok (.if_icmp .gt off, 3)) (ht : (pc : Int) + off = (tgt : Int)) (k1 : y < x → VS G p l e R s m args below meth c nL Qf A k n S tgt lv st) (k2 : ¬ (y < x) → VS G p l e R s m args below meth c nL Qf B k n S (pc + 3) lv st) : VS G p l e R s m args below meth c nL Qf (if y < x then A else B) k n S pc lv (.int y :: .int x :: st) := by
  intro r hr H locs ls hP hD hS hl
  exact lv_icmp_gt X.1 X.2.1 d ht (fun h => k1 h r (by rw [if_pos h] at hr; exact hr) H locs ls hP hD hS hl) (fun h => k2 h r (by rw [if_neg h] at hr; exact hr) H locs ls hP hD hS hl)
theorem vs_if_le {x : Int32} {off : Int} {tgt : Nat} (X : Cx G p s m args meth c own Ts cc nL rt) (d : decode cc pc = .ok (.ifCond .le off, 3)) (ht : (pc : Int) + off = (tgt : Int)) (k1 : x ≤ 0 → VS G p l e R s m args below meth c nL Qf A k n S tgt lv st) (k2 : ¬ (x ≤ 0) → VS G p l e R s m args below meth c nL Qf B k n S (pc + 3) lv st) : VS G p l e R s m args below meth c nL Qf (if x ≤ 0 then A else B) k n S pc lv (.int x :: st) := by
  intro r hr H locs ls hP hD hS hl
  exact lv_if_le X.1 X.2.1 d ht (fun h => k1 h r (by rw [if_pos h] at hr; exact hr) H locs ls hP hD hS hl) (fun h => k2 h r (by rw [if_neg h] at hr; exact hr) H locs ls hP hD hS hl)
theorem vs_icmp_le {x y : Int32} {off : Int} {tgt : Nat} (X : Cx G p s m args meth c own Ts cc nL rt) (d : decode cc pc = .ok (.if_icmp .le off, 3)) (ht : (pc : Int) + off = (tgt : Int)) (k1 : x ≤ y → VS G p l e R s m args below meth c nL Qf A k n S tgt lv st) (k2 : ¬ (x ≤ y) → VS G p l e R s m args below meth c nL Qf B k n S (pc + 3) lv st) : VS G p l e R s m args below meth c nL Qf (if x ≤ y then A else B) k n S pc lv (.int y :: .int x :: st) := by
  intro r hr H locs ls hP hD hS hl
  exact lv_icmp_le X.1 X.2.1 d ht (fun h => k1 h r (by rw [if_pos h] at hr; exact hr) H locs ls hP hD hS hl) (fun h => k2 h r (by rw [if_neg h] at hr; exact hr) H locs ls hP hD hS hl)
theorem vs_ifnull {q : Nat} {off : Int} (X : Cx G p s m args meth c own Ts cc nL rt) (d : decode cc pc = .ok (.ifnull off, 3)) (kk : VS G p l e R s m args below meth c nL Qf sp k n S (pc + 3) lv st) : VS G p l e R s m args below meth c nL Qf sp k n S pc lv (.ref q :: st) := fun r hr H locs ls hP hD hS hl => lv_ifnull X.1 X.2.1 d (kk r hr H locs ls hP hD hS hl)
theorem vs_ifnullN {off : Int} {tgt : Nat} (X : Cx G p s m args meth c own Ts cc nL rt) (d : decode cc pc = .ok (.ifnull off, 3)) (ht : (pc : Int) + off = (tgt : Int)) (kk : VS G p l e R s m args below meth c nL Qf sp k n S tgt lv st) : VS G p l e R s m args below meth c nL Qf sp k n S pc lv (.null :: st) := fun r hr H locs ls hP hD hS hl => lv_ifnullN X.1 X.2.1 d ht (kk r hr H locs ls hP hD hS hl)
theorem vs_get {i ci kf : Nat} {fs : List Value} {C ref : String} {T : u_T} {N index : Nat} {v : Value} (X : Cx G p s m args meth c own Ts cc nL rt) (hi : i < 177) (h5 : i ≠ 165) (hc : cel G S i = .inr (ci, fs)) (hcl : vwCl[ci]? = some (C, T, N)) (hin : ∀ w ∈ u_ws C T N, w ∈ Ts) (hk : kf < N) (hsame : ∀ x, s.fieldFound? (T kf).1 (T kf).2.1 (T kf).2.2.1 = some x → s.fieldFound? ref (T kf).2.1 (T kf).2.2.1 = some x) (hv : fs[kf]? = some v) (hlink : Cond.fieldLink own index ref (T kf).2.1 (T kf).2.2.1 ∈ Ts) (d : decode cc pc = .ok (.getfield index, 3)) (kk : VS G p l e R s m args below meth c nL Qf sp k n S (pc + 3) lv (v :: st)) : VS G p l e R s m args below meth c nL Qf sp k n S pc lv (rf G i :: st) := fun r hr H locs ls hP hD hS hl => va_get X.1 X.2.1 X.2.2.2.2.1 hin X.2.2.2.1 X.2.2.2.2.2.2.2.1 hP i (lay_ne hi h5 hc) hcl kf hk (X.2.2.2.2.1 _ hlink) hsame hv d (kk r hr H locs ls hP hD hS hl)
theorem vs_getN {i ci kf : Nat} {fs : List Value} {C ref : String} {T : u_T} {N index : Nat} {v : Value} {host : String} (X : Cx G p s m args meth c own Ts cc nL rt) (hi : i < 177) (h5 : i ≠ 165) (hc : cel G S i = .inr (ci, fs)) (hcl : vwCl[ci]? = some (C, T, N)) (hin : ∀ w ∈ u_ws C T N, w ∈ Ts) (hk : kf < N) (hsame : ∀ x, s.fieldFound? (T kf).1 (T kf).2.1 (T kf).2.2.1 = some x → s.fieldFound? ref (T kf).2.1 (T kf).2.2.1 = some x) (hv : fs[kf]? = some v) (hlink : (own, index, ref, (T kf).2.1, (T kf).2.2.1, host) ∈ nwF) (d : decode cc pc = .ok (.getfield index, 3)) (kk : VS G p l e R s m args below meth c nL Qf sp k n S (pc + 3) lv (v :: st)) : VS G p l e R s m args below meth c nL Qf sp k n S pc lv (rf G i :: st) := fun r hr H locs ls hP hD hS hl => va_getN X.1 X.2.1 X.2.2.2.2.1 hin X.2.2.2.1 X.2.2.2.2.2.2.2.1 hP i (lay_ne hi h5 hc) hcl kf hk (va_Nw.use rfl (X.2.2.2.2.2.2.2.2.1.1 _ hlink)) hsame hv d (kk r hr H locs ls hP hD hS hl)
theorem vs_put {i ci kf : Nat} {fs : List Value} {C ref : String} {T : u_T} {N index : Nat} {v : Int32} {ty : FieldType} {f : Wo → Option ρ} (X : Cx G p s m args meth c own Ts cc nL rt) (ty0 : Nat → FieldType) (hty : ∀ k, k < N → parseFieldDescriptor (T k).2.2.1 = some (ty0 k)) (hnm : ∀ a, a < N → ∀ b, b < N → a ≠ b → (T a).2.1 ≠ (T b).2.1) (hi : i < 177) (h5 : i ≠ 165) (hc : cel G S i = .inr (ci, fs)) (hcl : vwCl[ci]? = some (C, T, N)) (hin : ∀ w ∈ u_ws C T N, w ∈ Ts) (hk : kf < N) (hsame : ∀ x, s.fieldFound? (T kf).1 (T kf).2.1 (T kf).2.2.1 = some x → s.fieldFound? ref (T kf).2.1 (T kf).2.2.1 = some x) (hfin : (T kf).2.2.2 = false) (hd : parseFieldDescriptor (T kf).2.2.1 = some ty) (hn : narrow ty (.int v) = .int v) (hfit : fits ty (.int v) = true) (hl : kf < fs.length) (hx : cel G (pI S i kf v) i = .inr (ci, fs.set kf (.int v))) (hlink : Cond.fieldLink own index ref (T kf).2.1 (T kf).2.2.1 ∈ Ts) (d : decode cc pc = .ok (.putfield index, 3)) (kk : ∀ S1, S1 = pI S i kf v → VS G p l e R s m args below meth c nL Qf (f S1) k n S1 (pc + 3) lv st) : VS G p l e R s m args below meth c nL Qf (wr (pI S i kf v) f) k n S pc lv (.int v :: rf G i :: st) := by
  intro r hr H locs ls hP hD hS hl9
  refine va_put X.1 X.2.1 X.2.2.2.2.1 hin ty0 hty hnm X.2.2.2.1 X.2.2.2.2.2.2.2.1 hP hD hS i (lay_ne hi h5 hc) hcl kf hk (X.2.2.2.2.1 _ hlink) hsame hfin hd hn hfit hl d (fun H1 locs1 hP1 hD1 hS1 => ?_)
  rw [lay_pI hi h5 hx] at hP1 hD1
  exact kk _ rfl r hr H1 locs1 ls hP1 hD1 hS1 hl9
theorem vs_putN {i ci kf : Nat} {fs : List Value} {C ref : String} {T : u_T} {N index : Nat} {v : Int32} {ty : FieldType} {f : Wo → Option ρ} (X : Cx G p s m args meth c own Ts cc nL rt) (ty0 : Nat → FieldType) (hty : ∀ k, k < N → parseFieldDescriptor (T k).2.2.1 = some (ty0 k)) (hnm : ∀ a, a < N → ∀ b, b < N → a ≠ b → (T a).2.1 ≠ (T b).2.1) (hi : i < 177) (h5 : i ≠ 165) (hc : cel G S i = .inr (ci, fs)) (hcl : vwCl[ci]? = some (C, T, N)) (hin : ∀ w ∈ u_ws C T N, w ∈ Ts) (hk : kf < N) (hsame : ∀ x, s.fieldFound? (T kf).1 (T kf).2.1 (T kf).2.2.1 = some x → s.fieldFound? ref (T kf).2.1 (T kf).2.2.1 = some x) (hfin : (T kf).2.2.2 = false) (hd : parseFieldDescriptor (T kf).2.2.1 = some ty) (hn : narrow ty (.int v) = .int v) (hfit : fits ty (.int v) = true) (hl : kf < fs.length) (hx : cel G (pI S i kf v) i = .inr (ci, fs.set kf (.int v))) {host : String} (hlink : (own, index, ref, (T kf).2.1, (T kf).2.2.1, host) ∈ nwF) (d : decode cc pc = .ok (.putfield index, 3)) (kk : ∀ S1, S1 = pI S i kf v → VS G p l e R s m args below meth c nL Qf (f S1) k n S1 (pc + 3) lv st) : VS G p l e R s m args below meth c nL Qf (wr (pI S i kf v) f) k n S pc lv (.int v :: rf G i :: st) := by
  intro r hr H locs ls hP hD hS hl9
  refine va_putN X.1 X.2.1 X.2.2.2.2.1 hin ty0 hty hnm X.2.2.2.1 X.2.2.2.2.2.2.2.1 hP hD hS i (lay_ne hi h5 hc) hcl kf hk (va_Nw.use rfl (X.2.2.2.2.2.2.2.2.1.1 _ hlink)) hsame hfin hd hn hfit hl d (fun H1 locs1 hP1 hD1 hS1 => ?_)
  rw [lay_pI hi h5 hx] at hP1 hD1
  exact kk _ rfl r hr H1 locs1 ls hP1 hD1 hS1 hl9
theorem vs_iald {a N : Nat} {i : Int32} (X : Cx G p s m args meth c own Ts cc nL rt) (ha : a < 177) (h5 : a ≠ 165) (hc : cel G S a = celArr G S 0 N a) (d : decode cc pc = .ok (.iaload, 1)) (kk : VS G p l e R s m args below meth c nL Qf A k n S (pc + 1) lv (.int (S.2.1 a (ix i)) :: st)) : VS G p l e R s m args below meth c nL Qf (if inb i N = true then A else none) k n S pc lv (.int i :: rf G a :: st) := by
  intro r hr H locs ls hP hD hS hl
  by_cases h : inb i N = true
  · rw [if_pos h] at hr
    exact va_iald X.1 X.2.1 X.2.2.2.2.2.2.2.1 hP a 0 (lay_ne ha h5 hc) rfl (inb_in.mp h) d (kk r hr H locs ls hP hD hS hl)
  · rw [if_neg h] at hr; cases hr
theorem vs_cald {a N : Nat} {i : Int32} (X : Cx G p s m args meth c own Ts cc nL rt) (ha : a < 177) (h5 : a ≠ 165) (hc : cel G S a = celArr G S 1 N a) (d : decode cc pc = .ok (.caload, 1)) (kk : VS G p l e R s m args below meth c nL Qf A k n S (pc + 1) lv (.int (S.2.1 a (ix i)) :: st)) : VS G p l e R s m args below meth c nL Qf (if inb i N = true then A else none) k n S pc lv (.int i :: rf G a :: st) := by
  intro r hr H locs ls hP hD hS hl
  by_cases h : inb i N = true
  · rw [if_pos h] at hr
    exact va_cald X.1 X.2.1 X.2.2.2.2.2.2.2.1 hP a 1 (lay_ne ha h5 hc) rfl (inb_in.mp h) d (kk r hr H locs ls hP hD hS hl)
  · rw [if_neg h] at hr; cases hr
theorem vs_iast {a N : Nat} {i v : Int32} {f : Wo → Option ρ} (X : Cx G p s m args meth c own Ts cc nL rt) (ha : a < 177) (h5 : a ≠ 165) (hc : ∀ S, cel G S a = celArr G S 0 N a) (d : decode cc pc = .ok (.iastore, 1)) (kk : ∀ S1, S1 = pF S a (upd (S.2.1 a) (ix i) v) → VS G p l e R s m args below meth c nL Qf (f S1) k n S1 (pc + 1) lv st) : VS G p l e R s m args below meth c nL Qf (if inb i N = true then wr (pF S a (upd (S.2.1 a) (ix i) v)) f else none) k n S pc lv (.int v :: .int i :: rf G a :: st) := by
  intro r hr H locs ls hP hD hS hl
  by_cases h : inb i N = true
  · rw [if_pos h] at hr
    refine va_iast X.1 X.2.1 X.2.2.2.2.2.2.2.1 hP hD hS a 0 (lay_ne ha h5 (hc S)) rfl (inb_in.mp h) d (fun H1 locs1 hP1 hD1 hS1 => ?_)
    rw [lay_pF (f := upd (S.2.1 a) (ix i) v) ha h5 (x := .inl (G.2.1 0, N, .inl (upd (S.2.1 a) i.toNatClampNeg v))) (by rw [hc]; simp [celArr, pF])] at hP1 hD1
    exact kk _ rfl r hr H1 locs1 ls hP1 hD1 hS1 hl
  · rw [if_neg h] at hr; cases hr
theorem vs_alen0 {a N : Nat} (X : Cx G p s m args meth c own Ts cc nL rt) (ha : a < 177) (h5 : a ≠ 165) (hc : cel G S a = celArr G S 0 N a) (d : decode cc pc = .ok (.arraylength, 1)) {v : Int32} (hv : Int32.ofNat N = v) (kk : VS G p l e R s m args below meth c nL Qf sp k n S (pc + 1) lv (.int v :: st)) : VS G p l e R s m args below meth c nL Qf sp k n S pc lv (rf G a :: st) := fun r hr H locs ls hP hD hS hl => va_alen X.1 X.2.1 X.2.2.2.2.2.2.2.1 hP a 0 (lay_ne ha h5 hc) rfl hv d (kk r hr H locs ls hP hD hS hl)
theorem vs_alen1 {a N : Nat} (X : Cx G p s m args meth c own Ts cc nL rt) (ha : a < 177) (h5 : a ≠ 165) (hc : cel G S a = celArr G S 1 N a) (d : decode cc pc = .ok (.arraylength, 1)) {v : Int32} (hv : Int32.ofNat N = v) (kk : VS G p l e R s m args below meth c nL Qf sp k n S (pc + 1) lv (.int v :: st)) : VS G p l e R s m args below meth c nL Qf sp k n S pc lv (rf G a :: st) := fun r hr H locs ls hP hD hS hl => va_alen X.1 X.2.1 X.2.2.2.2.2.2.2.1 hP a 1 (lay_ne ha h5 hc) rfl hv d (kk r hr H locs ls hP hD hS hl)
end ROWS
/-! ===== contracts over the world, calls, ends ===== -/
def WB (G : Gt) (u : Wo) (t : State) : Prop := va_P G.1 vwCl (lay G u) t.heap ∧ va_D (Af G) (lay G u)
def PreM (G : Gt) (S : Wo) (av : List Value) : Array Value → State → Prop := va_Pc av (fun U => KK G U ∧ WB G S U)
theorem PreM.blind {G : Gt} {S : Wo} {av : List Value} : FrameBlind (PreM G S av) := fun _ _ _ _ q => ⟨q.1, q.2.1.calling, q.2.2⟩
def exN (x : Nat) : String := exL.getD (x - 1) ""
/-- ends: an int, nothing, a reference or null, a double, a float; with and without exceptions -/
def QI (G : Gt) (r : Int32 × Wo) : Array Value → State → Outcome → State → Prop := va_Qi (fun (x : Int32) (u : Wo) => x = r.1 ∧ u = r.2) (WB G) (Af G)
def QV (G : Gt) (r : Wo) : Array Value → State → Outcome → State → Prop := va_Qv (fun u : Wo => u = r) (WB G) (Af G)
def QQ (G : Gt) (r : Option Nat × Wo) : Array Value → State → Outcome → State → Prop := va_Qq (fun (x : Option Nat) (u : Wo) => x = r.1.map (fun i => gB G + i) ∧ u = r.2) (WB G) (Af G)
def QxI (G : Gt) (r : Nat × Int32 × Wo) : Array Value → State → Outcome → State → Prop := va_Qi (fun (x : Int32) (u : Wo) => r.1 = 0 ∧ x = r.2.1 ∧ u = r.2.2) (WB G) (Af G)
def QxV (G : Gt) (r : Nat × Int32 × Wo) : Array Value → State → Outcome → State → Prop := va_Qv (fun u : Wo => r.1 = 0 ∧ u = r.2.2) (WB G) (Af G)
def QxX (G : Gt) (r : Nat × Int32 × Wo) : String → State → State → Prop := vx_X (fun u : Wo => r.1 ≠ 0 ∧ u = r.2.2) (fun E u t => E = exN r.1 ∧ WB G u t) (Af G)
def MI (l : Launch) (y : MethodName) (ws : List Cond) (rm : Room) (G : Gt) (S : Wo) (av : List Value) (r : Int32 × Wo) (mc ms : Nat) : Prop := Met l y ws rm (PreM G S av) (QI G r) mc ms (Af G)
def MV (l : Launch) (y : MethodName) (ws : List Cond) (rm : Room) (G : Gt) (S : Wo) (av : List Value) (r : Wo) (mc ms : Nat) : Prop := Met l y ws rm (PreM G S av) (QV G r) mc ms (Af G)
def MQq (l : Launch) (y : MethodName) (ws : List Cond) (rm : Room) (G : Gt) (S : Wo) (av : List Value) (r : Option Nat × Wo) (mc ms : Nat) : Prop := Met l y ws rm (PreM G S av) (QQ G r) mc ms (Af G)
def MXI (l : Launch) (y : MethodName) (ws : List Cond) (rm : Room) (G : Gt) (S : Wo) (av : List Value) (r : Nat × Int32 × Wo) (mc ms : Nat) : Prop := vx_Met l y ws rm (PreM G S av) (QxI G r) (QxX G r) mc ms (Af G)
def MXV (l : Launch) (y : MethodName) (ws : List Cond) (rm : Room) (G : Gt) (S : Wo) (av : List Value) (r : Nat × Int32 × Wo) (mc ms : Nat) : Prop := vx_Met l y ws rm (PreM G S av) (QxV G r) (QxX G r) mc ms (Af G)
def rz {ρ : Type} (x : Int32) (f : Int32 → Option ρ) : Option ρ := if x = 0 then f 0 else if x = 1 then f 1 else none
def rcc {ρ : Type} (x : Int32) (f : Int32 → Option ρ) : Option ρ := if (x.toUInt32 % 65536).toInt32 = x then f x else none
section CALLS
variable {G : Gt} {p : Program} {l : Launch} {e : Env} {R : Room} {s : State} {m : MethodId} {args : Array Value} {below : List Frame} {meth : Method} {c : Code} {nL : Nat} {k n : Nat} {S : Wo} {pc : Nat} {lv lv' : List (Nat × Value)} {st st' : List Value} {own : String} {Ts : List Cond} {cc : ByteArray} {rt : Option FieldType}
theorem MIF_of {y : MethodName} {ws ws' : List Cond} {rm : Room} {av : List Value} {mc ms maxL : Nat} {ret : Option FieldType} {sp : Option (Int32 × Wo)} (hy : plainFor y = true) (hown : y.cls = own) (hw : ws = Cond.code y cc maxL ret :: ws') (hlen : (lg_sl av).length ≤ maxL) (body : ∀ (p : Program) (e : Env) (s : State) (m : MethodId) (args : Array Value) (below : List Frame) (meth : Method) (c : Code), Cx G p s m args meth c own ws cc maxL ret → VS G p l e rm s m args below meth c maxL (fun r => MQ below (QI G r) args s mc ms (Af G)) sp 0 0 S 0 (lv_args 0 av) []) : ∀ r, sp = some r → MI l y ws rm G S av r mc ms := by
  intro r hr
  refine va_MetF (cc := cc) (maxL := maxL) (ret := ret) hy hw ?_
  intro p e s m args below meth c s₁ B hml hv
  obtain ⟨rfl, hK, hP, hD⟩ := hv
  have hl := lv_entry av hlen
  rw [lg_entry_eq]
  exact body p e s m _ below meth c ⟨B.exec, B.bytes, hml, by rw [← hown]; exact findClass_of_methodNamed B.named, atoms_spec (ws := ws) B.pre, B.returns, B.notSynchronized, hK⟩ r hr s.heap [] _ hP hD va_S.rf hl
theorem MVF_of {y : MethodName} {ws ws' : List Cond} {rm : Room} {av : List Value} {mc ms maxL : Nat} {ret : Option FieldType} {sp : Option (Wo)} (hy : plainFor y = true) (hown : y.cls = own) (hw : ws = Cond.code y cc maxL ret :: ws') (hlen : (lg_sl av).length ≤ maxL) (body : ∀ (p : Program) (e : Env) (s : State) (m : MethodId) (args : Array Value) (below : List Frame) (meth : Method) (c : Code), Cx G p s m args meth c own ws cc maxL ret → VS G p l e rm s m args below meth c maxL (fun r => MQ below (QV G r) args s mc ms (Af G)) sp 0 0 S 0 (lv_args 0 av) []) : ∀ r, sp = some r → MV l y ws rm G S av r mc ms := by
  intro r hr
  refine va_MetF (cc := cc) (maxL := maxL) (ret := ret) hy hw ?_
  intro p e s m args below meth c s₁ B hml hv
  obtain ⟨rfl, hK, hP, hD⟩ := hv
  have hl := lv_entry av hlen
  rw [lg_entry_eq]
  exact body p e s m _ below meth c ⟨B.exec, B.bytes, hml, by rw [← hown]; exact findClass_of_methodNamed B.named, atoms_spec (ws := ws) B.pre, B.returns, B.notSynchronized, hK⟩ r hr s.heap [] _ hP hD va_S.rf hl
theorem MI_of {y : MethodName} {ws ws' : List Cond} {rm : Room} {av : List Value} {mc ms maxL : Nat} {ret : Option FieldType} {sp : Option (Int32 × Wo)} (hy : plainName y.cls = true) (hown : y.cls = own) (hw : ws = Cond.code y cc maxL ret :: ws') (hlen : (lg_sl av).length ≤ maxL) (body : ∀ (p : Program) (e : Env) (s : State) (m : MethodId) (args : Array Value) (below : List Frame) (meth : Method) (c : Code), Cx G p s m args meth c own ws cc maxL ret → VS G p l e rm s m args below meth c maxL (fun r => MQ below (QI G r) args s mc ms (Af G)) sp 0 0 S 0 (lv_args 0 av) []) : ∀ r, sp = some r → MI l y ws rm G S av r mc ms := by
  intro r hr
  refine Met.ofW (cc := cc) (maxL := maxL) (ret := ret) hy hw ?_
  intro p e s m args below meth c s₁ B hml hv
  obtain ⟨rfl, hK, hP, hD⟩ := hv
  have hl := lv_entry av hlen
  rw [lg_entry_eq]
  exact body p e s m _ below meth c ⟨B.exec, B.bytes, hml, by rw [← hown]; exact findClass_of_methodNamed B.named, atoms_spec (ws := ws) B.pre, B.returns, B.notSynchronized, hK⟩ r hr s.heap [] _ hP hD va_S.rf hl
theorem MV_of {y : MethodName} {ws ws' : List Cond} {rm : Room} {av : List Value} {mc ms maxL : Nat} {ret : Option FieldType} {sp : Option (Wo)} (hy : plainName y.cls = true) (hown : y.cls = own) (hw : ws = Cond.code y cc maxL ret :: ws') (hlen : (lg_sl av).length ≤ maxL) (body : ∀ (p : Program) (e : Env) (s : State) (m : MethodId) (args : Array Value) (below : List Frame) (meth : Method) (c : Code), Cx G p s m args meth c own ws cc maxL ret → VS G p l e rm s m args below meth c maxL (fun r => MQ below (QV G r) args s mc ms (Af G)) sp 0 0 S 0 (lv_args 0 av) []) : ∀ r, sp = some r → MV l y ws rm G S av r mc ms := by
  intro r hr
  refine Met.ofW (cc := cc) (maxL := maxL) (ret := ret) hy hw ?_
  intro p e s m args below meth c s₁ B hml hv
  obtain ⟨rfl, hK, hP, hD⟩ := hv
  have hl := lv_entry av hlen
  rw [lg_entry_eq]
  exact body p e s m _ below meth c ⟨B.exec, B.bytes, hml, by rw [← hown]; exact findClass_of_methodNamed B.named, atoms_spec (ws := ws) B.pre, B.returns, B.notSynchronized, hK⟩ r hr s.heap [] _ hP hD va_S.rf hl
theorem MQq_of {y : MethodName} {ws ws' : List Cond} {rm : Room} {av : List Value} {mc ms maxL : Nat} {ret : Option FieldType} {sp : Option (Option Nat × Wo)} (hy : plainName y.cls = true) (hown : y.cls = own) (hw : ws = Cond.code y cc maxL ret :: ws') (hlen : (lg_sl av).length ≤ maxL) (body : ∀ (p : Program) (e : Env) (s : State) (m : MethodId) (args : Array Value) (below : List Frame) (meth : Method) (c : Code), Cx G p s m args meth c own ws cc maxL ret → VS G p l e rm s m args below meth c maxL (fun r => MQ below (QQ G r) args s mc ms (Af G)) sp 0 0 S 0 (lv_args 0 av) []) : ∀ r, sp = some r → MQq l y ws rm G S av r mc ms := by
  intro r hr
  refine Met.ofW (cc := cc) (maxL := maxL) (ret := ret) hy hw ?_
  intro p e s m args below meth c s₁ B hml hv
  obtain ⟨rfl, hK, hP, hD⟩ := hv
  have hl := lv_entry av hlen
  rw [lg_entry_eq]
  exact body p e s m _ below meth c ⟨B.exec, B.bytes, hml, by rw [← hown]; exact findClass_of_methodNamed B.named, atoms_spec (ws := ws) B.pre, B.returns, B.notSynchronized, hK⟩ r hr s.heap [] _ hP hD va_S.rf hl
theorem MXI_of {y : MethodName} {ws ws' : List Cond} {rm : Room} {av : List Value} {mc ms maxL : Nat} {ret : Option FieldType} {sp : Option (Nat × Int32 × Wo)} (hy : plainName y.cls = true) (hown : y.cls = own) (hw : ws = Cond.code y cc maxL ret :: ws') (hlen : (lg_sl av).length ≤ maxL) (body : ∀ (p : Program) (e : Env) (s : State) (m : MethodId) (args : Array Value) (below : List Frame) (meth : Method) (c : Code), Cx G p s m args meth c own ws cc maxL ret → (∀ x ∈ c.exceptionTable.toList, False) → VS G p l e rm s m args below meth c maxL (fun r => vx_MQ below (QxI G r) (QxX G r) args s mc ms (Af G)) sp 0 0 S 0 (lv_args 0 av) []) : ∀ r, sp = some r → MXI l y ws rm G S av r mc ms := by
  intro r hr
  refine vx_ofW (cc := cc) (maxL := maxL) (ret := ret) hy hw ?_
  intro p e s m args below meth c s₁ B hml ht hv
  obtain ⟨rfl, hK, hP, hD⟩ := hv
  have hl := lv_entry av hlen
  rw [lg_entry_eq]
  exact body p e s m _ below meth c ⟨B.exec, B.bytes, hml, by rw [← hown]; exact findClass_of_methodNamed B.named, atoms_spec (ws := ws) B.pre, B.returns, B.notSynchronized, hK⟩ ht r hr s.heap [] _ hP hD va_S.rf hl
theorem MXV_of {y : MethodName} {ws ws' : List Cond} {rm : Room} {av : List Value} {mc ms maxL : Nat} {ret : Option FieldType} {sp : Option (Nat × Int32 × Wo)} (hy : plainName y.cls = true) (hown : y.cls = own) (hw : ws = Cond.code y cc maxL ret :: ws') (hlen : (lg_sl av).length ≤ maxL) (body : ∀ (p : Program) (e : Env) (s : State) (m : MethodId) (args : Array Value) (below : List Frame) (meth : Method) (c : Code), Cx G p s m args meth c own ws cc maxL ret → (∀ x ∈ c.exceptionTable.toList, False) → VS G p l e rm s m args below meth c maxL (fun r => vx_MQ below (QxV G r) (QxX G r) args s mc ms (Af G)) sp 0 0 S 0 (lv_args 0 av) []) : ∀ r, sp = some r → MXV l y ws rm G S av r mc ms := by
  intro r hr
  refine vx_ofW (cc := cc) (maxL := maxL) (ret := ret) hy hw ?_
  intro p e s m args below meth c s₁ B hml ht hv
  obtain ⟨rfl, hK, hP, hD⟩ := hv
  have hl := lv_entry av hlen
  rw [lg_entry_eq]
  exact body p e s m _ below meth c ⟨B.exec, B.bytes, hml, by rw [← hown]; exact findClass_of_methodNamed B.named, atoms_spec (ws := ws) B.pre, B.returns, B.notSynchronized, hK⟩ ht r hr s.heap [] _ hP hD va_S.rf hl
variable {mc ms : Nat}
theorem vs_iret {x : Int32} (X : Cx G p s m args meth c own Ts cc nL (some .int)) (d : decode cc pc = .ok (.ireturn, 1)) (hk : k ≤ mc) (hn : n ≤ ms) : VS G p l e R s m args below meth c nL (fun r => MQ below (QI G r) args s mc ms (Af G)) (some (x, S)) k n S pc lv [.int x] := by
  intro r hr H locs ls hP hD hS hl
  cases hr
  refine W.widen hk hn ?_
  exact W.iret X.1 X.2.1 X.2.2.2.2.2.1 (fun t ht hW => ⟨⟨x, S, rfl, ⟨rfl, rfl⟩, by rw [ht]; exact hP, hD⟩, hS.F ht⟩) hS.2.2 d (hlocks := X.2.2.2.2.2.2.1)
theorem vs_zret {x : Int32} (X : Cx G p s m args meth c own Ts cc nL (some .boolean)) (d : decode cc pc = .ok (.ireturn, 1)) (hk : k ≤ mc) (hn : n ≤ ms) : VS G p l e R s m args below meth c nL (fun r => MQ below (QI G r) args s mc ms (Af G)) (rz x (fun y => some (y, S))) k n S pc lv [.int x] := by
  intro r hr H locs ls hP hD hS hl
  unfold rz at hr
  by_cases h0 : x = 0
  · rw [if_pos h0] at hr
    cases hr
    subst h0
    refine W.widen hk hn ?_
    exact W.zret X.1 X.2.1 X.2.2.2.2.2.1 (by decide) (fun t ht hW => ⟨⟨0, S, rfl, ⟨rfl, rfl⟩, by rw [ht]; exact hP, hD⟩, hS.F ht⟩) hS.2.2 d (hlocks := X.2.2.2.2.2.2.1)
  · rw [if_neg h0] at hr
    by_cases h1 : x = 1
    · rw [if_pos h1] at hr
      cases hr
      subst h1
      refine W.widen hk hn ?_
      exact W.zret X.1 X.2.1 X.2.2.2.2.2.1 (by decide) (fun t ht hW => ⟨⟨1, S, rfl, ⟨rfl, rfl⟩, by rw [ht]; exact hP, hD⟩, hS.F ht⟩) hS.2.2 d (hlocks := X.2.2.2.2.2.2.1)
    · rw [if_neg h1] at hr; cases hr
theorem vs_cret {x : Int32} (X : Cx G p s m args meth c own Ts cc nL (some .char)) (d : decode cc pc = .ok (.ireturn, 1)) (hk : k ≤ mc) (hn : n ≤ ms) : VS G p l e R s m args below meth c nL (fun r => MQ below (QI G r) args s mc ms (Af G)) (rcc x (fun y => some (y, S))) k n S pc lv [.int x] := by
  intro r hr H locs ls hP hD hS hl
  unfold rcc at hr
  by_cases h0 : (x.toUInt32 % 65536).toInt32 = x
  · rw [if_pos h0] at hr
    cases hr
    refine W.widen hk hn ?_
    exact W.zret X.1 X.2.1 X.2.2.2.2.2.1 (by rw [← h0]; exact pk_nc x) (fun t ht hW => ⟨⟨x, S, rfl, ⟨rfl, rfl⟩, by rw [ht]; exact hP, hD⟩, hS.F ht⟩) hS.2.2 d (hlocks := X.2.2.2.2.2.2.1)
  · rw [if_neg h0] at hr; cases hr
theorem vs_vret (X : Cx G p s m args meth c own Ts cc nL none) (d : decode cc pc = .ok (.return_, 1)) (hk : k ≤ mc) (hn : n ≤ ms) : VS G p l e R s m args below meth c nL (fun r => MQ below (QV G r) args s mc ms (Af G)) (some S) k n S pc lv [] := by
  intro r hr H locs ls hP hD hS hl
  cases hr
  refine W.widen hk hn ?_
  exact W.vret X.1 X.2.1 X.2.2.2.2.2.1 (fun t ht hW => ⟨⟨S, rfl, rfl, by rw [ht]; exact hP, hD⟩, hS.F ht⟩) hS.2.2 d (hlocks := X.2.2.2.2.2.2.1)
theorem vs_aret {i : Nat} {cn : String} (X : Cx G p s m args meth c own Ts cc nL (some (.object cn))) (d : decode cc pc = .ok (.areturn, 1)) (hk : k ≤ mc) (hn : n ≤ ms) : VS G p l e R s m args below meth c nL (fun r => MQ below (QQ G r) args s mc ms (Af G)) (some (some i, S)) k n S pc lv [rf G i] := by
  intro r hr H locs ls hP hD hS hl
  cases hr
  refine W.widen hk hn ?_
  exact W.aret X.1 X.2.1 X.2.2.2.2.2.1 (Or.inl ⟨_, rfl⟩) (Or.inr ⟨_, rfl⟩) (fun t ht hW => ⟨⟨some (gB G + i), S, rfl, ⟨rfl, rfl⟩, by rw [ht]; exact hP, hD⟩, hS.F ht⟩) hS.2.2 d (hlocks := X.2.2.2.2.2.2.1)
theorem vs_aretN {cn : String} (X : Cx G p s m args meth c own Ts cc nL (some (.object cn))) (d : decode cc pc = .ok (.areturn, 1)) (hk : k ≤ mc) (hn : n ≤ ms) : VS G p l e R s m args below meth c nL (fun r => MQ below (QQ G r) args s mc ms (Af G)) (some (none, S)) k n S pc lv [.null] := by
  intro r hr H locs ls hP hD hS hl
  cases hr
  refine W.widen hk hn ?_
  exact W.aret X.1 X.2.1 X.2.2.2.2.2.1 (Or.inl ⟨_, rfl⟩) (Or.inl rfl) (fun t ht hW => ⟨⟨none, S, rfl, ⟨rfl, rfl⟩, by rw [ht]; exact hP, hD⟩, hS.F ht⟩) hS.2.2 d (hlocks := X.2.2.2.2.2.2.1)
theorem vs_xiret {x : Int32} (X : Cx G p s m args meth c own Ts cc nL (some .int)) (d : decode cc pc = .ok (.ireturn, 1)) (hk : k ≤ mc) (hn : n ≤ ms) : VS G p l e R s m args below meth c nL (fun r => vx_MQ below (QxI G r) (QxX G r) args s mc ms (Af G)) (some (0, x, S)) k n S pc lv [.int x] := by
  intro r hr H locs ls hP hD hS hl
  cases hr
  refine W.widen hk hn (vx_ret ?_)
  exact W.iret X.1 X.2.1 X.2.2.2.2.2.1 (fun t ht hW => ⟨⟨x, S, rfl, ⟨rfl, rfl, rfl⟩, by rw [ht]; exact hP, hD⟩, hS.F ht⟩) hS.2.2 d (hlocks := X.2.2.2.2.2.2.1)
theorem vs_xzret {x : Int32} (X : Cx G p s m args meth c own Ts cc nL (some .boolean)) (d : decode cc pc = .ok (.ireturn, 1)) (hk : k ≤ mc) (hn : n ≤ ms) : VS G p l e R s m args below meth c nL (fun r => vx_MQ below (QxI G r) (QxX G r) args s mc ms (Af G)) (rz x (fun y => some (0, y, S))) k n S pc lv [.int x] := by
  intro r hr H locs ls hP hD hS hl
  unfold rz at hr
  by_cases h0 : x = 0
  · rw [if_pos h0] at hr
    cases hr
    subst h0
    refine W.widen hk hn (vx_ret ?_)
    exact W.zret X.1 X.2.1 X.2.2.2.2.2.1 (by decide) (fun t ht hW => ⟨⟨0, S, rfl, ⟨rfl, rfl, rfl⟩, by rw [ht]; exact hP, hD⟩, hS.F ht⟩) hS.2.2 d (hlocks := X.2.2.2.2.2.2.1)
  · rw [if_neg h0] at hr
    by_cases h1 : x = 1
    · rw [if_pos h1] at hr
      cases hr
      subst h1
      refine W.widen hk hn (vx_ret ?_)
      exact W.zret X.1 X.2.1 X.2.2.2.2.2.1 (by decide) (fun t ht hW => ⟨⟨1, S, rfl, ⟨rfl, rfl, rfl⟩, by rw [ht]; exact hP, hD⟩, hS.F ht⟩) hS.2.2 d (hlocks := X.2.2.2.2.2.2.1)
    · rw [if_neg h1] at hr; cases hr
theorem vs_xcret {x : Int32} (X : Cx G p s m args meth c own Ts cc nL (some .char)) (d : decode cc pc = .ok (.ireturn, 1)) (hk : k ≤ mc) (hn : n ≤ ms) : VS G p l e R s m args below meth c nL (fun r => vx_MQ below (QxI G r) (QxX G r) args s mc ms (Af G)) (rcc x (fun y => some (0, y, S))) k n S pc lv [.int x] := by
  intro r hr H locs ls hP hD hS hl
  unfold rcc at hr
  by_cases h0 : (x.toUInt32 % 65536).toInt32 = x
  · rw [if_pos h0] at hr
    cases hr
    refine W.widen hk hn (vx_ret ?_)
    exact W.zret X.1 X.2.1 X.2.2.2.2.2.1 (by rw [← h0]; exact pk_nc x) (fun t ht hW => ⟨⟨x, S, rfl, ⟨rfl, rfl, rfl⟩, by rw [ht]; exact hP, hD⟩, hS.F ht⟩) hS.2.2 d (hlocks := X.2.2.2.2.2.2.1)
  · rw [if_neg h0] at hr; cases hr
theorem vs_xvret (X : Cx G p s m args meth c own Ts cc nL none) (d : decode cc pc = .ok (.return_, 1)) (hk : k ≤ mc) (hn : n ≤ ms) : VS G p l e R s m args below meth c nL (fun r => vx_MQ below (QxV G r) (QxX G r) args s mc ms (Af G)) (some (0, 0, S)) k n S pc lv [] := by
  intro r hr H locs ls hP hD hS hl
  cases hr
  refine W.widen hk hn (vx_ret ?_)
  exact W.vret X.1 X.2.1 X.2.2.2.2.2.1 (fun t ht hW => ⟨⟨S, rfl, ⟨rfl, rfl⟩, by rw [ht]; exact hP, hD⟩, hS.F ht⟩) hS.2.2 d (hlocks := X.2.2.2.2.2.2.1)
theorem vs_throwI {ik is ic si xc : Nat} {cls text : String} {names : List String} (X : Cx G p s m args meth c own Ts cc nL rt) (hl0 : l.stackTraces = false) (hT : ∀ x ∈ c.exceptionTable.toList, False) (hcls : Bundle.fit cls = true) (hnames : ∀ n ∈ names, Bundle.fit n = true) (hkl : Cond.classLink own ik cls ∈ Ts) (hini : Cond.initialized cls ∈ Ts) (hsi : si < 45) (hstr : strL.getD si strD = (own, is, text)) (hat1 : ∀ w ∈ (vx_atS own ic cls names).filter goodWord, w ∈ Ts) (hat2 : ∀ w ∈ (vx_atS own ic cls names).filter (fun w => !goodWord w), w ∈ Cond.castable cls cls :: dcL.map Cond.declares) (hca : va_Nw (.castable cls cls) s) (hgood : ∀ w ∈ Cond.classLink own ik cls :: Cond.initialized cls :: vx_atS own ic cls names, vx_ot w = true) (hxc : xc ≠ 0 ∧ exN xc = cls) (d0 : decode cc pc = .ok (.new ik, 3)) (d3 : decode cc (pc + 3) = .ok (.dup, 1)) (d4 : decode cc (pc + 4) = .ok (.ldc is, 2)) (d6 : decode cc (pc + 6) = .ok (.invokespecial ic, 3)) (d9 : decode cc (pc + 9) = .ok (.athrow, 1)) (hRframes : names.length + 3 < R.frames) (hRlocals : (st.map fun v => v.category).sum + (13 * (names.length + 1) + 43) ≤ R.locals) (hRcells : k + 1 ≤ R.cells) (hRslots : n + 6 ≤ R.slots) (hk : k + 1 ≤ mc) (hn : n + 6 ≤ ms) : VS G p l e R s m args below meth c nL (fun r => vx_MQ below (QxI G r) (QxX G r) args s mc ms (Af G)) (some (xc, 0, S)) k n S pc lv st := by
  intro r hr H locs ls hP hD hS hl
  cases hr
  have hstr9 : vk_R own is text (sad G si) s := by
    have h9 := X.2.2.2.2.2.2.2.2.2.2.1 si hsi
    rw [hstr] at h9
    exact h9
  refine vx_throwS (A := Af G) (sa := sad G si) (names := names) X.1 X.2.1 hl0 X.2.2.2.1 hcls hnames (X.2.2.2.2.1 _ hkl) (X.2.2.2.2.1 _ hini) hstr9 (vx_hat (B := Cond.castable cls cls :: dcL.map Cond.declares) (fun w hw => X.2.2.2.2.1 w (hat1 w hw)) hat2 (vx_c (va_Nw.use rfl hca) (fun w hw => by obtain ⟨a, ha, rfl⟩ := List.mem_map.mp hw; exact va_Nw.use rfl (X.2.2.2.2.2.2.2.2.2.2.2.2.1.2.2.1 a ha)))) hgood X.2.2.2.2.2.2.2.2.2.1.1 X.2.2.2.2.2.2.2.2.2.1.2 hS (hl.1.trans X.2.2.1.symm) d0 d3 d4 d6 d9 (fun x hx => absurd (hT x hx) id) hRframes hRlocals hRcells hRslots X.2.2.2.2.2.2.1 (fun t hvm hz hq => ?_) hS.2.2 hk hn
  refine ⟨S, ⟨hxc.1, rfl⟩, ⟨hxc.2.symm, ?_, hD⟩, ?_⟩
  · exact hP.kept (fun j q hj => hq _ ((hP j q hj).lt))
  · exact ⟨Nat.le_trans hS.1 hz, fun q h1 h2 => by rw [hq q (Nat.lt_of_lt_of_le h1 hS.1)]; exact hS.2.1 q h1 h2⟩
theorem vs_throwV {ik is ic si xc : Nat} {cls text : String} {names : List String} (X : Cx G p s m args meth c own Ts cc nL rt) (hl0 : l.stackTraces = false) (hT : ∀ x ∈ c.exceptionTable.toList, False) (hcls : Bundle.fit cls = true) (hnames : ∀ n ∈ names, Bundle.fit n = true) (hkl : Cond.classLink own ik cls ∈ Ts) (hini : Cond.initialized cls ∈ Ts) (hsi : si < 45) (hstr : strL.getD si strD = (own, is, text)) (hat1 : ∀ w ∈ (vx_atS own ic cls names).filter goodWord, w ∈ Ts) (hat2 : ∀ w ∈ (vx_atS own ic cls names).filter (fun w => !goodWord w), w ∈ Cond.castable cls cls :: dcL.map Cond.declares) (hca : va_Nw (.castable cls cls) s) (hgood : ∀ w ∈ Cond.classLink own ik cls :: Cond.initialized cls :: vx_atS own ic cls names, vx_ot w = true) (hxc : xc ≠ 0 ∧ exN xc = cls) (d0 : decode cc pc = .ok (.new ik, 3)) (d3 : decode cc (pc + 3) = .ok (.dup, 1)) (d4 : decode cc (pc + 4) = .ok (.ldc is, 2)) (d6 : decode cc (pc + 6) = .ok (.invokespecial ic, 3)) (d9 : decode cc (pc + 9) = .ok (.athrow, 1)) (hRframes : names.length + 3 < R.frames) (hRlocals : (st.map fun v => v.category).sum + (13 * (names.length + 1) + 43) ≤ R.locals) (hRcells : k + 1 ≤ R.cells) (hRslots : n + 6 ≤ R.slots) (hk : k + 1 ≤ mc) (hn : n + 6 ≤ ms) : VS G p l e R s m args below meth c nL (fun r => vx_MQ below (QxV G r) (QxX G r) args s mc ms (Af G)) (some (xc, 0, S)) k n S pc lv st := by
  intro r hr H locs ls hP hD hS hl
  cases hr
  have hstr9 : vk_R own is text (sad G si) s := by
    have h9 := X.2.2.2.2.2.2.2.2.2.2.1 si hsi
    rw [hstr] at h9
    exact h9
  refine vx_throwS (A := Af G) (sa := sad G si) (names := names) X.1 X.2.1 hl0 X.2.2.2.1 hcls hnames (X.2.2.2.2.1 _ hkl) (X.2.2.2.2.1 _ hini) hstr9 (vx_hat (B := Cond.castable cls cls :: dcL.map Cond.declares) (fun w hw => X.2.2.2.2.1 w (hat1 w hw)) hat2 (vx_c (va_Nw.use rfl hca) (fun w hw => by obtain ⟨a, ha, rfl⟩ := List.mem_map.mp hw; exact va_Nw.use rfl (X.2.2.2.2.2.2.2.2.2.2.2.2.1.2.2.1 a ha)))) hgood X.2.2.2.2.2.2.2.2.2.1.1 X.2.2.2.2.2.2.2.2.2.1.2 hS (hl.1.trans X.2.2.1.symm) d0 d3 d4 d6 d9 (fun x hx => absurd (hT x hx) id) hRframes hRlocals hRcells hRslots X.2.2.2.2.2.2.1 (fun t hvm hz hq => ?_) hS.2.2 hk hn
  refine ⟨S, ⟨hxc.1, rfl⟩, ⟨hxc.2.symm, ?_, hD⟩, ?_⟩
  · exact hP.kept (fun j q hj => hq _ ((hP j q hj).lt))
  · exact ⟨Nat.le_trans hS.1 hz, fun q h1 h2 => by rw [hq q (Nat.lt_of_lt_of_le h1 hS.1)]; exact hS.2.1 q h1 h2⟩
end CALLS
def bd2 {ρ : Type} (q : Option (Int32 × Wo)) (f : Int32 → Wo → Option ρ) : Option ρ := q.bind (fun r => f r.1 r.2)
def bdq {ρ : Type} (q : Option (Option Nat × Wo)) (f : Option Nat → Wo → Option ρ) : Option ρ := q.bind (fun r => f r.1 r.2)
/-- the end of a call that may throw: on with the answer, or out with the exception -/
def bx (q : Option (Nat × Int32 × Wo)) (f : Int32 → Wo → Option (Nat × Int32 × Wo)) : Option (Nat × Int32 × Wo) := q.bind (fun r => if r.1 = 0 then f r.2.1 r.2.2 else some (r.1, 0, r.2.2))
def oq {ρ : Type} (x : Option Nat) (a : Option ρ) (b : Nat → Option ρ) : Option ρ := match x with
  | none => a
  | some j => b j
section CALLS2
variable {ρ : Type} {G : Gt} {p : Program} {l : Launch} {e : Env} {R : Room} {s : State} {m : MethodId} {args : Array Value} {below : List Frame} {meth : Method} {c : Code} {nL : Nat} {Qf : ρ → State → Prop} {k n : Nat} {S : Wo} {pc : Nat} {lv lv' : List (Nat × Value)} {st st' : List Value} {own : String} {Ts : List Cond} {cc : ByteArray} {rt : Option FieldType}
variable {y : MethodName} {bytes : ByteArray} {maxL mc ms index bi ci N : Nat} {ret : Option FieldType} {ws : List Cond} {rm' : Room} {C host : String} {T : u_T} {fs : List Value} {As : List Value}
theorem vs_callVi {spc : Option (Int32 × Wo)} {f : Int32 → Wo → Option ρ} (X : Cx G p s m args meth c own Ts cc nL rt) (hM : ∀ r, spc = some r → MI l y ws rm' G S (rf G bi :: As) r mc ms) (cw : CallW R s args own C index y bytes maxL ret ws rm' mc ms As.length) (hi : bi < 177) (h5 : bi ≠ 165) (hc : cel G S bi = .inr (ci, fs)) (hcl : vwCl[ci]? = some (C, T, N)) (hst : st = As.reverse ++ rf G bi :: st') (hsz : (st'.map fun v => v.category).sum ≤ 8) (d : decode cc pc = .ok (.invokevirtual index, 3)) (hf : k + mc ≤ R.cells ∧ n + ms ≤ R.slots) (kk : ∀ (x : Int32) (S1 : Wo), spc = some (x, S1) → VS G p l e R s m args below meth c nL Qf (f x S1) (k + mc) (n + ms) S1 (pc + 3) lv (.int x :: st')) : VS G p l e R s m args below meth c nL Qf (bd2 spc f) k n S pc lv st := by
  intro r hr H locs ls hP hD hS hl
  obtain ⟨q, hq, hf9⟩ := Option.bind_eq_some_iff.mp hr
  subst hst
  refine va_calli (va_runV (As := As) (rest := st') ⟨X.1, X.2.1, X.2.2.1, X.2.2.2.1, X.2.2.2.2.1⟩ (hM q hq) cw ⟨PreM.blind, va_recv X.2.2.2.2.2.2.2.1 hP hcl (lay_ne hi h5 hc), fun U hU hW => ⟨rfl, X.2.2.2.2.2.2.2.to hS hU hW, by rw [hU]; exact hP, hD⟩⟩ rfl rfl hl.1 rfl (lv_room hsz) d hf) hS (fun q _ h => h) (fun q h => h) (fun x u t H1 locs1 ht hvm hw hB hz hk hS1 => ?_)
  obtain ⟨rfl, rfl⟩ := hw
  obtain ⟨hP1, hD1⟩ := hB
  rw [ht] at hP1
  exact kk _ _ hq r hf9 H1 locs1 ls hP1 hD1 hS1 hl
theorem vs_callVv {spc : Option (Wo)} {f : Wo → Option ρ} (X : Cx G p s m args meth c own Ts cc nL rt) (hM : ∀ r, spc = some r → MV l y ws rm' G S (rf G bi :: As) r mc ms) (cw : CallW R s args own C index y bytes maxL ret ws rm' mc ms As.length) (hi : bi < 177) (h5 : bi ≠ 165) (hc : cel G S bi = .inr (ci, fs)) (hcl : vwCl[ci]? = some (C, T, N)) (hst : st = As.reverse ++ rf G bi :: st') (hsz : (st'.map fun v => v.category).sum ≤ 8) (d : decode cc pc = .ok (.invokevirtual index, 3)) (hf : k + mc ≤ R.cells ∧ n + ms ≤ R.slots) (kk : ∀ (S1 : Wo), spc = some S1 → VS G p l e R s m args below meth c nL Qf (f S1) (k + mc) (n + ms) S1 (pc + 3) lv st') : VS G p l e R s m args below meth c nL Qf (spc.bind f) k n S pc lv st := by
  intro r hr H locs ls hP hD hS hl
  obtain ⟨q, hq, hf9⟩ := Option.bind_eq_some_iff.mp hr
  subst hst
  refine va_callv (va_runV (As := As) (rest := st') ⟨X.1, X.2.1, X.2.2.1, X.2.2.2.1, X.2.2.2.2.1⟩ (hM q hq) cw ⟨PreM.blind, va_recv X.2.2.2.2.2.2.2.1 hP hcl (lay_ne hi h5 hc), fun U hU hW => ⟨rfl, X.2.2.2.2.2.2.2.to hS hU hW, by rw [hU]; exact hP, hD⟩⟩ rfl rfl hl.1 rfl (lv_room hsz) d hf) hS (fun q _ h => h) (fun q h => h) (fun u t H1 locs1 ht hvm hw hB hz hk hS1 => ?_)
  obtain rfl := hw
  obtain ⟨hP1, hD1⟩ := hB
  rw [ht] at hP1
  exact kk _ hq r hf9 H1 locs1 ls hP1 hD1 hS1 hl
theorem vs_callSi {spc : Option (Int32 × Wo)} {f : Int32 → Wo → Option ρ} (X : Cx G p s m args meth c own Ts cc nL rt) (hM : ∀ r, spc = some r → MI l y ws rm' G S As r mc ms) (cw : CallB R s args own index y bytes maxL ret ws rm' mc ms As.length ∧ (Cond.static y).before args s = true)  (hst : st = As.reverse ++ st') (hsz : (st'.map fun v => v.category).sum ≤ 8) (d : decode cc pc = .ok (.invokestatic index, 3)) (hf : k + mc ≤ R.cells ∧ n + ms ≤ R.slots) (kk : ∀ (x : Int32) (S1 : Wo), spc = some (x, S1) → VS G p l e R s m args below meth c nL Qf (f x S1) (k + mc) (n + ms) S1 (pc + 3) lv (.int x :: st')) : VS G p l e R s m args below meth c nL Qf (bd2 spc f) k n S pc lv st := by
  intro r hr H locs ls hP hD hS hl
  obtain ⟨q, hq, hf9⟩ := Option.bind_eq_some_iff.mp hr
  subst hst
  refine va_calli (va_runS (As := As) (rest := st') ⟨X.1, X.2.1, X.2.2.1, X.2.2.2.1, X.2.2.2.2.1⟩ (hM q hq) cw ⟨PreM.blind, fun U hU hW => ⟨rfl, X.2.2.2.2.2.2.2.to hS hU hW, by rw [hU]; exact hP, hD⟩⟩ rfl rfl hl.1 rfl (lv_room hsz) d hf) hS (fun q _ h => h) (fun q h => h) (fun x u t H1 locs1 ht hvm hw hB hz hk hS1 => ?_)
  obtain ⟨rfl, rfl⟩ := hw
  obtain ⟨hP1, hD1⟩ := hB
  rw [ht] at hP1
  exact kk _ _ hq r hf9 H1 locs1 ls hP1 hD1 hS1 hl
theorem vs_callSv {spc : Option (Wo)} {f : Wo → Option ρ} (X : Cx G p s m args meth c own Ts cc nL rt) (hM : ∀ r, spc = some r → MV l y ws rm' G S As r mc ms) (cw : CallB R s args own index y bytes maxL ret ws rm' mc ms As.length ∧ (Cond.static y).before args s = true)  (hst : st = As.reverse ++ st') (hsz : (st'.map fun v => v.category).sum ≤ 8) (d : decode cc pc = .ok (.invokestatic index, 3)) (hf : k + mc ≤ R.cells ∧ n + ms ≤ R.slots) (kk : ∀ (S1 : Wo), spc = some S1 → VS G p l e R s m args below meth c nL Qf (f S1) (k + mc) (n + ms) S1 (pc + 3) lv st') : VS G p l e R s m args below meth c nL Qf (spc.bind f) k n S pc lv st := by
  intro r hr H locs ls hP hD hS hl
  obtain ⟨q, hq, hf9⟩ := Option.bind_eq_some_iff.mp hr
  subst hst
  refine va_callv (va_runS (As := As) (rest := st') ⟨X.1, X.2.1, X.2.2.1, X.2.2.2.1, X.2.2.2.2.1⟩ (hM q hq) cw ⟨PreM.blind, fun U hU hW => ⟨rfl, X.2.2.2.2.2.2.2.to hS hU hW, by rw [hU]; exact hP, hD⟩⟩ rfl rfl hl.1 rfl (lv_room hsz) d hf) hS (fun q _ h => h) (fun q h => h) (fun u t H1 locs1 ht hvm hw hB hz hk hS1 => ?_)
  obtain rfl := hw
  obtain ⟨hP1, hD1⟩ := hB
  rw [ht] at hP1
  exact kk _ hq r hf9 H1 locs1 ls hP1 hD1 hS1 hl
theorem vs_callSNi {spc : Option (Int32 × Wo)} {f : Int32 → Wo → Option ρ} (X : Cx G p s m args meth c own Ts cc nL rt) (hM : ∀ r, spc = some r → MI l y ws rm' G S As r mc ms) (cw : va_CN R s args own index y host bytes maxL ret ws rm' mc ms As.length ∧ (Cond.static y).before args s = true ∧ True)  (hst : st = As.reverse ++ st') (hsz : (st'.map fun v => v.category).sum ≤ 8) (d : decode cc pc = .ok (.invokestatic index, 3)) (hf : k + mc ≤ R.cells ∧ n + ms ≤ R.slots) (kk : ∀ (x : Int32) (S1 : Wo), spc = some (x, S1) → VS G p l e R s m args below meth c nL Qf (f x S1) (k + mc) (n + ms) S1 (pc + 3) lv (.int x :: st')) : VS G p l e R s m args below meth c nL Qf (bd2 spc f) k n S pc lv st := by
  intro r hr H locs ls hP hD hS hl
  obtain ⟨q, hq, hf9⟩ := Option.bind_eq_some_iff.mp hr
  subst hst
  refine va_calli (va_runSN (As := As) (rest := st') ⟨X.1, X.2.1, X.2.2.1, X.2.2.2.1, X.2.2.2.2.1⟩ (hM q hq) cw ⟨PreM.blind, fun U hU hW => ⟨rfl, X.2.2.2.2.2.2.2.to hS hU hW, by rw [hU]; exact hP, hD⟩⟩ rfl rfl hl.1 rfl (lv_room hsz) d hf) hS (fun q _ h => h) (fun q h => h) (fun x u t H1 locs1 ht hvm hw hB hz hk hS1 => ?_)
  obtain ⟨rfl, rfl⟩ := hw
  obtain ⟨hP1, hD1⟩ := hB
  rw [ht] at hP1
  exact kk _ _ hq r hf9 H1 locs1 ls hP1 hD1 hS1 hl
theorem vs_callSNv {spc : Option (Wo)} {f : Wo → Option ρ} (X : Cx G p s m args meth c own Ts cc nL rt) (hM : ∀ r, spc = some r → MV l y ws rm' G S As r mc ms) (cw : va_CN R s args own index y host bytes maxL ret ws rm' mc ms As.length ∧ (Cond.static y).before args s = true ∧ True)  (hst : st = As.reverse ++ st') (hsz : (st'.map fun v => v.category).sum ≤ 8) (d : decode cc pc = .ok (.invokestatic index, 3)) (hf : k + mc ≤ R.cells ∧ n + ms ≤ R.slots) (kk : ∀ (S1 : Wo), spc = some S1 → VS G p l e R s m args below meth c nL Qf (f S1) (k + mc) (n + ms) S1 (pc + 3) lv st') : VS G p l e R s m args below meth c nL Qf (spc.bind f) k n S pc lv st := by
  intro r hr H locs ls hP hD hS hl
  obtain ⟨q, hq, hf9⟩ := Option.bind_eq_some_iff.mp hr
  subst hst
  refine va_callv (va_runSN (As := As) (rest := st') ⟨X.1, X.2.1, X.2.2.1, X.2.2.2.1, X.2.2.2.2.1⟩ (hM q hq) cw ⟨PreM.blind, fun U hU hW => ⟨rfl, X.2.2.2.2.2.2.2.to hS hU hW, by rw [hU]; exact hP, hD⟩⟩ rfl rfl hl.1 rfl (lv_room hsz) d hf) hS (fun q _ h => h) (fun q h => h) (fun u t H1 locs1 ht hvm hw hB hz hk hS1 => ?_)
  obtain rfl := hw
  obtain ⟨hP1, hD1⟩ := hB
  rw [ht] at hP1
  exact kk _ hq r hf9 H1 locs1 ls hP1 hD1 hS1 hl
theorem vs_callVq {spc : Option (Option Nat × Wo)} {f : Option Nat → Wo → Option ρ} (X : Cx G p s m args meth c own Ts cc nL rt) (hM : ∀ r, spc = some r → MQq l y ws rm' G S (rf G bi :: As) r mc ms) (cw : CallW R s args own C index y bytes maxL ret ws rm' mc ms As.length) (hi : bi < 177) (h5 : bi ≠ 165) (hc : cel G S bi = .inr (ci, fs)) (hcl : vwCl[ci]? = some (C, T, N)) (hst : st = As.reverse ++ rf G bi :: st') (hsz : (st'.map fun v => v.category).sum ≤ 8) (d : decode cc pc = .ok (.invokevirtual index, 3)) (hf : k + mc ≤ R.cells ∧ n + ms ≤ R.slots) (kk : ∀ (x : Option Nat) (S1 : Wo), spc = some (x, S1) → VS G p l e R s m args below meth c nL Qf (f x S1) (k + mc) (n + ms) S1 (pc + 3) lv (va_rf (x.map (fun i => gB G + i)) :: st')) : VS G p l e R s m args below meth c nL Qf (bdq spc f) k n S pc lv st := by
  intro r hr H locs ls hP hD hS hl
  obtain ⟨q, hq, hf9⟩ := Option.bind_eq_some_iff.mp hr
  subst hst
  refine va_callq (va_runV (As := As) (rest := st') ⟨X.1, X.2.1, X.2.2.1, X.2.2.2.1, X.2.2.2.2.1⟩ (hM q hq) cw ⟨PreM.blind, va_recv X.2.2.2.2.2.2.2.1 hP hcl (lay_ne hi h5 hc), fun U hU hW => ⟨rfl, X.2.2.2.2.2.2.2.to hS hU hW, by rw [hU]; exact hP, hD⟩⟩ rfl rfl hl.1 rfl (lv_room hsz) d hf) hS (fun q _ h => h) (fun q h => h) (fun x u t H1 locs1 ht hvm hw hB hz hk hS1 => ?_)
  obtain ⟨rfl, rfl⟩ := hw
  obtain ⟨hP1, hD1⟩ := hB
  rw [ht] at hP1
  exact kk _ _ hq r hf9 H1 locs1 ls hP1 hD1 hS1 hl
theorem vs_callVxiI {mc9 ms9 : Nat} {spc : Option (Nat × Int32 × Wo)} {f : Int32 → Wo → Option (Nat × Int32 × Wo)} (X : Cx G p s m args meth c own Ts cc nL rt) (hT : ∀ x ∈ c.exceptionTable.toList, False) (hM : ∀ r, spc = some r → MXI l y ws rm' G S (rf G bi :: As) r mc ms) (cw : CallW R s args own C index y bytes maxL ret ws rm' mc ms As.length) (hi : bi < 177) (h5 : bi ≠ 165) (hc : cel G S bi = .inr (ci, fs)) (hcl : vwCl[ci]? = some (C, T, N)) (hst : st = As.reverse ++ rf G bi :: st') (hsz : (st'.map fun v => v.category).sum ≤ 8) (d : decode cc pc = .ok (.invokevirtual index, 3)) (hf : k + mc ≤ R.cells ∧ n + ms ≤ R.slots) (hk9 : k + mc ≤ mc9) (hn9 : n + ms ≤ ms9) (kk : ∀ (x : Int32) (S1 : Wo), spc = some (0, x, S1) → VS G p l e R s m args below meth c nL (fun r => vx_MQ below (QxI G r) (QxX G r) args s mc9 ms9 (Af G)) (f x S1) (k + mc) (n + ms) S1 (pc + 3) lv (.int x :: st')) : VS G p l e R s m args below meth c nL (fun r => vx_MQ below (QxI G r) (QxX G r) args s mc9 ms9 (Af G)) (bx spc f) k n S pc lv st := by
  intro r hr H locs ls hP hD hS hl
  obtain ⟨q, hq, hf9⟩ := Option.bind_eq_some_iff.mp hr
  subst hst
  refine vx_calli (vx_runV (As := As) (rest := st') ⟨X.1, X.2.1, X.2.2.1, X.2.2.2.1, X.2.2.2.2.1⟩ (hM q hq) cw ⟨PreM.blind, va_recv X.2.2.2.2.2.2.2.1 hP hcl (lay_ne hi h5 hc), fun U hU hW => ⟨rfl, X.2.2.2.2.2.2.2.to hS hU hW, by rw [hU]; exact hP, hD⟩⟩ rfl rfl hl.1 rfl (lv_room hsz) d hf) hS (fun q _ h => h) (fun q h => h) (fun q _ h => h) (fun E ce q9 u t H1 locs1 ht hvm hw hB hz hk hS1 hce hcv hcl9 => ?_) (fun x u t H1 locs1 ht hvm hw hB hz hk hS1 => ?_)
  · obtain ⟨h0, rfl⟩ := hw
    obtain ⟨hE, hP1, hD1⟩ := hB
    rw [if_neg h0] at hf9
    cases hf9
    refine vx_out (fun x hx => absurd (hT x hx) id) X.2.2.2.2.2.2.1 hce hcv hcl9 (fun t9 ht9 hv9 => ⟨_, ⟨h0, rfl⟩, ⟨hE, ?_, hD1⟩, hS1.F ht9⟩) hS1.2.2 hk9 hn9
    rw [ht9, ← ht]; exact hP1
  · obtain ⟨h0, rfl, rfl⟩ := hw
    obtain ⟨hP1, hD1⟩ := hB
    rw [ht] at hP1
    rw [if_pos h0] at hf9
    obtain ⟨q0, q1, q2⟩ := q
    cases h0
    exact kk _ _ hq r hf9 H1 locs1 ls hP1 hD1 hS1 hl
theorem vs_callVxiV {mc9 ms9 : Nat} {spc : Option (Nat × Int32 × Wo)} {f : Int32 → Wo → Option (Nat × Int32 × Wo)} (X : Cx G p s m args meth c own Ts cc nL rt) (hT : ∀ x ∈ c.exceptionTable.toList, False) (hM : ∀ r, spc = some r → MXI l y ws rm' G S (rf G bi :: As) r mc ms) (cw : CallW R s args own C index y bytes maxL ret ws rm' mc ms As.length) (hi : bi < 177) (h5 : bi ≠ 165) (hc : cel G S bi = .inr (ci, fs)) (hcl : vwCl[ci]? = some (C, T, N)) (hst : st = As.reverse ++ rf G bi :: st') (hsz : (st'.map fun v => v.category).sum ≤ 8) (d : decode cc pc = .ok (.invokevirtual index, 3)) (hf : k + mc ≤ R.cells ∧ n + ms ≤ R.slots) (hk9 : k + mc ≤ mc9) (hn9 : n + ms ≤ ms9) (kk : ∀ (x : Int32) (S1 : Wo), spc = some (0, x, S1) → VS G p l e R s m args below meth c nL (fun r => vx_MQ below (QxV G r) (QxX G r) args s mc9 ms9 (Af G)) (f x S1) (k + mc) (n + ms) S1 (pc + 3) lv (.int x :: st')) : VS G p l e R s m args below meth c nL (fun r => vx_MQ below (QxV G r) (QxX G r) args s mc9 ms9 (Af G)) (bx spc f) k n S pc lv st := by
  intro r hr H locs ls hP hD hS hl
  obtain ⟨q, hq, hf9⟩ := Option.bind_eq_some_iff.mp hr
  subst hst
  refine vx_calli (vx_runV (As := As) (rest := st') ⟨X.1, X.2.1, X.2.2.1, X.2.2.2.1, X.2.2.2.2.1⟩ (hM q hq) cw ⟨PreM.blind, va_recv X.2.2.2.2.2.2.2.1 hP hcl (lay_ne hi h5 hc), fun U hU hW => ⟨rfl, X.2.2.2.2.2.2.2.to hS hU hW, by rw [hU]; exact hP, hD⟩⟩ rfl rfl hl.1 rfl (lv_room hsz) d hf) hS (fun q _ h => h) (fun q h => h) (fun q _ h => h) (fun E ce q9 u t H1 locs1 ht hvm hw hB hz hk hS1 hce hcv hcl9 => ?_) (fun x u t H1 locs1 ht hvm hw hB hz hk hS1 => ?_)
  · obtain ⟨h0, rfl⟩ := hw
    obtain ⟨hE, hP1, hD1⟩ := hB
    rw [if_neg h0] at hf9
    cases hf9
    refine vx_out (fun x hx => absurd (hT x hx) id) X.2.2.2.2.2.2.1 hce hcv hcl9 (fun t9 ht9 hv9 => ⟨_, ⟨h0, rfl⟩, ⟨hE, ?_, hD1⟩, hS1.F ht9⟩) hS1.2.2 hk9 hn9
    rw [ht9, ← ht]; exact hP1
  · obtain ⟨h0, rfl, rfl⟩ := hw
    obtain ⟨hP1, hD1⟩ := hB
    rw [ht] at hP1
    rw [if_pos h0] at hf9
    obtain ⟨q0, q1, q2⟩ := q
    cases h0
    exact kk _ _ hq r hf9 H1 locs1 ls hP1 hD1 hS1 hl
theorem vs_callVxvI {mc9 ms9 : Nat} {spc : Option (Nat × Int32 × Wo)} {f : Int32 → Wo → Option (Nat × Int32 × Wo)} (X : Cx G p s m args meth c own Ts cc nL rt) (hT : ∀ x ∈ c.exceptionTable.toList, False) (hM : ∀ r, spc = some r → MXV l y ws rm' G S (rf G bi :: As) r mc ms) (cw : CallW R s args own C index y bytes maxL ret ws rm' mc ms As.length) (hi : bi < 177) (h5 : bi ≠ 165) (hc : cel G S bi = .inr (ci, fs)) (hcl : vwCl[ci]? = some (C, T, N)) (hst : st = As.reverse ++ rf G bi :: st') (hsz : (st'.map fun v => v.category).sum ≤ 8) (d : decode cc pc = .ok (.invokevirtual index, 3)) (hf : k + mc ≤ R.cells ∧ n + ms ≤ R.slots) (hk9 : k + mc ≤ mc9) (hn9 : n + ms ≤ ms9) (kk : ∀ (x : Int32) (S1 : Wo), spc = some (0, x, S1) → VS G p l e R s m args below meth c nL (fun r => vx_MQ below (QxI G r) (QxX G r) args s mc9 ms9 (Af G)) (f x S1) (k + mc) (n + ms) S1 (pc + 3) lv st') : VS G p l e R s m args below meth c nL (fun r => vx_MQ below (QxI G r) (QxX G r) args s mc9 ms9 (Af G)) (bx spc f) k n S pc lv st := by
  intro r hr H locs ls hP hD hS hl
  obtain ⟨q, hq, hf9⟩ := Option.bind_eq_some_iff.mp hr
  subst hst
  refine vx_callv (vx_runV (As := As) (rest := st') ⟨X.1, X.2.1, X.2.2.1, X.2.2.2.1, X.2.2.2.2.1⟩ (hM q hq) cw ⟨PreM.blind, va_recv X.2.2.2.2.2.2.2.1 hP hcl (lay_ne hi h5 hc), fun U hU hW => ⟨rfl, X.2.2.2.2.2.2.2.to hS hU hW, by rw [hU]; exact hP, hD⟩⟩ rfl rfl hl.1 rfl (lv_room hsz) d hf) hS (fun q _ h => h) (fun q h => h) (fun q _ h => h) (fun E ce q9 u t H1 locs1 ht hvm hw hB hz hk hS1 hce hcv hcl9 => ?_) (fun u t H1 locs1 ht hvm hw hB hz hk hS1 => ?_)
  · obtain ⟨h0, rfl⟩ := hw
    obtain ⟨hE, hP1, hD1⟩ := hB
    rw [if_neg h0] at hf9
    cases hf9
    refine vx_out (fun x hx => absurd (hT x hx) id) X.2.2.2.2.2.2.1 hce hcv hcl9 (fun t9 ht9 hv9 => ⟨_, ⟨h0, rfl⟩, ⟨hE, ?_, hD1⟩, hS1.F ht9⟩) hS1.2.2 hk9 hn9
    rw [ht9, ← ht]; exact hP1
  · obtain ⟨h0, rfl⟩ := hw
    obtain ⟨hP1, hD1⟩ := hB
    rw [ht] at hP1
    rw [if_pos h0] at hf9
    obtain ⟨q0, q1, q2⟩ := q
    cases h0
    exact kk _ _ hq r hf9 H1 locs1 ls hP1 hD1 hS1 hl
theorem vs_callVxvV {mc9 ms9 : Nat} {spc : Option (Nat × Int32 × Wo)} {f : Int32 → Wo → Option (Nat × Int32 × Wo)} (X : Cx G p s m args meth c own Ts cc nL rt) (hT : ∀ x ∈ c.exceptionTable.toList, False) (hM : ∀ r, spc = some r → MXV l y ws rm' G S (rf G bi :: As) r mc ms) (cw : CallW R s args own C index y bytes maxL ret ws rm' mc ms As.length) (hi : bi < 177) (h5 : bi ≠ 165) (hc : cel G S bi = .inr (ci, fs)) (hcl : vwCl[ci]? = some (C, T, N)) (hst : st = As.reverse ++ rf G bi :: st') (hsz : (st'.map fun v => v.category).sum ≤ 8) (d : decode cc pc = .ok (.invokevirtual index, 3)) (hf : k + mc ≤ R.cells ∧ n + ms ≤ R.slots) (hk9 : k + mc ≤ mc9) (hn9 : n + ms ≤ ms9) (kk : ∀ (x : Int32) (S1 : Wo), spc = some (0, x, S1) → VS G p l e R s m args below meth c nL (fun r => vx_MQ below (QxV G r) (QxX G r) args s mc9 ms9 (Af G)) (f x S1) (k + mc) (n + ms) S1 (pc + 3) lv st') : VS G p l e R s m args below meth c nL (fun r => vx_MQ below (QxV G r) (QxX G r) args s mc9 ms9 (Af G)) (bx spc f) k n S pc lv st := by
  intro r hr H locs ls hP hD hS hl
  obtain ⟨q, hq, hf9⟩ := Option.bind_eq_some_iff.mp hr
  subst hst
  refine vx_callv (vx_runV (As := As) (rest := st') ⟨X.1, X.2.1, X.2.2.1, X.2.2.2.1, X.2.2.2.2.1⟩ (hM q hq) cw ⟨PreM.blind, va_recv X.2.2.2.2.2.2.2.1 hP hcl (lay_ne hi h5 hc), fun U hU hW => ⟨rfl, X.2.2.2.2.2.2.2.to hS hU hW, by rw [hU]; exact hP, hD⟩⟩ rfl rfl hl.1 rfl (lv_room hsz) d hf) hS (fun q _ h => h) (fun q h => h) (fun q _ h => h) (fun E ce q9 u t H1 locs1 ht hvm hw hB hz hk hS1 hce hcv hcl9 => ?_) (fun u t H1 locs1 ht hvm hw hB hz hk hS1 => ?_)
  · obtain ⟨h0, rfl⟩ := hw
    obtain ⟨hE, hP1, hD1⟩ := hB
    rw [if_neg h0] at hf9
    cases hf9
    refine vx_out (fun x hx => absurd (hT x hx) id) X.2.2.2.2.2.2.1 hce hcv hcl9 (fun t9 ht9 hv9 => ⟨_, ⟨h0, rfl⟩, ⟨hE, ?_, hD1⟩, hS1.F ht9⟩) hS1.2.2 hk9 hn9
    rw [ht9, ← ht]; exact hP1
  · obtain ⟨h0, rfl⟩ := hw
    obtain ⟨hP1, hD1⟩ := hB
    rw [ht] at hP1
    rw [if_pos h0] at hf9
    obtain ⟨q0, q1, q2⟩ := q
    cases h0
    exact kk _ _ hq r hf9 H1 locs1 ls hP1 hD1 hS1 hl
theorem vs_callSxiI {mc9 ms9 : Nat} {spc : Option (Nat × Int32 × Wo)} {f : Int32 → Wo → Option (Nat × Int32 × Wo)} (X : Cx G p s m args meth c own Ts cc nL rt) (hT : ∀ x ∈ c.exceptionTable.toList, False) (hM : ∀ r, spc = some r → MXI l y ws rm' G S As r mc ms) (cw : CallB R s args own index y bytes maxL ret ws rm' mc ms As.length ∧ (Cond.static y).before args s = true)  (hst : st = As.reverse ++ st') (hsz : (st'.map fun v => v.category).sum ≤ 8) (d : decode cc pc = .ok (.invokestatic index, 3)) (hf : k + mc ≤ R.cells ∧ n + ms ≤ R.slots) (hk9 : k + mc ≤ mc9) (hn9 : n + ms ≤ ms9) (kk : ∀ (x : Int32) (S1 : Wo), spc = some (0, x, S1) → VS G p l e R s m args below meth c nL (fun r => vx_MQ below (QxI G r) (QxX G r) args s mc9 ms9 (Af G)) (f x S1) (k + mc) (n + ms) S1 (pc + 3) lv (.int x :: st')) : VS G p l e R s m args below meth c nL (fun r => vx_MQ below (QxI G r) (QxX G r) args s mc9 ms9 (Af G)) (bx spc f) k n S pc lv st := by
  intro r hr H locs ls hP hD hS hl
  obtain ⟨q, hq, hf9⟩ := Option.bind_eq_some_iff.mp hr
  subst hst
  refine vx_calli (vx_runS (As := As) (rest := st') ⟨X.1, X.2.1, X.2.2.1, X.2.2.2.1, X.2.2.2.2.1⟩ (hM q hq) cw ⟨PreM.blind, fun U hU hW => ⟨rfl, X.2.2.2.2.2.2.2.to hS hU hW, by rw [hU]; exact hP, hD⟩⟩ rfl rfl hl.1 rfl (lv_room hsz) d hf) hS (fun q _ h => h) (fun q h => h) (fun q _ h => h) (fun E ce q9 u t H1 locs1 ht hvm hw hB hz hk hS1 hce hcv hcl9 => ?_) (fun x u t H1 locs1 ht hvm hw hB hz hk hS1 => ?_)
  · obtain ⟨h0, rfl⟩ := hw
    obtain ⟨hE, hP1, hD1⟩ := hB
    rw [if_neg h0] at hf9
    cases hf9
    refine vx_out (fun x hx => absurd (hT x hx) id) X.2.2.2.2.2.2.1 hce hcv hcl9 (fun t9 ht9 hv9 => ⟨_, ⟨h0, rfl⟩, ⟨hE, ?_, hD1⟩, hS1.F ht9⟩) hS1.2.2 hk9 hn9
    rw [ht9, ← ht]; exact hP1
  · obtain ⟨h0, rfl, rfl⟩ := hw
    obtain ⟨hP1, hD1⟩ := hB
    rw [ht] at hP1
    rw [if_pos h0] at hf9
    obtain ⟨q0, q1, q2⟩ := q
    cases h0
    exact kk _ _ hq r hf9 H1 locs1 ls hP1 hD1 hS1 hl
theorem vs_callSxiV {mc9 ms9 : Nat} {spc : Option (Nat × Int32 × Wo)} {f : Int32 → Wo → Option (Nat × Int32 × Wo)} (X : Cx G p s m args meth c own Ts cc nL rt) (hT : ∀ x ∈ c.exceptionTable.toList, False) (hM : ∀ r, spc = some r → MXI l y ws rm' G S As r mc ms) (cw : CallB R s args own index y bytes maxL ret ws rm' mc ms As.length ∧ (Cond.static y).before args s = true)  (hst : st = As.reverse ++ st') (hsz : (st'.map fun v => v.category).sum ≤ 8) (d : decode cc pc = .ok (.invokestatic index, 3)) (hf : k + mc ≤ R.cells ∧ n + ms ≤ R.slots) (hk9 : k + mc ≤ mc9) (hn9 : n + ms ≤ ms9) (kk : ∀ (x : Int32) (S1 : Wo), spc = some (0, x, S1) → VS G p l e R s m args below meth c nL (fun r => vx_MQ below (QxV G r) (QxX G r) args s mc9 ms9 (Af G)) (f x S1) (k + mc) (n + ms) S1 (pc + 3) lv (.int x :: st')) : VS G p l e R s m args below meth c nL (fun r => vx_MQ below (QxV G r) (QxX G r) args s mc9 ms9 (Af G)) (bx spc f) k n S pc lv st := by
  intro r hr H locs ls hP hD hS hl
  obtain ⟨q, hq, hf9⟩ := Option.bind_eq_some_iff.mp hr
  subst hst
  refine vx_calli (vx_runS (As := As) (rest := st') ⟨X.1, X.2.1, X.2.2.1, X.2.2.2.1, X.2.2.2.2.1⟩ (hM q hq) cw ⟨PreM.blind, fun U hU hW => ⟨rfl, X.2.2.2.2.2.2.2.to hS hU hW, by rw [hU]; exact hP, hD⟩⟩ rfl rfl hl.1 rfl (lv_room hsz) d hf) hS (fun q _ h => h) (fun q h => h) (fun q _ h => h) (fun E ce q9 u t H1 locs1 ht hvm hw hB hz hk hS1 hce hcv hcl9 => ?_) (fun x u t H1 locs1 ht hvm hw hB hz hk hS1 => ?_)
  · obtain ⟨h0, rfl⟩ := hw
    obtain ⟨hE, hP1, hD1⟩ := hB
    rw [if_neg h0] at hf9
    cases hf9
    refine vx_out (fun x hx => absurd (hT x hx) id) X.2.2.2.2.2.2.1 hce hcv hcl9 (fun t9 ht9 hv9 => ⟨_, ⟨h0, rfl⟩, ⟨hE, ?_, hD1⟩, hS1.F ht9⟩) hS1.2.2 hk9 hn9
    rw [ht9, ← ht]; exact hP1
  · obtain ⟨h0, rfl, rfl⟩ := hw
    obtain ⟨hP1, hD1⟩ := hB
    rw [ht] at hP1
    rw [if_pos h0] at hf9
    obtain ⟨q0, q1, q2⟩ := q
    cases h0
    exact kk _ _ hq r hf9 H1 locs1 ls hP1 hD1 hS1 hl
theorem vs_callSxvI {mc9 ms9 : Nat} {spc : Option (Nat × Int32 × Wo)} {f : Int32 → Wo → Option (Nat × Int32 × Wo)} (X : Cx G p s m args meth c own Ts cc nL rt) (hT : ∀ x ∈ c.exceptionTable.toList, False) (hM : ∀ r, spc = some r → MXV l y ws rm' G S As r mc ms) (cw : CallB R s args own index y bytes maxL ret ws rm' mc ms As.length ∧ (Cond.static y).before args s = true)  (hst : st = As.reverse ++ st') (hsz : (st'.map fun v => v.category).sum ≤ 8) (d : decode cc pc = .ok (.invokestatic index, 3)) (hf : k + mc ≤ R.cells ∧ n + ms ≤ R.slots) (hk9 : k + mc ≤ mc9) (hn9 : n + ms ≤ ms9) (kk : ∀ (x : Int32) (S1 : Wo), spc = some (0, x, S1) → VS G p l e R s m args below meth c nL (fun r => vx_MQ below (QxI G r) (QxX G r) args s mc9 ms9 (Af G)) (f x S1) (k + mc) (n + ms) S1 (pc + 3) lv st') : VS G p l e R s m args below meth c nL (fun r => vx_MQ below (QxI G r) (QxX G r) args s mc9 ms9 (Af G)) (bx spc f) k n S pc lv st := by
  intro r hr H locs ls hP hD hS hl
  obtain ⟨q, hq, hf9⟩ := Option.bind_eq_some_iff.mp hr
  subst hst
  refine vx_callv (vx_runS (As := As) (rest := st') ⟨X.1, X.2.1, X.2.2.1, X.2.2.2.1, X.2.2.2.2.1⟩ (hM q hq) cw ⟨PreM.blind, fun U hU hW => ⟨rfl, X.2.2.2.2.2.2.2.to hS hU hW, by rw [hU]; exact hP, hD⟩⟩ rfl rfl hl.1 rfl (lv_room hsz) d hf) hS (fun q _ h => h) (fun q h => h) (fun q _ h => h) (fun E ce q9 u t H1 locs1 ht hvm hw hB hz hk hS1 hce hcv hcl9 => ?_) (fun u t H1 locs1 ht hvm hw hB hz hk hS1 => ?_)
  · obtain ⟨h0, rfl⟩ := hw
    obtain ⟨hE, hP1, hD1⟩ := hB
    rw [if_neg h0] at hf9
    cases hf9
    refine vx_out (fun x hx => absurd (hT x hx) id) X.2.2.2.2.2.2.1 hce hcv hcl9 (fun t9 ht9 hv9 => ⟨_, ⟨h0, rfl⟩, ⟨hE, ?_, hD1⟩, hS1.F ht9⟩) hS1.2.2 hk9 hn9
    rw [ht9, ← ht]; exact hP1
  · obtain ⟨h0, rfl⟩ := hw
    obtain ⟨hP1, hD1⟩ := hB
    rw [ht] at hP1
    rw [if_pos h0] at hf9
    obtain ⟨q0, q1, q2⟩ := q
    cases h0
    exact kk _ _ hq r hf9 H1 locs1 ls hP1 hD1 hS1 hl
theorem vs_callSxvV {mc9 ms9 : Nat} {spc : Option (Nat × Int32 × Wo)} {f : Int32 → Wo → Option (Nat × Int32 × Wo)} (X : Cx G p s m args meth c own Ts cc nL rt) (hT : ∀ x ∈ c.exceptionTable.toList, False) (hM : ∀ r, spc = some r → MXV l y ws rm' G S As r mc ms) (cw : CallB R s args own index y bytes maxL ret ws rm' mc ms As.length ∧ (Cond.static y).before args s = true)  (hst : st = As.reverse ++ st') (hsz : (st'.map fun v => v.category).sum ≤ 8) (d : decode cc pc = .ok (.invokestatic index, 3)) (hf : k + mc ≤ R.cells ∧ n + ms ≤ R.slots) (hk9 : k + mc ≤ mc9) (hn9 : n + ms ≤ ms9) (kk : ∀ (x : Int32) (S1 : Wo), spc = some (0, x, S1) → VS G p l e R s m args below meth c nL (fun r => vx_MQ below (QxV G r) (QxX G r) args s mc9 ms9 (Af G)) (f x S1) (k + mc) (n + ms) S1 (pc + 3) lv st') : VS G p l e R s m args below meth c nL (fun r => vx_MQ below (QxV G r) (QxX G r) args s mc9 ms9 (Af G)) (bx spc f) k n S pc lv st := by
  intro r hr H locs ls hP hD hS hl
  obtain ⟨q, hq, hf9⟩ := Option.bind_eq_some_iff.mp hr
  subst hst
  refine vx_callv (vx_runS (As := As) (rest := st') ⟨X.1, X.2.1, X.2.2.1, X.2.2.2.1, X.2.2.2.2.1⟩ (hM q hq) cw ⟨PreM.blind, fun U hU hW => ⟨rfl, X.2.2.2.2.2.2.2.to hS hU hW, by rw [hU]; exact hP, hD⟩⟩ rfl rfl hl.1 rfl (lv_room hsz) d hf) hS (fun q _ h => h) (fun q h => h) (fun q _ h => h) (fun E ce q9 u t H1 locs1 ht hvm hw hB hz hk hS1 hce hcv hcl9 => ?_) (fun u t H1 locs1 ht hvm hw hB hz hk hS1 => ?_)
  · obtain ⟨h0, rfl⟩ := hw
    obtain ⟨hE, hP1, hD1⟩ := hB
    rw [if_neg h0] at hf9
    cases hf9
    refine vx_out (fun x hx => absurd (hT x hx) id) X.2.2.2.2.2.2.1 hce hcv hcl9 (fun t9 ht9 hv9 => ⟨_, ⟨h0, rfl⟩, ⟨hE, ?_, hD1⟩, hS1.F ht9⟩) hS1.2.2 hk9 hn9
    rw [ht9, ← ht]; exact hP1
  · obtain ⟨h0, rfl⟩ := hw
    obtain ⟨hP1, hD1⟩ := hB
    rw [ht] at hP1
    rw [if_pos h0] at hf9
    obtain ⟨q0, q1, q2⟩ := q
    cases h0
    exact kk _ _ hq r hf9 H1 locs1 ls hP1 hD1 hS1 hl
theorem vs_refcases {x : Option Nat} {a : Option ρ} {b : Nat → Option ρ} (k1 : x = none → VS G p l e R s m args below meth c nL Qf a k n S pc lv (.null :: st)) (k2 : ∀ j, x = some j → VS G p l e R s m args below meth c nL Qf (b j) k n S pc lv (rf G j :: st)) : VS G p l e R s m args below meth c nL Qf (oq x a b) k n S pc lv (va_rf (x.map (fun i => gB G + i)) :: st) := by
  cases x with
  | none => exact k1 rfl
  | some j => exact k2 j rfl
end CALLS2

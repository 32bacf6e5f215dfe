/-! ===== rows of numbers by their place, meeting points, switches, doubles and floats ===== -/
def IsIA (a n : Nat) : Prop := (∀ (G : Gt) (S : Wo), cel G S a = celArr G S 0 n a) ∧ a < 177 ∧ a ≠ 165
theorem isIA_167 : IsIA 167 112 := ⟨fun _ _ => rfl, by decide, by decide⟩
theorem isIA_168 : IsIA 168 896 := ⟨fun _ _ => rfl, by decide, by decide⟩
theorem isIA_169 : IsIA 169 112 := ⟨fun _ _ => rfl, by decide, by decide⟩
theorem isIA_170 : IsIA 170 112 := ⟨fun _ _ => rfl, by decide, by decide⟩
theorem isIA_171 : IsIA 171 112 := ⟨fun _ _ => rfl, by decide, by decide⟩
def jn {β ρ : Type} (f : β) (g : β → Option ρ) : Option ρ := g f
def allN (x : Int32) (cs : List Int32) : Prop := cs.foldr (fun c P => ¬ x = c ∧ P) True
theorem allN_mem {x c : Int32} : ∀ {cs : List Int32}, allN x cs → c ∈ cs → ¬ x = c
  | [], _, h => by cases h
  | a :: r, ha, h => by
    cases h with
    | head => exact ha.1
    | tail _ h => exact allN_mem (cs := r) ha.2 h
theorem tab_out {x : Int32} {lo hi : Int} (cs : List Int32) (hn : allN x cs) (hc : (List.range (hi - lo + 1).toNat).all (fun k => cs.any (fun c => c.toInt == lo + k)) = true) : x.toInt < lo ∨ hi < x.toInt := by
  by_cases h : x.toInt < lo ∨ hi < x.toInt
  · exact h
  exfalso
  have h2 := List.all_eq_true.mp hc (x.toInt - lo).toNat (List.mem_range.mpr (by omega))
  obtain ⟨c, hm, he⟩ := List.any_eq_true.mp h2
  refine allN_mem hn hm (Int32.toInt_inj.mp ?_)
  have := eq_of_beq he
  omega
def QD (G : Gt) (r : UInt64 × Wo) : Array Value → State → Outcome → State → Prop := va_Qd (fun (x : UInt64) (u : Wo) => x = r.1 ∧ u = r.2) (WB G) (Af G)
def QF (G : Gt) (r : UInt32 × Wo) : Array Value → State → Outcome → State → Prop := va_Qf (fun (x : UInt32) (u : Wo) => x = r.1 ∧ u = r.2) (WB G) (Af G)
def QxD (G : Gt) (r : Nat × UInt64 × Wo) : Array Value → State → Outcome → State → Prop := va_Qd (fun (x : UInt64) (u : Wo) => r.1 = 0 ∧ x = r.2.1 ∧ u = r.2.2) (WB G) (Af G)
def QxF (G : Gt) (r : Nat × UInt32 × Wo) : Array Value → State → Outcome → State → Prop := va_Qf (fun (x : UInt32) (u : Wo) => r.1 = 0 ∧ x = r.2.1 ∧ u = r.2.2) (WB G) (Af G)
def MD (l : Launch) (y : MethodName) (ws : List Cond) (rm : Room) (G : Gt) (S : Wo) (av : List Value) (r : UInt64 × Wo) (mc ms : Nat) : Prop := Met l y ws rm (PreM G S av) (QD G r) mc ms (Af G)
def MF (l : Launch) (y : MethodName) (ws : List Cond) (rm : Room) (G : Gt) (S : Wo) (av : List Value) (r : UInt32 × Wo) (mc ms : Nat) : Prop := Met l y ws rm (PreM G S av) (QF G r) mc ms (Af G)
def MXD (l : Launch) (y : MethodName) (ws : List Cond) (rm : Room) (G : Gt) (S : Wo) (av : List Value) (r : Nat × UInt64 × Wo) (mc ms : Nat) : Prop := vx_Met l y ws rm (PreM G S av) (QxD G r) (QxX G (r.1, 0, r.2.2)) mc ms (Af G)
def MXF (l : Launch) (y : MethodName) (ws : List Cond) (rm : Room) (G : Gt) (S : Wo) (av : List Value) (r : Nat × UInt32 × Wo) (mc ms : Nat) : Prop := vx_Met l y ws rm (PreM G S av) (QxF G r) (QxX G (r.1, 0, r.2.2)) mc ms (Af G)
theorem vf64_dec (x : UInt64) : vf_n64 x ↔ decide (x &&& 0x7fffffffffffffff ≤ 0x7ff0000000000000) = true := by unfold vf_n64; exact decide_eq_true_iff.symm
theorem vf32_dec (x : UInt32) : vf_n32 x ↔ decide (x &&& 0x7fffffff ≤ 0x7f800000) = true := by unfold vf_n32; exact decide_eq_true_iff.symm
/-- on with a double, or a float, that is no NaN -/
def n64 {ρ : Type} (x : UInt64) (f : UInt64 → Option ρ) : Option ρ := if x &&& 0x7fffffffffffffff ≤ 0x7ff0000000000000 then f x else none
def n32 {ρ : Type} (x : UInt32) (f : UInt32 → Option ρ) : Option ρ := if x &&& 0x7fffffff ≤ 0x7f800000 then f x else none
section NINE
variable {ρ : Type} {G : Gt} {p : Program} {l : Launch} {e : Env} {R : Room} {s : State} {m : MethodId} {args : Array Value} {below : List Frame} {meth : Method} {c : Code} {nL : Nat} {Qf : ρ → State → Prop} {sp A B : Option ρ} {k n : Nat} {S : Wo} {pc : Nat} {lv lv' : List (Nat × Value)} {st st' : List Value} {own : String} {Ts : List Cond} {cc : ByteArray} {rt : Option FieldType}
theorem vs_jn {β : Type} {f : β} {g : β → Option ρ} {P : β → Prop} (hJ : P f) (hg : ∀ K, P K → VS G p l e R s m args below meth c nL Qf (g K) k n S pc lv st) : VS G p l e R s m args below meth c nL Qf (jn f g) k n S pc lv st := hg f hJ
theorem vs_join {sp : Option ρ} {k1 n1 : Nat} (is : List Nat) (h1 : k ≤ k1) (h2 : n ≤ n1) (h : lv_pick lv is = lv') (kk : VS G p l e R s m args below meth c nL Qf sp k1 n1 S pc lv' st) : VS G p l e R s m args below meth c nL Qf sp k n S pc lv st := vs_widen h1 h2 (vs_sub is h kk)
theorem vs_cast {a N : Nat} {i v : Int32} {f : Wo → Option ρ} (X : Cx G p s m args meth c own Ts cc nL rt) (ha : a < 177) (h5 : a ≠ 165) (hc : ∀ S, cel G S a = celArr G S 1 N a) (d : decode cc pc = .ok (.castore, 1)) (kk : ∀ S1, S1 = pF S a (upd (S.2.1 a) (ix i) (vp_nar .char v)) → VS G p l e R s m args below meth c nL Qf (f S1) k n S1 (pc + 1) lv st) : VS G p l e R s m args below meth c nL Qf (if inb i N = true then wr (pF S a (upd (S.2.1 a) (ix i) (vp_nar .char v))) f else none) k n S pc lv (.int v :: .int i :: rf G a :: st) := by
  intro r hr H locs ls hP hD hS hl
  by_cases h : inb i N = true
  · rw [if_pos h] at hr
    refine va_cast X.1 X.2.1 X.2.2.2.2.2.2.2.1 hP hD hS a 1 (lay_ne ha h5 (hc S)) rfl (inb_in.mp h) d (fun H1 locs1 hP1 hD1 hS1 => ?_)
    rw [lay_pF (f := upd (S.2.1 a) (ix i) (vp_nar .char v)) ha h5 (x := .inl (G.2.1 1, N, .inl (upd (S.2.1 a) i.toNatClampNeg (vp_nar .char v)))) (by rw [hc]; simp [celArr, pF])] at hP1 hD1
    exact kk _ rfl r hr H1 locs1 ls hP1 hD1 hS1 hl
  · rw [if_neg h] at hr; cases hr
theorem vs_tab {dflt lo hi off : Int} {offs : Array Int} {len tgt : Nat} {x v : Int32} (X : Cx G p s m args meth c own Ts cc nL rt) (d : decode cc pc = .ok (.tableswitch dflt lo hi offs, len)) (h1 : ¬ v.toInt < lo) (h2 : ¬ hi < v.toInt) (ho : offs[(v.toInt - lo).toNat]? = some off) (ht : (pc : Int) + off = (tgt : Int)) (kA : x = v → VS G p l e R s m args below meth c nL Qf A k n S tgt lv st) (kB : ¬ x = v → VS G p l e R s m args below meth c nL Qf B k n S pc lv (.int x :: st)) : VS G p l e R s m args below meth c nL Qf (if x = v then A else B) k n S pc lv (.int x :: st) := by
  intro r hr H locs ls hP hD hS hl
  by_cases h : x = v
  · rw [if_pos h] at hr
    subst h
    exact lv_tableIn X.1 X.2.1 d h1 h2 ho ht (kA rfl r hr H locs ls hP hD hS hl)
  · rw [if_neg h] at hr
    exact kB h r hr H locs ls hP hD hS hl
theorem vs_tabD {dflt lo hi : Int} {offs : Array Int} {len tgt : Nat} {x : Int32} (X : Cx G p s m args meth c own Ts cc nL rt) (d : decode cc pc = .ok (.tableswitch dflt lo hi offs, len)) (h : x.toInt < lo ∨ hi < x.toInt) (ht : (pc : Int) + dflt = (tgt : Int)) (kk : VS G p l e R s m args below meth c nL Qf sp k n S tgt lv st) : VS G p l e R s m args below meth c nL Qf sp k n S pc lv (.int x :: st) := fun r hr H locs ls hP hD hS hl => lv_tableOut X.1 X.2.1 d h ht (kk r hr H locs ls hP hD hS hl)
theorem vs_dconst0  (X : Cx G p s m args meth c own Ts cc nL rt) (d : decode cc pc = .ok (.dconst 0, 1)) (kk : VS G p l e R s m args below meth c nL Qf sp k n S (pc + 1) lv (.double FP.dconst0 :: st)) : VS G p l e R s m args below meth c nL Qf sp k n S pc lv st := fun r hr H locs ls hP hD hS hl => lv_dconst0 X.1 X.2.1 d (kk r hr H locs ls hP hD hS hl)
theorem vs_fconst0  (X : Cx G p s m args meth c own Ts cc nL rt) (d : decode cc pc = .ok (.fconst 0, 1)) (kk : VS G p l e R s m args below meth c nL Qf sp k n S (pc + 1) lv (.float FP.fconst0 :: st)) : VS G p l e R s m args below meth c nL Qf sp k n S pc lv st := fun r hr H locs ls hP hD hS hl => lv_fconst0 X.1 X.2.1 d (kk r hr H locs ls hP hD hS hl)
theorem vs_i2d {x : Int32} (X : Cx G p s m args meth c own Ts cc nL rt) (d : decode cc pc = .ok (.i2d, 1)) (kk : VS G p l e R s m args below meth c nL Qf sp k n S (pc + 1) lv (.double (FP.i2d x) :: st)) : VS G p l e R s m args below meth c nL Qf sp k n S pc lv (.int x :: st) := fun r hr H locs ls hP hD hS hl => lv_i2d X.1 X.2.1 d (kk r hr H locs ls hP hD hS hl)
theorem vs_i2f {x : Int32} (X : Cx G p s m args meth c own Ts cc nL rt) (d : decode cc pc = .ok (.i2f, 1)) (kk : VS G p l e R s m args below meth c nL Qf sp k n S (pc + 1) lv (.float (FP.i2f x) :: st)) : VS G p l e R s m args below meth c nL Qf sp k n S pc lv (.int x :: st) := fun r hr H locs ls hP hD hS hl => lv_i2f X.1 X.2.1 d (kk r hr H locs ls hP hD hS hl)
theorem vs_ddiv {x y : UInt64} {f : UInt64 → Option ρ} (X : Cx G p s m args meth c own Ts cc nL rt) (d : decode cc pc = .ok (.ddiv, 1)) (kk : VS G p l e R s m args below meth c nL Qf (f (FP.ddiv x y)) k n S (pc + 1) lv (.double (FP.ddiv x y) :: st)) : VS G p l e R s m args below meth c nL Qf (n64 (FP.ddiv x y) f) k n S pc lv (.double y :: .double x :: st) := by
  intro r hr H locs ls hP hD hS hl
  unfold n64 at hr
  by_cases h : (FP.ddiv x y) &&& 0x7fffffffffffffff ≤ 0x7ff0000000000000
  · rw [if_pos h] at hr
    exact lv_ddiv X.1 X.2.1 d h (kk r hr H locs ls hP hD hS hl)
  · rw [if_neg h] at hr; cases hr
theorem vs_fdiv {x y : UInt32} {f : UInt32 → Option ρ} (X : Cx G p s m args meth c own Ts cc nL rt) (d : decode cc pc = .ok (.fdiv, 1)) (kk : VS G p l e R s m args below meth c nL Qf (f (FP.fdiv x y)) k n S (pc + 1) lv (.float (FP.fdiv x y) :: st)) : VS G p l e R s m args below meth c nL Qf (n32 (FP.fdiv x y) f) k n S pc lv (.float y :: .float x :: st) := by
  intro r hr H locs ls hP hD hS hl
  unfold n32 at hr
  by_cases h : (FP.fdiv x y) &&& 0x7fffffff ≤ 0x7f800000
  · rw [if_pos h] at hr
    exact lv_fdiv X.1 X.2.1 d h (kk r hr H locs ls hP hD hS hl)
  · rw [if_neg h] at hr; cases hr
theorem vs_f2d {x : UInt32} {f : UInt64 → Option ρ} (X : Cx G p s m args meth c own Ts cc nL rt) (d : decode cc pc = .ok (.f2d, 1)) (kk : VS G p l e R s m args below meth c nL Qf (f (FP.f2d x)) k n S (pc + 1) lv (.double (FP.f2d x) :: st)) : VS G p l e R s m args below meth c nL Qf (n64 (FP.f2d x) f) k n S pc lv (.float x :: st) := by
  intro r hr H locs ls hP hD hS hl
  unfold n64 at hr
  by_cases h : (FP.f2d x) &&& 0x7fffffffffffffff ≤ 0x7ff0000000000000
  · rw [if_pos h] at hr
    exact lv_f2d X.1 X.2.1 d h (kk r hr H locs ls hP hD hS hl)
  · rw [if_neg h] at hr; cases hr
theorem vs_ldcs {is si : Nat} {text : String} (X : Cx G p s m args meth c own Ts cc nL rt) (hsi : si < 45) (hstr : strL.getD si strD = (own, is, text)) (d : decode cc pc = .ok (.ldc is, 2)) (kk : VS G p l e R s m args below meth c nL Qf sp k n S (pc + 2) lv (.ref (sad G si) :: st)) : VS G p l e R s m args below meth c nL Qf sp k n S pc lv st := by
  intro r hr H locs ls hP hD hS hl
  have h9 := X.2.2.2.2.2.2.2.2.2.2.1 si hsi
  rw [hstr] at h9
  exact va_ldcS X.1 X.2.1 X.2.2.2.1 h9 d (kk r hr H locs ls hP hD hS hl)
variable {mc ms : Nat}
theorem vs_dret {x : UInt64} (X : Cx G p s m args meth c own Ts cc nL (some .double)) (d : decode cc pc = .ok (.dreturn, 1)) (hk : k ≤ mc) (hn : n ≤ ms) : VS G p l e R s m args below meth c nL (fun r => MQ below (QD G r) args s mc ms (Af G)) (some (x, S)) k n S pc lv [.double x] := by
  intro r hr H locs ls hP hD hS hl
  cases hr
  refine W.widen hk hn ?_
  exact W.dret X.1 X.2.1 X.2.2.2.2.2.1 (fun t ht hW => ⟨⟨x, S, rfl, ⟨rfl, rfl⟩, by rw [ht]; exact hP, hD⟩, hS.F ht⟩) hS.2.2 d (hlocks := X.2.2.2.2.2.2.1)
theorem vs_xdret {x : UInt64} (X : Cx G p s m args meth c own Ts cc nL (some .double)) (d : decode cc pc = .ok (.dreturn, 1)) (hk : k ≤ mc) (hn : n ≤ ms) : VS G p l e R s m args below meth c nL (fun r => vx_MQ below (QxD G r) (QxX G (r.1, 0, r.2.2)) args s mc ms (Af G)) (some (0, x, S)) k n S pc lv [.double x] := by
  intro r hr H locs ls hP hD hS hl
  cases hr
  refine W.widen hk hn (vx_ret ?_)
  exact W.dret X.1 X.2.1 X.2.2.2.2.2.1 (fun t ht hW => ⟨⟨x, S, rfl, ⟨rfl, rfl, rfl⟩, by rw [ht]; exact hP, hD⟩, hS.F ht⟩) hS.2.2 d (hlocks := X.2.2.2.2.2.2.1)
theorem vs_fret {x : UInt32} (X : Cx G p s m args meth c own Ts cc nL (some .float)) (d : decode cc pc = .ok (.freturn, 1)) (hk : k ≤ mc) (hn : n ≤ ms) : VS G p l e R s m args below meth c nL (fun r => MQ below (QF G r) args s mc ms (Af G)) (some (x, S)) k n S pc lv [.float x] := by
  intro r hr H locs ls hP hD hS hl
  cases hr
  refine W.widen hk hn ?_
  exact W.fret X.1 X.2.1 X.2.2.2.2.2.1 (fun t ht hW => ⟨⟨x, S, rfl, ⟨rfl, rfl⟩, by rw [ht]; exact hP, hD⟩, hS.F ht⟩) hS.2.2 d (hlocks := X.2.2.2.2.2.2.1)
theorem vs_xfret {x : UInt32} (X : Cx G p s m args meth c own Ts cc nL (some .float)) (d : decode cc pc = .ok (.freturn, 1)) (hk : k ≤ mc) (hn : n ≤ ms) : VS G p l e R s m args below meth c nL (fun r => vx_MQ below (QxF G r) (QxX G (r.1, 0, r.2.2)) args s mc ms (Af G)) (some (0, x, S)) k n S pc lv [.float x] := by
  intro r hr H locs ls hP hD hS hl
  cases hr
  refine W.widen hk hn (vx_ret ?_)
  exact W.fret X.1 X.2.1 X.2.2.2.2.2.1 (fun t ht hW => ⟨⟨x, S, rfl, ⟨rfl, rfl, rfl⟩, by rw [ht]; exact hP, hD⟩, hS.F ht⟩) hS.2.2 d (hlocks := X.2.2.2.2.2.2.1)
theorem vs_throwD {ik is ic si xc : Nat} {cls text : String} {names : List String} (X : Cx G p s m args meth c own Ts cc nL rt) (hl0 : l.stackTraces = false) (hT : ∀ x ∈ c.exceptionTable.toList, False) (hcls : Bundle.fit cls = true) (hnames : ∀ n ∈ names, Bundle.fit n = true) (hkl : Cond.classLink own ik cls ∈ Ts) (hini : Cond.initialized cls ∈ Ts) (hsi : si < 45) (hstr : strL.getD si strD = (own, is, text)) (hat1 : ∀ w ∈ (vx_atS own ic cls names).filter goodWord, w ∈ Ts) (hat2 : ∀ w ∈ (vx_atS own ic cls names).filter (fun w => !goodWord w), w ∈ Cond.castable cls cls :: dcL.map Cond.declares) (hca : va_Nw (.castable cls cls) s) (hgood : ∀ w ∈ Cond.classLink own ik cls :: Cond.initialized cls :: vx_atS own ic cls names, vx_ot w = true) (hxc : xc ≠ 0 ∧ exN xc = cls) (d0 : decode cc pc = .ok (.new ik, 3)) (d3 : decode cc (pc + 3) = .ok (.dup, 1)) (d4 : decode cc (pc + 4) = .ok (.ldc is, 2)) (d6 : decode cc (pc + 6) = .ok (.invokespecial ic, 3)) (d9 : decode cc (pc + 9) = .ok (.athrow, 1)) (hRframes : names.length + 3 < R.frames) (hRlocals : (st.map fun v => v.category).sum + (13 * (names.length + 1) + 43) ≤ R.locals) (hRcells : k + 1 ≤ R.cells) (hRslots : n + 6 ≤ R.slots) (hk : k + 1 ≤ mc) (hn : n + 6 ≤ ms) : VS G p l e R s m args below meth c nL (fun r => vx_MQ below (QxD G r) (QxX G (r.1, 0, r.2.2)) args s mc ms (Af G)) (some (xc, 0, S)) k n S pc lv st := by
  intro r hr H locs ls hP hD hS hl
  cases hr
  have hstr9 : vk_R own is text (sad G si) s := by
    have h9 := X.2.2.2.2.2.2.2.2.2.2.1 si hsi
    rw [hstr] at h9
    exact h9
  refine vx_throwS (A := Af G) (sa := sad G si) (names := names) X.1 X.2.1 hl0 X.2.2.2.1 hcls hnames (X.2.2.2.2.1 _ hkl) (X.2.2.2.2.1 _ hini) hstr9 (vx_hat (B := Cond.castable cls cls :: dcL.map Cond.declares) (fun w hw => X.2.2.2.2.1 w (hat1 w hw)) hat2 (vx_c (va_Nw.use rfl hca) (fun w hw => by obtain ⟨a, ha, rfl⟩ := List.mem_map.mp hw; exact va_Nw.use rfl (X.2.2.2.2.2.2.2.2.2.2.2.2.1.2.2.1 a ha)))) hgood X.2.2.2.2.2.2.2.2.2.1.1 X.2.2.2.2.2.2.2.2.2.1.2 hS (hl.1.trans X.2.2.1.symm) d0 d3 d4 d6 d9 (fun x hx => absurd (hT x hx) id) hRframes hRlocals hRcells hRslots X.2.2.2.2.2.2.1 (fun t hvm hz hq => ?_) hS.2.2 hk hn
  refine ⟨S, ⟨hxc.1, rfl⟩, ⟨hxc.2.symm, ?_, hD⟩, ?_⟩
  · exact hP.kept (fun j q hj => hq _ ((hP j q hj).lt))
  · exact ⟨Nat.le_trans hS.1 hz, fun q h1 h2 => by rw [hq q (Nat.lt_of_lt_of_le h1 hS.1)]; exact hS.2.1 q h1 h2⟩
theorem vs_throwF {ik is ic si xc : Nat} {cls text : String} {names : List String} (X : Cx G p s m args meth c own Ts cc nL rt) (hl0 : l.stackTraces = false) (hT : ∀ x ∈ c.exceptionTable.toList, False) (hcls : Bundle.fit cls = true) (hnames : ∀ n ∈ names, Bundle.fit n = true) (hkl : Cond.classLink own ik cls ∈ Ts) (hini : Cond.initialized cls ∈ Ts) (hsi : si < 45) (hstr : strL.getD si strD = (own, is, text)) (hat1 : ∀ w ∈ (vx_atS own ic cls names).filter goodWord, w ∈ Ts) (hat2 : ∀ w ∈ (vx_atS own ic cls names).filter (fun w => !goodWord w), w ∈ Cond.castable cls cls :: dcL.map Cond.declares) (hca : va_Nw (.castable cls cls) s) (hgood : ∀ w ∈ Cond.classLink own ik cls :: Cond.initialized cls :: vx_atS own ic cls names, vx_ot w = true) (hxc : xc ≠ 0 ∧ exN xc = cls) (d0 : decode cc pc = .ok (.new ik, 3)) (d3 : decode cc (pc + 3) = .ok (.dup, 1)) (d4 : decode cc (pc + 4) = .ok (.ldc is, 2)) (d6 : decode cc (pc + 6) = .ok (.invokespecial ic, 3)) (d9 : decode cc (pc + 9) = .ok (.athrow, 1)) (hRframes : names.length + 3 < R.frames) (hRlocals : (st.map fun v => v.category).sum + (13 * (names.length + 1) + 43) ≤ R.locals) (hRcells : k + 1 ≤ R.cells) (hRslots : n + 6 ≤ R.slots) (hk : k + 1 ≤ mc) (hn : n + 6 ≤ ms) : VS G p l e R s m args below meth c nL (fun r => vx_MQ below (QxF G r) (QxX G (r.1, 0, r.2.2)) args s mc ms (Af G)) (some (xc, 0, S)) k n S pc lv st := by
  intro r hr H locs ls hP hD hS hl
  cases hr
  have hstr9 : vk_R own is text (sad G si) s := by
    have h9 := X.2.2.2.2.2.2.2.2.2.2.1 si hsi
    rw [hstr] at h9
    exact h9
  refine vx_throwS (A := Af G) (sa := sad G si) (names := names) X.1 X.2.1 hl0 X.2.2.2.1 hcls hnames (X.2.2.2.2.1 _ hkl) (X.2.2.2.2.1 _ hini) hstr9 (vx_hat (B := Cond.castable cls cls :: dcL.map Cond.declares) (fun w hw => X.2.2.2.2.1 w (hat1 w hw)) hat2 (vx_c (va_Nw.use rfl hca) (fun w hw => by obtain ⟨a, ha, rfl⟩ := List.mem_map.mp hw; exact va_Nw.use rfl (X.2.2.2.2.2.2.2.2.2.2.2.2.1.2.2.1 a ha)))) hgood X.2.2.2.2.2.2.2.2.2.1.1 X.2.2.2.2.2.2.2.2.2.1.2 hS (hl.1.trans X.2.2.1.symm) d0 d3 d4 d6 d9 (fun x hx => absurd (hT x hx) id) hRframes hRlocals hRcells hRslots X.2.2.2.2.2.2.1 (fun t hvm hz hq => ?_) hS.2.2 hk hn
  refine ⟨S, ⟨hxc.1, rfl⟩, ⟨hxc.2.symm, ?_, hD⟩, ?_⟩
  · exact hP.kept (fun j q hj => hq _ ((hP j q hj).lt))
  · exact ⟨Nat.le_trans hS.1 hz, fun q h1 h2 => by rw [hq q (Nat.lt_of_lt_of_le h1 hS.1)]; exact hS.2.1 q h1 h2⟩
theorem MD_of {y : MethodName} {ws ws' : List Cond} {rm : Room} {av : List Value} {mc ms maxL : Nat} {ret : Option FieldType} {sp : Option (UInt64 × Wo)} (hy : plainName y.cls = true) (hown : y.cls = own) (hw : ws = Cond.code y cc maxL ret :: ws') (hlen : (lg_sl av).length ≤ maxL) (body : ∀ (p : Program) (e : Env) (s : State) (m : MethodId) (args : Array Value) (below : List Frame) (meth : Method) (c : Code), Cx G p s m args meth c own ws cc maxL ret → VS G p l e rm s m args below meth c maxL (fun r => MQ below (QD G r) args s mc ms (Af G)) sp 0 0 S 0 (lv_args 0 av) []) : ∀ r, sp = some r → MD l y ws rm G S av r mc ms := by
  intro r hr
  refine Met.ofW (cc := cc) (maxL := maxL) (ret := ret) hy hw ?_
  intro p e s m args below meth c s₁ B hml hv
  obtain ⟨rfl, hK, hP, hD⟩ := hv
  have hl := lv_entry av hlen
  rw [lg_entry_eq]
  exact body p e s m _ below meth c ⟨B.exec, B.bytes, hml, by rw [← hown]; exact findClass_of_methodNamed B.named, atoms_spec (ws := ws) B.pre, B.returns, B.notSynchronized, hK⟩ r hr s.heap [] _ hP hD va_S.rf hl
theorem MF_of {y : MethodName} {ws ws' : List Cond} {rm : Room} {av : List Value} {mc ms maxL : Nat} {ret : Option FieldType} {sp : Option (UInt32 × Wo)} (hy : plainName y.cls = true) (hown : y.cls = own) (hw : ws = Cond.code y cc maxL ret :: ws') (hlen : (lg_sl av).length ≤ maxL) (body : ∀ (p : Program) (e : Env) (s : State) (m : MethodId) (args : Array Value) (below : List Frame) (meth : Method) (c : Code), Cx G p s m args meth c own ws cc maxL ret → VS G p l e rm s m args below meth c maxL (fun r => MQ below (QF G r) args s mc ms (Af G)) sp 0 0 S 0 (lv_args 0 av) []) : ∀ r, sp = some r → MF l y ws rm G S av r mc ms := by
  intro r hr
  refine Met.ofW (cc := cc) (maxL := maxL) (ret := ret) hy hw ?_
  intro p e s m args below meth c s₁ B hml hv
  obtain ⟨rfl, hK, hP, hD⟩ := hv
  have hl := lv_entry av hlen
  rw [lg_entry_eq]
  exact body p e s m _ below meth c ⟨B.exec, B.bytes, hml, by rw [← hown]; exact findClass_of_methodNamed B.named, atoms_spec (ws := ws) B.pre, B.returns, B.notSynchronized, hK⟩ r hr s.heap [] _ hP hD va_S.rf hl
theorem MXD_of {y : MethodName} {ws ws' : List Cond} {rm : Room} {av : List Value} {mc ms maxL : Nat} {ret : Option FieldType} {sp : Option (Nat × UInt64 × Wo)} (hy : plainName y.cls = true) (hown : y.cls = own) (hw : ws = Cond.code y cc maxL ret :: ws') (hlen : (lg_sl av).length ≤ maxL) (body : ∀ (p : Program) (e : Env) (s : State) (m : MethodId) (args : Array Value) (below : List Frame) (meth : Method) (c : Code), Cx G p s m args meth c own ws cc maxL ret → (∀ x ∈ c.exceptionTable.toList, False) → VS G p l e rm s m args below meth c maxL (fun r => vx_MQ below (QxD G r) (QxX G (r.1, 0, r.2.2)) args s mc ms (Af G)) sp 0 0 S 0 (lv_args 0 av) []) : ∀ r, sp = some r → MXD l y ws rm G S av r mc ms := by
  intro r hr
  refine vx_ofW (cc := cc) (maxL := maxL) (ret := ret) hy hw ?_
  intro p e s m args below meth c s₁ B hml ht hv
  obtain ⟨rfl, hK, hP, hD⟩ := hv
  have hl := lv_entry av hlen
  rw [lg_entry_eq]
  exact body p e s m _ below meth c ⟨B.exec, B.bytes, hml, by rw [← hown]; exact findClass_of_methodNamed B.named, atoms_spec (ws := ws) B.pre, B.returns, B.notSynchronized, hK⟩ ht r hr s.heap [] _ hP hD va_S.rf hl
theorem MXF_of {y : MethodName} {ws ws' : List Cond} {rm : Room} {av : List Value} {mc ms maxL : Nat} {ret : Option FieldType} {sp : Option (Nat × UInt32 × Wo)} (hy : plainName y.cls = true) (hown : y.cls = own) (hw : ws = Cond.code y cc maxL ret :: ws') (hlen : (lg_sl av).length ≤ maxL) (body : ∀ (p : Program) (e : Env) (s : State) (m : MethodId) (args : Array Value) (below : List Frame) (meth : Method) (c : Code), Cx G p s m args meth c own ws cc maxL ret → (∀ x ∈ c.exceptionTable.toList, False) → VS G p l e rm s m args below meth c maxL (fun r => vx_MQ below (QxF G r) (QxX G (r.1, 0, r.2.2)) args s mc ms (Af G)) sp 0 0 S 0 (lv_args 0 av) []) : ∀ r, sp = some r → MXF l y ws rm G S av r mc ms := by
  intro r hr
  refine vx_ofW (cc := cc) (maxL := maxL) (ret := ret) hy hw ?_
  intro p e s m args below meth c s₁ B hml ht hv
  obtain ⟨rfl, hK, hP, hD⟩ := hv
  have hl := lv_entry av hlen
  rw [lg_entry_eq]
  exact body p e s m _ below meth c ⟨B.exec, B.bytes, hml, by rw [← hown]; exact findClass_of_methodNamed B.named, atoms_spec (ws := ws) B.pre, B.returns, B.notSynchronized, hK⟩ ht r hr s.heap [] _ hP hD va_S.rf hl
end NINE

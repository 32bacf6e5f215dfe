section TEN
variable {ρ : Type} {G : Gt} {p : Program} {l : Launch} {e : Env} {R : Room} {s : State} {m : MethodId} {args : Array Value} {below : List Frame} {meth : Method} {c : Code} {nL : Nat} {Qf : ρ → State → Prop} {sp A B : Option ρ} {k n index mc9 ms9 maxL : Nat} {S : Wo} {pc : Nat} {lv lv' : List (Nat × Value)} {st st' : List Value} {own : String} {Ts ws : List Cond} {cc bytes : ByteArray} {rt ret : Option FieldType} {mc ms : Nat} {rm' : Room} {As : List Value}
theorem vs_throwIW {ik is ic si xc : Nat} {cls text : String} {names : List String} (X : Cx G p s m args meth c own Ts cc nL rt) (hl0 : l.stackTraces = false) (hT : ∀ x ∈ c.exceptionTable.toList, False) (hcls : Bundle.fit cls = true) (hnames : ∀ n ∈ names, Bundle.fit n = true) (hkl : Cond.classLink own ik cls ∈ Ts) (hini : Cond.initialized cls ∈ Ts) (hsi : si < 45) (hstr : strL.getD si strD = (own, is, text)) (hat1 : ∀ w ∈ (vx_atS own ic cls names).filter goodWord, w ∈ Ts) (hat2 : ∀ w ∈ (vx_atS own ic cls names).filter (fun w => !goodWord w), w ∈ Cond.castable cls cls :: dcL.map Cond.declares) (hca : va_Nw (.castable cls cls) s) (hgood : ∀ w ∈ Cond.classLink own ik cls :: Cond.initialized cls :: vx_atS own ic cls names, vx_ot w = true) (hxc : xc ≠ 0 ∧ exN xc = cls) (d0 : decode cc pc = .ok (.new ik, 3)) (d3 : decode cc (pc + 3) = .ok (.dup, 1)) (d4 : decode cc (pc + 4) = .ok (.ldc_w is, 3)) (d6 : decode cc (pc + 7) = .ok (.invokespecial ic, 3)) (d9 : decode cc (pc + 10) = .ok (.athrow, 1)) (hRframes : names.length + 3 < R.frames) (hRlocals : (st.map fun v => v.category).sum + (13 * (names.length + 1) + 43) ≤ R.locals) (hRcells : k + 1 ≤ R.cells) (hRslots : n + 6 ≤ R.slots) (hk : k + 1 ≤ mc) (hn : n + 6 ≤ ms) : VS G p l e R s m args below meth c nL (fun r => vx_MQ below (QxI G r) (QxX G r) args s mc ms (Af G)) (some (xc, 0, S)) k n S pc lv st := by
  intro r hr H locs ls hP hD hS hl
  cases hr
  have hstr9 : vk_R own is text (sad G si) s := by
    have h9 := X.2.2.2.2.2.2.2.2.2.2.1 si hsi
    rw [hstr] at h9
    exact h9
  refine vx_throwSW (A := Af G) (sa := sad G si) (names := names) X.1 X.2.1 hl0 X.2.2.2.1 hcls hnames (X.2.2.2.2.1 _ hkl) (X.2.2.2.2.1 _ hini) hstr9 (vx_hat (B := Cond.castable cls cls :: dcL.map Cond.declares) (fun w hw => X.2.2.2.2.1 w (hat1 w hw)) hat2 (vx_c (va_Nw.use rfl hca) (fun w hw => by obtain ⟨a, ha, rfl⟩ := List.mem_map.mp hw; exact va_Nw.use rfl (X.2.2.2.2.2.2.2.2.2.2.2.2.1.2.2.1 a ha)))) hgood X.2.2.2.2.2.2.2.2.2.1.1 X.2.2.2.2.2.2.2.2.2.1.2 hS (hl.1.trans X.2.2.1.symm) d0 d3 d4 d6 d9 (fun x hx => absurd (hT x hx) id) hRframes hRlocals hRcells hRslots X.2.2.2.2.2.2.1 (fun t hvm hz hq => ?_) hS.2.2 hk hn
  refine ⟨S, ⟨hxc.1, rfl⟩, ⟨hxc.2.symm, ?_, hD⟩, ?_⟩
  · exact hP.kept (fun j q hj => hq _ ((hP j q hj).lt))
  · exact ⟨Nat.le_trans hS.1 hz, fun q h1 h2 => by rw [hq q (Nat.lt_of_lt_of_le h1 hS.1)]; exact hS.2.1 q h1 h2⟩
theorem vs_throwVW {ik is ic si xc : Nat} {cls text : String} {names : List String} (X : Cx G p s m args meth c own Ts cc nL rt) (hl0 : l.stackTraces = false) (hT : ∀ x ∈ c.exceptionTable.toList, False) (hcls : Bundle.fit cls = true) (hnames : ∀ n ∈ names, Bundle.fit n = true) (hkl : Cond.classLink own ik cls ∈ Ts) (hini : Cond.initialized cls ∈ Ts) (hsi : si < 45) (hstr : strL.getD si strD = (own, is, text)) (hat1 : ∀ w ∈ (vx_atS own ic cls names).filter goodWord, w ∈ Ts) (hat2 : ∀ w ∈ (vx_atS own ic cls names).filter (fun w => !goodWord w), w ∈ Cond.castable cls cls :: dcL.map Cond.declares) (hca : va_Nw (.castable cls cls) s) (hgood : ∀ w ∈ Cond.classLink own ik cls :: Cond.initialized cls :: vx_atS own ic cls names, vx_ot w = true) (hxc : xc ≠ 0 ∧ exN xc = cls) (d0 : decode cc pc = .ok (.new ik, 3)) (d3 : decode cc (pc + 3) = .ok (.dup, 1)) (d4 : decode cc (pc + 4) = .ok (.ldc_w is, 3)) (d6 : decode cc (pc + 7) = .ok (.invokespecial ic, 3)) (d9 : decode cc (pc + 10) = .ok (.athrow, 1)) (hRframes : names.length + 3 < R.frames) (hRlocals : (st.map fun v => v.category).sum + (13 * (names.length + 1) + 43) ≤ R.locals) (hRcells : k + 1 ≤ R.cells) (hRslots : n + 6 ≤ R.slots) (hk : k + 1 ≤ mc) (hn : n + 6 ≤ ms) : VS G p l e R s m args below meth c nL (fun r => vx_MQ below (QxV G r) (QxX G r) args s mc ms (Af G)) (some (xc, 0, S)) k n S pc lv st := by
  intro r hr H locs ls hP hD hS hl
  cases hr
  have hstr9 : vk_R own is text (sad G si) s := by
    have h9 := X.2.2.2.2.2.2.2.2.2.2.1 si hsi
    rw [hstr] at h9
    exact h9
  refine vx_throwSW (A := Af G) (sa := sad G si) (names := names) X.1 X.2.1 hl0 X.2.2.2.1 hcls hnames (X.2.2.2.2.1 _ hkl) (X.2.2.2.2.1 _ hini) hstr9 (vx_hat (B := Cond.castable cls cls :: dcL.map Cond.declares) (fun w hw => X.2.2.2.2.1 w (hat1 w hw)) hat2 (vx_c (va_Nw.use rfl hca) (fun w hw => by obtain ⟨a, ha, rfl⟩ := List.mem_map.mp hw; exact va_Nw.use rfl (X.2.2.2.2.2.2.2.2.2.2.2.2.1.2.2.1 a ha)))) hgood X.2.2.2.2.2.2.2.2.2.1.1 X.2.2.2.2.2.2.2.2.2.1.2 hS (hl.1.trans X.2.2.1.symm) d0 d3 d4 d6 d9 (fun x hx => absurd (hT x hx) id) hRframes hRlocals hRcells hRslots X.2.2.2.2.2.2.1 (fun t hvm hz hq => ?_) hS.2.2 hk hn
  refine ⟨S, ⟨hxc.1, rfl⟩, ⟨hxc.2.symm, ?_, hD⟩, ?_⟩
  · exact hP.kept (fun j q hj => hq _ ((hP j q hj).lt))
  · exact ⟨Nat.le_trans hS.1 hz, fun q h1 h2 => by rw [hq q (Nat.lt_of_lt_of_le h1 hS.1)]; exact hS.2.1 q h1 h2⟩
theorem vs_ord {j : Nat} (X : Cx G p s m args meth c own Ts cc nL rt) (hlink : Cond.fieldLink own index "java/lang/Enum" "ordinal" "I" ∈ Ts) (d : decode cc pc = .ok (.getfield index, 3)) (kk : VS G p l e R s m args below meth c nL Qf A k n S (pc + 3) lv (.int (nI j) :: st)) : VS G p l e R s m args below meth c nL Qf (if j < 9 then A else none) k n S pc lv (.ref (adK G j) :: st) := by
  intro r hr H locs ls hP hD hS hl
  by_cases h : j < 9
  · rw [if_pos h] at hr
    refine va_getE (q := ("java/lang/Enum", "ordinal", "I", [0, 1, 2, 3, 4, 5, 6, 7, 8])) (i := j) X.1 X.2.1 (KO_of X).2.1 (by exact h) hS X.2.2.2.1 (List.mem_singleton.mpr rfl) (X.2.2.2.2.1 _ hlink) (fun x hx => hx) d ?_
    have e9 : ([0, 1, 2, 3, 4, 5, 6, 7, 8] : List Int32).getD j 0 = nI j := by
      match j, h with
      | 0, _ => rfl
      | 1, _ => rfl
      | 2, _ => rfl
      | 3, _ => rfl
      | 4, _ => rfl
      | 5, _ => rfl
      | 6, _ => rfl
      | 7, _ => rfl
      | 8, _ => rfl
    show W p l e R s m args below meth c H locs k n (Qf r) (F0 m (pc + 3) ls (.int (([0, 1, 2, 3, 4, 5, 6, 7, 8] : List Int32).getD j 0) :: st))
    rw [e9]
    exact kk r hr H locs ls hP hD hS hl
  · rw [if_neg h] at hr; cases hr
theorem vs_callKp {j : Nat} {y x9 : MethodName} {owner : String} {spc : Option Int32} {g : Int32 → Option ρ} (X : Cx G p s m args meth c own Ts cc nL rt) (hM : ∀ x, spc = some x → MI l y ws rm' G S (.ref (adK G j) :: As) (x, S) mc9 ms9) (cw : va_CU R s args own "ScarecrowRegistry$Kind" owner index x9 y bytes maxL ret ws rm' mc9 ms9 As.length) (hst : st = As.reverse ++ .ref (adK G j) :: st') (hsz : (st'.map fun v => v.category).sum ≤ 8) (d : decode cc pc = .ok (.invokevirtual index, 3)) (hf : k + mc9 ≤ R.cells ∧ n + ms9 ≤ R.slots) (kk : ∀ x, spc = some x → VS G p l e R s m args below meth c nL Qf (g x) (k + mc9) (n + ms9) S (pc + 3) lv (.int x :: st')) : VS G p l e R s m args below meth c nL Qf (if j < 9 then spc.bind g else none) k n S pc lv st := by
  intro r hr H locs ls hP hD hS hl
  by_cases h : j < 9
  · rw [if_pos h] at hr
    obtain ⟨q, hq, hf9⟩ := Option.bind_eq_some_iff.mp hr
    subst hst
    refine va_calli (va_runU (As := As) (rest := st') ⟨X.1, X.2.1, X.2.2.1, X.2.2.2.1, X.2.2.2.2.1⟩ (hM q hq) cw ⟨PreM.blind, va_recvE (KO_of X).2.1 (by exact h) hS, fun U hU hW => ⟨rfl, X.2.2.2.2.2.2.2.to hS hU hW, by rw [hU]; exact hP, hD⟩⟩ rfl rfl hl.1 rfl (lv_room hsz) d hf) hS (fun q _ h => h) (fun q h => h) (fun x u t H1 locs1 ht hvm hw hB hz hk hS1 => ?_)
    obtain ⟨rfl, rfl⟩ := hw
    obtain ⟨hP1, hD1⟩ := hB
    rw [ht] at hP1
    exact kk _ hq r hf9 H1 locs1 ls hP1 hD1 hS1 hl
  · rw [if_neg h] at hr; cases hr
end TEN

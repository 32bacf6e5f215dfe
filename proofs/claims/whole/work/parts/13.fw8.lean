theorem cel_sel {G : Gt} {S T : Wo} {i : Nat} (h1 : S.1 i = T.1 i) (h2 : S.2.1 i = T.2.1 i) (hK : i = 159 → S.2.2.1.1 = T.2.2.1.1) (hB : i = 164 → S.2.2.1.2.1 = T.2.2.1.2.1) (hN : i = 165 → S.2.2.1.2.2 = T.2.2.1.2.2) (hL : i = 175 → S.2.2.2.1 = T.2.2.2.1) (hD : i ≠ 175 → S.2.2.2.2 = T.2.2.2.2) : cel G S i = cel G T i := by
  have hb : ∀ b, b ≤ i → celBlk G S (i - b) b = celBlk G T (i - b) b := fun b hb => celBlk_cong (by rw [Nat.sub_add_cancel hb]; exact h1) (by rw [Nat.sub_add_cancel hb]; exact h2)
  unfold cel
  by_cases h : i = 0
  · rw [if_pos h, if_pos h]
    subst h
    simp only [celReg, h1]
  rw [if_neg h, if_neg h]
  clear h
  by_cases h : i ≤ 52
  · rw [if_pos h, if_pos h]
    exact hb _ (by omega)
  rw [if_neg h, if_neg h]
  clear h
  by_cases h : i = 53
  · rw [if_pos h, if_pos h]
    subst h
    simp only [celHis, h1]
  rw [if_neg h, if_neg h]
  clear h
  by_cases h : i = 54
  · rw [if_pos h, if_pos h]
  rw [if_neg h, if_neg h]
  clear h
  by_cases h : i ≤ 158
  · rw [if_pos h, if_pos h]
    exact hb _ (by omega)
  rw [if_neg h, if_neg h]
  clear h
  by_cases h : i = 159
  · rw [if_pos h, if_pos h]
    subst h
    simp only [celTxt, h1, hK rfl]
  rw [if_neg h, if_neg h]
  clear h
  by_cases h : i = 160
  · rw [if_pos h, if_pos h]
  rw [if_neg h, if_neg h]
  clear h
  by_cases h : i = 161
  · rw [if_pos h, if_pos h]
    subst h
    simp only [celArr, h2]
  rw [if_neg h, if_neg h]
  clear h
  by_cases h : i = 162
  · rw [if_pos h, if_pos h]
  rw [if_neg h, if_neg h]
  clear h
  by_cases h : i = 163
  · rw [if_pos h, if_pos h]
    subst h
    simp only [celArr, h2]
  rw [if_neg h, if_neg h]
  clear h
  by_cases h : i = 164
  · rw [if_pos h, if_pos h]
    subst h
    simp only [celSb, h1, hB rfl]
  rw [if_neg h, if_neg h]
  clear h
  by_cases h : i = 165
  · rw [if_pos h, if_pos h]
    subst h
    simp only [celArr, h2, hN rfl]
  rw [if_neg h, if_neg h]
  clear h
  by_cases h : i = 166
  · rw [if_pos h, if_pos h]
    subst h
    simp only [celMod, h1]
  rw [if_neg h, if_neg h]
  clear h
  by_cases h : i = 168
  · rw [if_pos h, if_pos h]
    subst h
    simp only [celArr, h2]
  rw [if_neg h, if_neg h]
  clear h
  by_cases h : i ≤ 171
  · rw [if_pos h, if_pos h]
    simp only [celArr, h2]
  rw [if_neg h, if_neg h]
  clear h
  by_cases h : i = 172
  · rw [if_pos h, if_pos h]
    subst h
    simp only [celArr, h2]
  rw [if_neg h, if_neg h]
  clear h
  by_cases h : i = 173
  · rw [if_pos h, if_pos h]
    subst h
    simp only [celArr, h2]
  rw [if_neg h, if_neg h]
  clear h
  by_cases h : i = 174
  · rw [if_pos h, if_pos h]
    subst h
    simp only [celArr, h2]
  rw [if_neg h, if_neg h]
  clear h
  by_cases h : i = 175
  · rw [if_pos h, if_pos h]
    rw [hL h]
  rw [if_neg h, if_neg h]
  rw [hD h]
theorem lay_pK {G : Gt} {S : Wo} {j : Nat} {x : va_E} (hx : cel G (pK S j) 159 = x) : (lay G S).set 159 (gB G + 159, x) = lay G (pK S j) := by
  rw [← adr_ne (G := G) (S := S) (by decide : (159 : Nat) ≠ 165)]
  exact lay_set (S := S) (T := pK S j) (by decide) (fun _ => rfl) (fun i hi => cel_sel rfl rfl (fun h => absurd h hi) (fun _ => rfl) (fun _ => rfl) (fun _ => rfl) (fun _ => rfl)) hx
def rb {ρ : Type} (x : Int32) (f : Int32 → Option ρ) : Option ρ := if x.toInt8.toInt32 = x then f x else none
section TXT
variable {ρ : Type} {G : Gt} {p : Program} {l : Launch} {e : Env} {R : Room} {s : State} {m : MethodId} {args : Array Value} {below : List Frame} {meth : Method} {c : Code} {nL : Nat} {Qf : ρ → State → Prop} {sp A B : Option ρ} {k n : Nat} {S : Wo} {pc : Nat} {lv lv' : List (Nat × Value)} {st st' : List Value} {own : String} {Ts : List Cond} {cc : ByteArray} {rt : Option FieldType} {index : Nat} {v : Value} {f : Wo → Option ρ}
theorem vs_aaldSlots {i : Int32} (X : Cx G p s m args meth c own Ts cc nL rt) (d : decode cc pc = .ok (.aaload, 1)) (kk : VS G p l e R s m args below meth c nL Qf A k n S (pc + 1) lv (rf G (55 + 13 * ix i) :: st)) : VS G p l e R s m args below meth c nL Qf (if inb i 8 = true then A else none) k n S pc lv (.int i :: rf G 54 :: st) := by
  intro r hr H locs ls hP hD hS hl
  by_cases h : inb i 8 = true
  · rw [if_pos h] at hr
    exact va_aldq X.1 X.2.1 X.2.2.2.2.2.2.2.1 hP 54 3 (C := "ScarecrowRegistry$State") (lay_ne (c := celSlo G) (by decide) (by decide) rfl) rfl (inb_in.mp h) d (kk r hr H locs ls hP hD hS hl)
  · rw [if_neg h] at hr; cases hr
theorem vs_alenSlots (X : Cx G p s m args meth c own Ts cc nL rt) (d : decode cc pc = .ok (.arraylength, 1)) (kk : VS G p l e R s m args below meth c nL Qf sp k n S (pc + 1) lv (.int 8 :: st)) : VS G p l e R s m args below meth c nL Qf sp k n S pc lv (rf G 54 :: st) := fun r hr H locs ls hP hD hS hl => va_alen X.1 X.2.1 X.2.2.2.2.2.2.2.1 hP 54 3 (lay_ne (c := celSlo G) (by decide) (by decide) rfl) rfl (v := 8) rfl d (kk r hr H locs ls hP hD hS hl)
theorem KO_of (X : Cx G p s m args meth c own Ts cc nL rt) : KO G s s.heap := X.2.2.2.2.2.2.2.2.2.2.2.1
theorem vs_strV {t : Nat} (X : Cx G p s m args meth c own Ts cc nL rt) (ht : t < 24) (hlink : Cond.fieldLink own index "java/lang/String" "value" "[B" ∈ Ts) (d : decode cc pc = .ok (.getfield index, 3)) (kk : VS G p l e R s m args below meth c nL Qf sp k n S (pc + 3) lv (.ref (vad G t) :: st)) : VS G p l e R s m args below meth c nL Qf sp k n S pc lv (.ref (sad G t) :: st) := by
  intro r hr H locs ls hP hD hS hl
  obtain ⟨cf, k9, fi, f9, cell, h1, h2, h3, h4, h5, h6⟩ := (((KO_of X).1 t ht).2.2.1).kept hS.2.1
  exact W.getf X.1 X.2.1 X.2.2.2.1 (X.2.2.2.2.1 _ hlink) h1 h2 h3 h4 h5 rfl rfl d (kk r hr H locs ls hP hD hS hl)
theorem vs_strC {t : Nat} (X : Cx G p s m args meth c own Ts cc nL rt) (ht : t < 24) (hlink : Cond.fieldLink own index "java/lang/String" "coder" "B" ∈ Ts) (d : decode cc pc = .ok (.getfield index, 3)) (kk : VS G p l e R s m args below meth c nL Qf sp k n S (pc + 3) lv (.int 0 :: st)) : VS G p l e R s m args below meth c nL Qf sp k n S pc lv (.ref (sad G t) :: st) := by
  intro r hr H locs ls hP hD hS hl
  obtain ⟨cf, k9, fi, f9, cell, h1, h2, h3, h4, h5, h6⟩ := (((KO_of X).1 t ht).2.1).kept hS.2.1
  exact W.getf X.1 X.2.1 X.2.2.2.1 (X.2.2.2.2.1 _ hlink) h1 h2 h3 h4 h5 rfl rfl d (kk r hr H locs ls hP hD hS hl)
theorem vs_strL {t : Nat} (X : Cx G p s m args meth c own Ts cc nL rt) (ht : t < 24) (d : decode cc pc = .ok (.arraylength, 1)) (kk : VS G p l e R s m args below meth c nL Qf sp k n S (pc + 1) lv (.int (Int32.ofNat (bytL.getD t []).length) :: st)) : VS G p l e R s m args below meth c nL Qf sp k n S pc lv (.ref (vad G t) :: st) := fun r hr H locs ls hP hD hS hl => va_tlen X.1 X.2.1 ((KO_of X).1 t ht).2.2.2 hS rfl d (kk r hr H locs ls hP hD hS hl)
theorem vs_strB {t : Nat} {i : Int32} (X : Cx G p s m args meth c own Ts cc nL rt) (ht : t < 24) (d : decode cc pc = .ok (.baload, 1)) (kk : VS G p l e R s m args below meth c nL Qf A k n S (pc + 1) lv (.int ((bytL.getD t []).getD (ix i) 0) :: st)) : VS G p l e R s m args below meth c nL Qf (if inb i (bytL.getD t []).length = true then A else none) k n S pc lv (.int i :: .ref (vad G t) :: st) := by
  intro r hr H locs ls hP hD hS hl
  by_cases h : inb i (bytL.getD t []).length = true
  · rw [if_pos h] at hr
    exact va_tb X.1 X.2.1 ((KO_of X).1 t ht).2.2.2 hS (inb_in.mp h) rfl d (kk r hr H locs ls hP hD hS hl)
  · rw [if_neg h] at hr; cases hr
theorem vs_getsC (X : Cx G p s m args meth c own Ts cc nL rt) (hlink : Cond.fieldLink own index "java/lang/String" "COMPACT_STRINGS" "Z" ∈ Ts) (d : decode cc pc = .ok (.getstatic index, 3)) (kk : VS G p l e R s m args below meth c nL Qf sp k n S (pc + 3) lv (.int 1 :: st)) : VS G p l e R s m args below meth c nL Qf sp k n S pc lv st := fun r hr H locs ls hP hD hS hl => va_gets X.1 X.2.1 (KO_of X).2.2.2.2.2.2.2.2.1 hS X.2.2.2.1 (X.2.2.2.2.1 _ hlink) (fun _ h => h) d (kk r hr H locs ls hP hD hS hl)
theorem vs_getsK {host : String} (X : Cx G p s m args meth c own Ts cc nL rt) (hlink : (own, index, "ScarecrowRegistry", "KINDS", "[LScarecrowRegistry$Kind;", host) ∈ nwF) (d : decode cc pc = .ok (.getstatic index, 3)) (kk : VS G p l e R s m args below meth c nL Qf sp k n S (pc + 3) lv (.ref (tad G 0) :: st)) : VS G p l e R s m args below meth c nL Qf sp k n S pc lv st := fun r hr H locs ls hP hD hS hl => va_getsN X.1 X.2.1 (KO_of X).2.2.2.2.1.1 hS X.2.2.2.1 (va_Nw.use rfl (X.2.2.2.2.2.2.2.2.1.1 _ hlink)) (fun _ h => h) d (kk r hr H locs ls hP hD hS hl)
theorem vs_alenK (X : Cx G p s m args meth c own Ts cc nL rt) (d : decode cc pc = .ok (.arraylength, 1)) (kk : VS G p l e R s m args below meth c nL Qf sp k n S (pc + 1) lv (.int 9 :: st)) : VS G p l e R s m args below meth c nL Qf sp k n S pc lv (.ref (tad G 0) :: st) := fun r hr H locs ls hP hD hS hl => va_tlen X.1 X.2.1 (KO_of X).2.2.2.2.1.2 hS (v := 9) rfl d (kk r hr H locs ls hP hD hS hl)
theorem vs_aaldK {i : Int32} (X : Cx G p s m args meth c own Ts cc nL rt) (d : decode cc pc = .ok (.aaload, 1)) (kk : VS G p l e R s m args below meth c nL Qf A k n S (pc + 1) lv (.ref (adK G (ix i)) :: st)) : VS G p l e R s m args below meth c nL Qf (if inb i 9 = true then A else none) k n S pc lv (.int i :: .ref (tad G 0) :: st) := by
  intro r hr H locs ls hP hD hS hl
  by_cases h : inb i 9 = true
  · rw [if_pos h] at hr
    exact vb_tq X.1 X.2.1 (KO_of X).2.2.2.2.1.2 hS (inb_in.mp h) rfl d (kk r hr H locs ls hP hD hS hl)
  · rw [if_neg h] at hr; cases hr
theorem vs_kwd {j : Nat} {host : String} (X : Cx G p s m args meth c own Ts cc nL rt) (hlink : (own, index, "ScarecrowRegistry$Kind", "word", "Ljava/lang/String;", host) ∈ nwF) (d : decode cc pc = .ok (.getfield index, 3)) (kk : VS G p l e R s m args below meth c nL Qf A k n S (pc + 3) lv (.ref (sad G (wrdL.getD j 0)) :: st)) : VS G p l e R s m args below meth c nL Qf (if j < 9 then A else none) k n S pc lv (.ref (adK G j) :: st) := by
  intro r hr H locs ls hP hD hS hl
  by_cases h : j < 9
  · rw [if_pos h] at hr
    obtain ⟨cf, k9, fi, f9, cell, h1, h2, h3, h4, h5, h6⟩ := ((KO_of X).2.2.1 j h).kept hS.2.1
    exact va_Wgetf X.1 X.2.1 X.2.2.2.1 (va_Nw.use rfl (X.2.2.2.2.2.2.2.2.1.1 _ hlink)) h1 h2 h3 h4 h5 rfl rfl d (kk r hr H locs ls hP hD hS hl)
  · rw [if_neg h] at hr; cases hr
theorem vs_ksh {j : Nat} {host : String} (X : Cx G p s m args meth c own Ts cc nL rt) (hlink : (own, index, "ScarecrowRegistry$Kind", "shape", "Ljava/lang/String;", host) ∈ nwF) (d : decode cc pc = .ok (.getfield index, 3)) (kk : VS G p l e R s m args below meth c nL Qf A k n S (pc + 3) lv (.ref (sad G (shpL.getD j 0)) :: st)) : VS G p l e R s m args below meth c nL Qf (if j < 9 then A else none) k n S pc lv (.ref (adK G j) :: st) := by
  intro r hr H locs ls hP hD hS hl
  by_cases h : j < 9
  · rw [if_pos h] at hr
    obtain ⟨cf, k9, fi, f9, cell, h1, h2, h3, h4, h5, h6⟩ := ((KO_of X).2.2.2.1 j h).kept hS.2.1
    exact va_Wgetf X.1 X.2.1 X.2.2.2.1 (va_Nw.use rfl (X.2.2.2.2.2.2.2.2.1.1 _ hlink)) h1 h2 h3 h4 h5 rfl rfl d (kk r hr H locs ls hP hD hS hl)
  · rw [if_neg h] at hr; cases hr
theorem vs_putK {j : Nat} (X : Cx G p s m args meth c own Ts cc nL rt) (hin : ∀ w ∈ wsX10, w ∈ Ts) (hlink : Cond.fieldLink own index RX1 "kind" "LScarecrowRegistry$Kind;" ∈ Ts) (d : decode cc pc = .ok (.putfield index, 3)) (kk : ∀ S1, S1 = pK S j → VS G p l e R s m args below meth c nL Qf (f S1) k n S1 (pc + 3) lv st) : VS G p l e R s m args below meth c nL Qf (wr (pK S j) f) k n S pc lv (.ref (adK G j) :: rf G 159 :: st) := by
  intro r hr H locs ls hP hD hS hl
  refine va_put X.1 X.2.1 X.2.2.2.2.1 (C := RX1) (T := TX1) (N := 5) (ci := 4) (ref := RX1) hin tyX1 tyX1_ok nmX1 X.2.2.2.1 X.2.2.2.2.2.2.2.1 hP hD hS 159 (fs := [rf G 160, .int (S.1 159 1), .int (S.1 159 2), .ref (adK G S.2.2.1.1), rf G 162]) (lay_ne (by decide) (by decide) rfl) rfl 3 (by decide) (X.2.2.2.2.1 _ hlink) (fun _ h => h) rfl (ty := .object "ScarecrowRegistry$Kind") (by decide +kernel) rfl rfl (Nat.le_of_ble_eq_true rfl) d (fun H1 locs1 hP1 hD1 hS1 => ?_)
  rw [lay_pK (G := G) (S := S) (j := j) (x := .inr (4, ([rf G 160, .int (S.1 159 1), .int (S.1 159 2), .ref (adK G S.2.2.1.1), rf G 162] : List Value).set 3 (.ref (adK G j)))) rfl] at hP1 hD1
  exact kk _ rfl r hr H1 locs1 ls hP1 hD1 hS1 hl
theorem vs_getsM (X : Cx G p s m args meth c own Ts cc nL rt) (hlink : Cond.fieldLink own index "ScarecrowRegistry$1" "$SwitchMap$ScarecrowRegistry$Kind" "[I" ∈ Ts) (d : decode cc pc = .ok (.getstatic index, 3)) (kk : VS G p l e R s m args below meth c nL Qf sp k n S (pc + 3) lv (.ref (tad G 1) :: st)) : VS G p l e R s m args below meth c nL Qf sp k n S pc lv st := fun r hr H locs ls hP hD hS hl => va_gets X.1 X.2.1 (KO_of X).2.2.2.2.2.1.1 hS X.2.2.2.1 (X.2.2.2.2.1 _ hlink) (fun _ h => h) d (kk r hr H locs ls hP hD hS hl)
theorem vs_ialdM {i : Int32} (X : Cx G p s m args meth c own Ts cc nL rt) (d : decode cc pc = .ok (.iaload, 1)) (kk : VS G p l e R s m args below meth c nL Qf A k n S (pc + 1) lv (.int (nI (ix i + 1)) :: st)) : VS G p l e R s m args below meth c nL Qf (if inb i 9 = true then A else none) k n S pc lv (.int i :: .ref (tad G 1) :: st) := by
  intro r hr H locs ls hP hD hS hl
  by_cases h : inb i 9 = true
  · rw [if_pos h] at hr
    exact va_ti X.1 X.2.1 (KO_of X).2.2.2.2.2.1.2 hS (inb_in.mp h) rfl d (kk r hr H locs ls hP hD hS hl)
  · rw [if_neg h] at hr; cases hr
variable {mc ms : Nat}
theorem vs_bretp {x : Int32} (X : Cx G p s m args meth c own Ts cc nL (some .byte)) (d : decode cc pc = .ok (.ireturn, 1)) (hk : k ≤ mc) (hn : n ≤ ms) : VS G p l e R s m args below meth c nL (fun x => MQ below (QI G (x, S)) args s mc ms (Af G)) (rb x some) k n S pc lv [.int x] := by
  intro r hr H locs ls hP hD hS hl
  unfold rb at hr
  by_cases h0 : x.toInt8.toInt32 = x
  · rw [if_pos h0] at hr
    cases hr
    refine W.widen hk hn ?_
    exact W.zret X.1 X.2.1 X.2.2.2.2.2.1 (by rw [← h0]; exact pk_nb x) (fun t ht hW => ⟨⟨x, S, rfl, ⟨rfl, rfl⟩, by rw [ht]; exact hP, hD⟩, hS.F ht⟩) hS.2.2 d (hlocks := X.2.2.2.2.2.2.1)
  · rw [if_neg h0] at hr; cases hr
theorem vs_cretp {x : Int32} (X : Cx G p s m args meth c own Ts cc nL (some .char)) (d : decode cc pc = .ok (.ireturn, 1)) (hk : k ≤ mc) (hn : n ≤ ms) : VS G p l e R s m args below meth c nL (fun x => MQ below (QI G (x, S)) args s mc ms (Af G)) (rcc x some) k n S pc lv [.int x] := by
  intro r hr H locs ls hP hD hS hl
  unfold rcc at hr
  by_cases h0 : (x.toUInt32 % 65536).toInt32 = x
  · rw [if_pos h0] at hr
    cases hr
    refine W.widen hk hn ?_
    exact W.zret X.1 X.2.1 X.2.2.2.2.2.1 (by rw [← h0]; exact pk_nc x) (fun t ht hW => ⟨⟨x, S, rfl, ⟨rfl, rfl⟩, by rw [ht]; exact hP, hD⟩, hS.F ht⟩) hS.2.2 d (hlocks := X.2.2.2.2.2.2.1)
  · rw [if_neg h0] at hr; cases hr
end TXT
section STRC
variable {ρ : Type} {G : Gt} {p : Program} {l : Launch} {e : Env} {R : Room} {s : State} {m : MethodId} {args : Array Value} {below : List Frame} {meth : Method} {c : Code} {nL : Nat} {Qf : ρ → State → Prop} {k n : Nat} {S : Wo} {pc : Nat} {lv lv' : List (Nat × Value)} {st st' : List Value} {own : String} {Ts : List Cond} {cc : ByteArray} {rt : Option FieldType}
variable {y : MethodName} {bytes : ByteArray} {maxL mc9 ms9 index : Nat} {ret : Option FieldType} {ws : List Cond} {rm' : Room} {As : List Value}
theorem vs_callTp {t : Nat} {spc : Option Int32} {g : Int32 → Option ρ} (X : Cx G p s m args meth c own Ts cc nL rt) (ht : t < 24) (hM : ∀ x, spc = some x → MI l y ws rm' G S (.ref (sad G t) :: As) (x, S) mc9 ms9) (cw : CallW R s args own "java/lang/String" index y bytes maxL ret ws rm' mc9 ms9 As.length) (hst : st = As.reverse ++ .ref (sad G t) :: st') (hsz : (st'.map fun v => v.category).sum ≤ 8) (d : decode cc pc = .ok (.invokevirtual index, 3)) (hf : k + mc9 ≤ R.cells ∧ n + ms9 ≤ R.slots) (kk : ∀ x, spc = some x → VS G p l e R s m args below meth c nL Qf (g x) (k + mc9) (n + ms9) S (pc + 3) lv (.int x :: st')) : VS G p l e R s m args below meth c nL Qf (spc.bind g) k n S pc lv st := by
  intro r hr H locs ls hP hD hS hl
  obtain ⟨q, hq, hf9⟩ := Option.bind_eq_some_iff.mp hr
  subst hst
  refine va_calli (va_runV (As := As) (rest := st') ⟨X.1, X.2.1, X.2.2.1, X.2.2.2.1, X.2.2.2.2.1⟩ (hM q hq) cw ⟨PreM.blind, by obtain ⟨cell, h1, h2, h3, h4⟩ := ((KO_of X).1 t ht).1.kept hS.2.1; exact ⟨cell, h1, h2, h3⟩, fun U hU hW => ⟨rfl, X.2.2.2.2.2.2.2.to hS hU hW, by rw [hU]; exact hP, hD⟩⟩ rfl rfl hl.1 rfl (lv_room hsz) d hf) hS (fun q _ h => h) (fun q h => h) (fun x u t H1 locs1 ht hvm hw hB hz hk hS1 => ?_)
  obtain ⟨rfl, rfl⟩ := hw
  obtain ⟨hP1, hD1⟩ := hB
  rw [ht] at hP1
  exact kk _ hq r hf9 H1 locs1 ls hP1 hD1 hS1 hl
end STRC

/-! ===== the builder of the line ===== -/
def QO (G : Gt) (r : Wo) : Array Value → State → Outcome → State → Prop := QQ G (some 164, r)
def MO (l : Launch) (y : MethodName) (ws : List Cond) (rm : Room) (G : Gt) (S : Wo) (av : List Value) (r : Wo) (mc ms : Nat) : Prop := Met l y ws rm (PreM G S av) (QO G r) mc ms (Af G)
section ELEVEN
variable {ρ : Type} {G : Gt} {p : Program} {l : Launch} {e : Env} {R : Room} {s : State} {m : MethodId} {args : Array Value} {below : List Frame} {meth : Method} {c : Code} {nL : Nat} {Qf : ρ → State → Prop} {sp A B : Option ρ} {f : Wo → Option ρ} {k n index mc9 ms9 maxL : Nat} {S : Wo} {pc : Nat} {lv lv' : List (Nat × Value)} {st st' : List Value} {own C : String} {Ts ws : List Cond} {cc bytes : ByteArray} {rt ret : Option FieldType} {mc ms : Nat} {rm' : Room} {As : List Value} {v : Value}
theorem g_Sb (X : Cx G p s m args meth c own Ts cc nL rt) (hin : ∀ w ∈ u_ws RJ4 TJ4 4, w ∈ Ts) (kf : Nat) (hk : kf < 4) (hlink : Cond.fieldLink own index RJ5 (TJ4 kf).2.1 (TJ4 kf).2.2.1 ∈ Ts) (hv : ([.ref S.2.2.1.2.1, .int (S.1 164 1), .int (S.1 164 2), .int (S.1 164 3)] : List Value)[kf]? = some v) (hsame : (TJ4 kf).1 = RJ5) (d : decode cc pc = .ok (.getfield index, 3)) (kk : VS G p l e R s m args below meth c nL Qf sp k n S (pc + 3) lv (v :: st)) : VS G p l e R s m args below meth c nL Qf sp k n S pc lv (rf G 164 :: st) := vs_get X (i := 164) (ci := 1) (kf := kf) (C := RJ4) (T := TJ4) (N := 4) (ref := RJ5) (by decide) (by decide) rfl rfl hin hk (fun _ h => by rw [hsame] at h; exact h) hv hlink d kk
theorem p_Sb {x : Int32} {ty : FieldType} (X : Cx G p s m args meth c own Ts cc nL rt) (hin : ∀ w ∈ u_ws RJ4 TJ4 4, w ∈ Ts) (kf : Nat) (hk : kf < 4) (hlink : Cond.fieldLink own index RJ5 (TJ4 kf).2.1 (TJ4 kf).2.2.1 ∈ Ts) (hsame : (TJ4 kf).1 = RJ5) (hfin : (TJ4 kf).2.2.2 = false) (hd : parseFieldDescriptor (TJ4 kf).2.2.1 = some ty) (hn : narrow ty (.int x) = .int x) (hfit : fits ty (.int x) = true) (hx : cel G (pI S 164 kf x) 164 = .inr (1, ([.ref S.2.2.1.2.1, .int (S.1 164 1), .int (S.1 164 2), .int (S.1 164 3)] : List Value).set kf (.int x))) (d : decode cc pc = .ok (.putfield index, 3)) (kk : ∀ S1, S1 = pI S 164 kf x → VS G p l e R s m args below meth c nL Qf (f S1) k n S1 (pc + 3) lv st) : VS G p l e R s m args below meth c nL Qf (wr (pI S 164 kf x) f) k n S pc lv (.int x :: rf G 164 :: st) := vs_put X (i := 164) (ci := 1) (kf := kf) (C := RJ4) (T := TJ4) (N := 4) (ref := RJ5) tyJ4 tyJ4_ok nmJ4 (by decide) (by decide) rfl rfl hin hk (fun _ h => by rw [hsame] at h; exact h) hfin hd hn hfit hk hx hlink d kk
theorem vs_bald {b : Nat} {i : Int32} (X : Cx G p s m args meth c own Ts cc nL rt) (d : decode cc pc = .ok (.baload, 1)) (kk : VS G p l e R s m args below meth c nL Qf A k n S (pc + 1) lv (.int (S.2.1 165 (ix i)) :: st)) : VS G p l e R s m args below meth c nL Qf (if b = S.2.2.1.2.1 then (if inb i S.2.2.1.2.2 = true then A else none) else none) k n S pc lv (.int i :: .ref b :: st) := by
  intro r hr H locs ls hP hD hS hl
  by_cases hb : b = S.2.2.1.2.1
  · rw [if_pos hb] at hr
    subst hb
    by_cases h : inb i S.2.2.1.2.2 = true
    · rw [if_pos h] at hr
      exact va_bald X.1 X.2.1 X.2.2.2.2.2.2.2.1 hP 165 2 lay_lb rfl (inb_in.mp h) d (kk r hr H locs ls hP hD hS hl)
    · rw [if_neg h] at hr; cases hr
  · rw [if_neg hb] at hr; cases hr
theorem vs_bast {b : Nat} {i x : Int32} (X : Cx G p s m args meth c own Ts cc nL rt) (d : decode cc pc = .ok (.bastore, 1)) (kk : ∀ S1, S1 = pF S 165 (upd (S.2.1 165) (ix i) (vp_nar .byte x)) → VS G p l e R s m args below meth c nL Qf (f S1) k n S1 (pc + 1) lv st) : VS G p l e R s m args below meth c nL Qf (if b = S.2.2.1.2.1 then (if inb i S.2.2.1.2.2 = true then wr (pF S 165 (upd (S.2.1 165) (ix i) (vp_nar .byte x))) f else none) else none) k n S pc lv (.int x :: .int i :: .ref b :: st) := by
  intro r hr H locs ls hP hD hS hl
  by_cases hb : b = S.2.2.1.2.1
  · rw [if_pos hb] at hr
    subst hb
    by_cases h : inb i S.2.2.1.2.2 = true
    · rw [if_pos h] at hr
      refine va_bast X.1 X.2.1 X.2.2.2.2.2.2.2.1 hP hD hS 165 2 lay_lb rfl (inb_in.mp h) d (fun H1 locs1 hP1 hD1 hS1 => ?_)
      have e9 := lay_pF5 (G := G) (S := S) (f := upd (S.2.1 165) (ix i) (vp_nar .byte x))
      have e8 : celArr G (pF S 165 (upd (S.2.1 165) (ix i) (vp_nar .byte x))) 2 S.2.2.1.2.2 165 = .inl (G.2.1 2, S.2.2.1.2.2, .inl (upd (S.2.1 165) i.toNatClampNeg (vp_nar .byte x))) := by simp [celArr, pF]
      rw [e8] at e9
      refine kk _ rfl r hr H1 locs1 ls ?_ ?_ hS1 hl
      · rw [← e9]; exact hP1
      · rw [← e9]; exact hD1
    · rw [if_neg h] at hr; cases hr
  · rw [if_neg hb] at hr; cases hr
theorem vs_blen {b : Nat} (X : Cx G p s m args meth c own Ts cc nL rt) (d : decode cc pc = .ok (.arraylength, 1)) (kk : VS G p l e R s m args below meth c nL Qf A k n S (pc + 1) lv (.int (Int32.ofNat S.2.2.1.2.2) :: st)) : VS G p l e R s m args below meth c nL Qf (if b = S.2.2.1.2.1 then A else none) k n S pc lv (.ref b :: st) := by
  intro r hr H locs ls hP hD hS hl
  by_cases hb : b = S.2.2.1.2.1
  · rw [if_pos hb] at hr
    subst hb
    exact va_alen X.1 X.2.1 X.2.2.2.2.2.2.2.1 hP 165 2 lay_lb rfl (v := Int32.ofNat S.2.2.1.2.2) rfl d (kk r hr H locs ls hP hD hS hl)
  · rw [if_neg hb] at hr; cases hr
theorem vs_baldT1 {i : Int32} (X : Cx G p s m args meth c own Ts cc nL rt) (d : decode cc pc = .ok (.baload, 1)) (kk : VS G p l e R s m args below meth c nL Qf A k n S (pc + 1) lv (.int (nI (48 + ix i % 10)) :: st)) : VS G p l e R s m args below meth c nL Qf (if inb i 100 = true then A else none) k n S pc lv (.int i :: .ref (tad G 2) :: st) := by
  intro r hr H locs ls hP hD hS hl
  by_cases h : inb i 100 = true
  · rw [if_pos h] at hr
    exact va_tb X.1 X.2.1 (KO_of X).2.2.2.2.2.2.1.2 hS (inb_in.mp h) rfl d (kk r hr H locs ls hP hD hS hl)
  · rw [if_neg h] at hr; cases hr
theorem vs_getsT1 (X : Cx G p s m args meth c own Ts cc nL rt) (hlink : Cond.fieldLink own index "java/lang/Integer" "DigitOnes" "[B" ∈ Ts) (d : decode cc pc = .ok (.getstatic index, 3)) (kk : VS G p l e R s m args below meth c nL Qf sp k n S (pc + 3) lv (.ref (tad G 2) :: st)) : VS G p l e R s m args below meth c nL Qf sp k n S pc lv st := fun r hr H locs ls hP hD hS hl => va_gets X.1 X.2.1 (KO_of X).2.2.2.2.2.2.1.1 hS X.2.2.2.1 (X.2.2.2.2.1 _ hlink) (fun _ h => h) d (kk r hr H locs ls hP hD hS hl)
theorem vs_baldT2 {i : Int32} (X : Cx G p s m args meth c own Ts cc nL rt) (d : decode cc pc = .ok (.baload, 1)) (kk : VS G p l e R s m args below meth c nL Qf A k n S (pc + 1) lv (.int (nI (48 + ix i / 10)) :: st)) : VS G p l e R s m args below meth c nL Qf (if inb i 100 = true then A else none) k n S pc lv (.int i :: .ref (tad G 3) :: st) := by
  intro r hr H locs ls hP hD hS hl
  by_cases h : inb i 100 = true
  · rw [if_pos h] at hr
    exact va_tb X.1 X.2.1 (KO_of X).2.2.2.2.2.2.2.1.2 hS (inb_in.mp h) rfl d (kk r hr H locs ls hP hD hS hl)
  · rw [if_neg h] at hr; cases hr
theorem vs_getsT2 (X : Cx G p s m args meth c own Ts cc nL rt) (hlink : Cond.fieldLink own index "java/lang/Integer" "DigitTens" "[B" ∈ Ts) (d : decode cc pc = .ok (.getstatic index, 3)) (kk : VS G p l e R s m args below meth c nL Qf sp k n S (pc + 3) lv (.ref (tad G 3) :: st)) : VS G p l e R s m args below meth c nL Qf sp k n S pc lv st := fun r hr H locs ls hP hD hS hl => va_gets X.1 X.2.1 (KO_of X).2.2.2.2.2.2.2.1.1 hS X.2.2.2.1 (X.2.2.2.2.1 _ hlink) (fun _ h => h) d (kk r hr H locs ls hP hD hS hl)
theorem vs_ldc {i : Int32} (X : Cx G p s m args meth c own Ts cc nL rt) (hc : Cond.constant own index i ∈ Ts) (d : decode cc pc = .ok (.ldc index, 2)) (kk : VS G p l e R s m args below meth c nL Qf sp k n S (pc + 2) lv (.int i :: st)) : VS G p l e R s m args below meth c nL Qf sp k n S pc lv st := fun r hr H locs ls hP hD hS hl => lv_ldc X.1 X.2.1 X.2.2.2.1 (X.2.2.2.2.1 _ hc) d (kk r hr H locs ls hP hD hS hl)
theorem vs_callVo_Sb {y : MethodName} {spc : Option (Wo)} {g : Wo → Option ρ} (X : Cx G p s m args meth c own Ts cc nL rt) (hM : ∀ r, spc = some r → MO l y ws rm' G S (rf G 164 :: As) r mc9 ms9) (cw : CallW R s args own RJ4 index y bytes maxL ret ws rm' mc9 ms9 As.length) (hst : st = As.reverse ++ rf G 164 :: st') (hsz : (st'.map fun v => v.category).sum ≤ 8) (d : decode cc pc = .ok (.invokevirtual index, 3)) (hf : k + mc9 ≤ R.cells ∧ n + ms9 ≤ R.slots) (kk : ∀ (S1 : Wo), spc = some S1 → VS G p l e R s m args below meth c nL Qf (g S1) (k + mc9) (n + ms9) S1 (pc + 3) lv (rf G 164 :: st')) : VS G p l e R s m args below meth c nL Qf (spc.bind g) k n S pc lv st := by
  intro r hr H locs ls hP hD hS hl
  obtain ⟨q, hq, hf9⟩ := Option.bind_eq_some_iff.mp hr
  subst hst
  refine va_callq (va_runV (C := RJ4) (As := As) (rest := st') ⟨X.1, X.2.1, X.2.2.1, X.2.2.2.1, X.2.2.2.2.1⟩ (hM q hq) cw ⟨PreM.blind, va_recv X.2.2.2.2.2.2.2.1 hP (ci := 1) rfl (lay_ne (i := 164) (by decide) (by decide) rfl), fun U hU hW => ⟨rfl, X.2.2.2.2.2.2.2.to hS hU hW, by rw [hU]; exact hP, hD⟩⟩ rfl rfl hl.1 rfl (lv_room hsz) d hf) hS (fun q _ h => h) (fun q h => h) (fun x u t H1 locs1 ht hvm hw hB hz hk hS1 => ?_)
  obtain ⟨rfl, rfl⟩ := hw
  obtain ⟨hP1, hD1⟩ := hB
  rw [ht] at hP1
  exact kk _ hq r hf9 H1 locs1 ls hP1 hD1 hS1 hl
theorem vs_callUi_Sb {y x9 : MethodName} {owner : String} {spc : Option (Int32 × Wo)} {g : Int32 → Wo → Option ρ} (X : Cx G p s m args meth c own Ts cc nL rt) (hM : ∀ r, spc = some r → MI l y ws rm' G S (rf G 164 :: As) r mc9 ms9) (cw : va_CU R s args own RJ4 owner index x9 y bytes maxL ret ws rm' mc9 ms9 As.length) (hst : st = As.reverse ++ rf G 164 :: st') (hsz : (st'.map fun v => v.category).sum ≤ 8) (d : decode cc pc = .ok (.invokevirtual index, 3)) (hf : k + mc9 ≤ R.cells ∧ n + ms9 ≤ R.slots) (kk : ∀ (x : Int32) (S1 : Wo), spc = some (x, S1) → VS G p l e R s m args below meth c nL Qf (g x S1) (k + mc9) (n + ms9) S1 (pc + 3) lv (.int x :: st')) : VS G p l e R s m args below meth c nL Qf (bd2 spc g) k n S pc lv st := by
  intro r hr H locs ls hP hD hS hl
  obtain ⟨q, hq, hf9⟩ := Option.bind_eq_some_iff.mp hr
  subst hst
  refine va_calli (va_runU (C := RJ4) (As := As) (rest := st') ⟨X.1, X.2.1, X.2.2.1, X.2.2.2.1, X.2.2.2.2.1⟩ (hM q hq) cw ⟨PreM.blind, va_recv X.2.2.2.2.2.2.2.1 hP (ci := 1) rfl (lay_ne (i := 164) (by decide) (by decide) rfl), fun U hU hW => ⟨rfl, X.2.2.2.2.2.2.2.to hS hU hW, by rw [hU]; exact hP, hD⟩⟩ rfl rfl hl.1 rfl (lv_room hsz) d hf) hS (fun q _ h => h) (fun q h => h) (fun x u t H1 locs1 ht hvm hw hB hz hk hS1 => ?_)
  obtain ⟨rfl, rfl⟩ := hw
  obtain ⟨hP1, hD1⟩ := hB
  rw [ht] at hP1
  exact kk _ _ hq r hf9 H1 locs1 ls hP1 hD1 hS1 hl
theorem vs_callUv_Sb {y x9 : MethodName} {owner : String} {spc : Option (Wo)} {g : Wo → Option ρ} (X : Cx G p s m args meth c own Ts cc nL rt) (hM : ∀ r, spc = some r → MV l y ws rm' G S (rf G 164 :: As) r mc9 ms9) (cw : va_CU R s args own RJ4 owner index x9 y bytes maxL ret ws rm' mc9 ms9 As.length) (hst : st = As.reverse ++ rf G 164 :: st') (hsz : (st'.map fun v => v.category).sum ≤ 8) (d : decode cc pc = .ok (.invokevirtual index, 3)) (hf : k + mc9 ≤ R.cells ∧ n + ms9 ≤ R.slots) (kk : ∀ (S1 : Wo), spc = some S1 → VS G p l e R s m args below meth c nL Qf (g S1) (k + mc9) (n + ms9) S1 (pc + 3) lv st') : VS G p l e R s m args below meth c nL Qf (spc.bind g) k n S pc lv st := by
  intro r hr H locs ls hP hD hS hl
  obtain ⟨q, hq, hf9⟩ := Option.bind_eq_some_iff.mp hr
  subst hst
  refine va_callv (va_runU (C := RJ4) (As := As) (rest := st') ⟨X.1, X.2.1, X.2.2.1, X.2.2.2.1, X.2.2.2.2.1⟩ (hM q hq) cw ⟨PreM.blind, va_recv X.2.2.2.2.2.2.2.1 hP (ci := 1) rfl (lay_ne (i := 164) (by decide) (by decide) rfl), fun U hU hW => ⟨rfl, X.2.2.2.2.2.2.2.to hS hU hW, by rw [hU]; exact hP, hD⟩⟩ rfl rfl hl.1 rfl (lv_room hsz) d hf) hS (fun q _ h => h) (fun q h => h) (fun u t H1 locs1 ht hvm hw hB hz hk hS1 => ?_)
  obtain rfl := hw
  obtain ⟨hP1, hD1⟩ := hB
  rw [ht] at hP1
  exact kk _ hq r hf9 H1 locs1 ls hP1 hD1 hS1 hl
theorem vs_callUo_Sb {y x9 : MethodName} {owner : String} {spc : Option (Wo)} {g : Wo → Option ρ} (X : Cx G p s m args meth c own Ts cc nL rt) (hM : ∀ r, spc = some r → MO l y ws rm' G S (rf G 164 :: As) r mc9 ms9) (cw : va_CU R s args own RJ4 owner index x9 y bytes maxL ret ws rm' mc9 ms9 As.length) (hst : st = As.reverse ++ rf G 164 :: st') (hsz : (st'.map fun v => v.category).sum ≤ 8) (d : decode cc pc = .ok (.invokevirtual index, 3)) (hf : k + mc9 ≤ R.cells ∧ n + ms9 ≤ R.slots) (kk : ∀ (S1 : Wo), spc = some S1 → VS G p l e R s m args below meth c nL Qf (g S1) (k + mc9) (n + ms9) S1 (pc + 3) lv (rf G 164 :: st')) : VS G p l e R s m args below meth c nL Qf (spc.bind g) k n S pc lv st := by
  intro r hr H locs ls hP hD hS hl
  obtain ⟨q, hq, hf9⟩ := Option.bind_eq_some_iff.mp hr
  subst hst
  refine va_callq (va_runU (C := RJ4) (As := As) (rest := st') ⟨X.1, X.2.1, X.2.2.1, X.2.2.2.1, X.2.2.2.2.1⟩ (hM q hq) cw ⟨PreM.blind, va_recv X.2.2.2.2.2.2.2.1 hP (ci := 1) rfl (lay_ne (i := 164) (by decide) (by decide) rfl), fun U hU hW => ⟨rfl, X.2.2.2.2.2.2.2.to hS hU hW, by rw [hU]; exact hP, hD⟩⟩ rfl rfl hl.1 rfl (lv_room hsz) d hf) hS (fun q _ h => h) (fun q h => h) (fun x u t H1 locs1 ht hvm hw hB hz hk hS1 => ?_)
  obtain ⟨rfl, rfl⟩ := hw
  obtain ⟨hP1, hD1⟩ := hB
  rw [ht] at hP1
  exact kk _ hq r hf9 H1 locs1 ls hP1 hD1 hS1 hl
theorem vs_callSUi_Sb {y : MethodName} {spc : Option (Int32 × Wo)} {g : Int32 → Wo → Option ρ} (X : Cx G p s m args meth c own Ts cc nL rt) (hM : ∀ r, spc = some r → MI l y ws rm' G S (rf G 164 :: As) r mc9 ms9) (cw : va_CS R s args own index y bytes maxL ret ws rm' mc9 ms9 As.length) (hst : st = As.reverse ++ rf G 164 :: st') (hsz : (st'.map fun v => v.category).sum ≤ 8) (d : decode cc pc = .ok (.invokespecial index, 3)) (hf : k + mc9 ≤ R.cells ∧ n + ms9 ≤ R.slots) (kk : ∀ (x : Int32) (S1 : Wo), spc = some (x, S1) → VS G p l e R s m args below meth c nL Qf (g x S1) (k + mc9) (n + ms9) S1 (pc + 3) lv (.int x :: st')) : VS G p l e R s m args below meth c nL Qf (bd2 spc g) k n S pc lv st := by
  intro r hr H locs ls hP hD hS hl
  obtain ⟨q, hq, hf9⟩ := Option.bind_eq_some_iff.mp hr
  subst hst
  refine va_calli (va_runSU (C := RJ4) (As := As) (rest := st') (X.2.2.2.2.2.2.2.1.1 1 _ rfl).2 ⟨X.1, X.2.1, X.2.2.1, X.2.2.2.1, X.2.2.2.2.1⟩ (hM q hq) cw ⟨PreM.blind, va_recv X.2.2.2.2.2.2.2.1 hP (ci := 1) rfl (lay_ne (i := 164) (by decide) (by decide) rfl), fun U hU hW => ⟨rfl, X.2.2.2.2.2.2.2.to hS hU hW, by rw [hU]; exact hP, hD⟩⟩ rfl rfl hl.1 rfl (lv_room hsz) d hf) hS (fun q _ h => h) (fun q h => h) (fun x u t H1 locs1 ht hvm hw hB hz hk hS1 => ?_)
  obtain ⟨rfl, rfl⟩ := hw
  obtain ⟨hP1, hD1⟩ := hB
  rw [ht] at hP1
  exact kk _ _ hq r hf9 H1 locs1 ls hP1 hD1 hS1 hl
theorem vs_callSUv_Sb {y : MethodName} {spc : Option (Wo)} {g : Wo → Option ρ} (X : Cx G p s m args meth c own Ts cc nL rt) (hM : ∀ r, spc = some r → MV l y ws rm' G S (rf G 164 :: As) r mc9 ms9) (cw : va_CS R s args own index y bytes maxL ret ws rm' mc9 ms9 As.length) (hst : st = As.reverse ++ rf G 164 :: st') (hsz : (st'.map fun v => v.category).sum ≤ 8) (d : decode cc pc = .ok (.invokespecial index, 3)) (hf : k + mc9 ≤ R.cells ∧ n + ms9 ≤ R.slots) (kk : ∀ (S1 : Wo), spc = some S1 → VS G p l e R s m args below meth c nL Qf (g S1) (k + mc9) (n + ms9) S1 (pc + 3) lv st') : VS G p l e R s m args below meth c nL Qf (spc.bind g) k n S pc lv st := by
  intro r hr H locs ls hP hD hS hl
  obtain ⟨q, hq, hf9⟩ := Option.bind_eq_some_iff.mp hr
  subst hst
  refine va_callv (va_runSU (C := RJ4) (As := As) (rest := st') (X.2.2.2.2.2.2.2.1.1 1 _ rfl).2 ⟨X.1, X.2.1, X.2.2.1, X.2.2.2.1, X.2.2.2.2.1⟩ (hM q hq) cw ⟨PreM.blind, va_recv X.2.2.2.2.2.2.2.1 hP (ci := 1) rfl (lay_ne (i := 164) (by decide) (by decide) rfl), fun U hU hW => ⟨rfl, X.2.2.2.2.2.2.2.to hS hU hW, by rw [hU]; exact hP, hD⟩⟩ rfl rfl hl.1 rfl (lv_room hsz) d hf) hS (fun q _ h => h) (fun q h => h) (fun u t H1 locs1 ht hvm hw hB hz hk hS1 => ?_)
  obtain rfl := hw
  obtain ⟨hP1, hD1⟩ := hB
  rw [ht] at hP1
  exact kk _ hq r hf9 H1 locs1 ls hP1 hD1 hS1 hl
theorem vs_callSUo_Sb {y : MethodName} {spc : Option (Wo)} {g : Wo → Option ρ} (X : Cx G p s m args meth c own Ts cc nL rt) (hM : ∀ r, spc = some r → MO l y ws rm' G S (rf G 164 :: As) r mc9 ms9) (cw : va_CS R s args own index y bytes maxL ret ws rm' mc9 ms9 As.length) (hst : st = As.reverse ++ rf G 164 :: st') (hsz : (st'.map fun v => v.category).sum ≤ 8) (d : decode cc pc = .ok (.invokespecial index, 3)) (hf : k + mc9 ≤ R.cells ∧ n + ms9 ≤ R.slots) (kk : ∀ (S1 : Wo), spc = some S1 → VS G p l e R s m args below meth c nL Qf (g S1) (k + mc9) (n + ms9) S1 (pc + 3) lv (rf G 164 :: st')) : VS G p l e R s m args below meth c nL Qf (spc.bind g) k n S pc lv st := by
  intro r hr H locs ls hP hD hS hl
  obtain ⟨q, hq, hf9⟩ := Option.bind_eq_some_iff.mp hr
  subst hst
  refine va_callq (va_runSU (C := RJ4) (As := As) (rest := st') (X.2.2.2.2.2.2.2.1.1 1 _ rfl).2 ⟨X.1, X.2.1, X.2.2.1, X.2.2.2.1, X.2.2.2.2.1⟩ (hM q hq) cw ⟨PreM.blind, va_recv X.2.2.2.2.2.2.2.1 hP (ci := 1) rfl (lay_ne (i := 164) (by decide) (by decide) rfl), fun U hU hW => ⟨rfl, X.2.2.2.2.2.2.2.to hS hU hW, by rw [hU]; exact hP, hD⟩⟩ rfl rfl hl.1 rfl (lv_room hsz) d hf) hS (fun q _ h => h) (fun q h => h) (fun x u t H1 locs1 ht hvm hw hB hz hk hS1 => ?_)
  obtain ⟨rfl, rfl⟩ := hw
  obtain ⟨hP1, hD1⟩ := hB
  rw [ht] at hP1
  exact kk _ hq r hf9 H1 locs1 ls hP1 hD1 hS1 hl
theorem vs_callUp_Sb {y x9 : MethodName} {owner : String} {spc : Option Int32} {g : Int32 → Option ρ} (X : Cx G p s m args meth c own Ts cc nL rt) (hM : ∀ x, spc = some x → MI l y ws rm' G S (rf G 164 :: As) (x, S) mc9 ms9) (cw : va_CU R s args own RJ4 owner index x9 y bytes maxL ret ws rm' mc9 ms9 As.length) (hst : st = As.reverse ++ rf G 164 :: st') (hsz : (st'.map fun v => v.category).sum ≤ 8) (d : decode cc pc = .ok (.invokevirtual index, 3)) (hf : k + mc9 ≤ R.cells ∧ n + ms9 ≤ R.slots) (kk : ∀ x, spc = some x → VS G p l e R s m args below meth c nL Qf (g x) (k + mc9) (n + ms9) S (pc + 3) lv (.int x :: st')) : VS G p l e R s m args below meth c nL Qf (spc.bind g) k n S pc lv st := by
  intro r hr
  obtain ⟨q, hq, hf9⟩ := Option.bind_eq_some_iff.mp hr
  refine vs_callUi_Sb (spc := some (q, S)) (g := fun z _ => g z) X (fun z hz => by cases hz; exact hM q hq) cw hst hsz d hf (fun x S1 h => ?_) r hf9
  cases h
  exact kk q hq
theorem vs_callSUp_Sb {y : MethodName} {spc : Option Int32} {g : Int32 → Option ρ} (X : Cx G p s m args meth c own Ts cc nL rt) (hM : ∀ x, spc = some x → MI l y ws rm' G S (rf G 164 :: As) (x, S) mc9 ms9) (cw : va_CS R s args own index y bytes maxL ret ws rm' mc9 ms9 As.length) (hst : st = As.reverse ++ rf G 164 :: st') (hsz : (st'.map fun v => v.category).sum ≤ 8) (d : decode cc pc = .ok (.invokespecial index, 3)) (hf : k + mc9 ≤ R.cells ∧ n + ms9 ≤ R.slots) (kk : ∀ x, spc = some x → VS G p l e R s m args below meth c nL Qf (g x) (k + mc9) (n + ms9) S (pc + 3) lv (.int x :: st')) : VS G p l e R s m args below meth c nL Qf (spc.bind g) k n S pc lv st := by
  intro r hr
  obtain ⟨q, hq, hf9⟩ := Option.bind_eq_some_iff.mp hr
  refine vs_callSUi_Sb (spc := some (q, S)) (g := fun z _ => g z) X (fun z hz => by cases hz; exact hM q hq) cw hst hsz d hf (fun x S1 h => ?_) r hf9
  cases h
  exact kk q hq
theorem vs_areto {cn : String} (X : Cx G p s m args meth c own Ts cc nL (some (.object cn))) (d : decode cc pc = .ok (.areturn, 1)) (hk : k ≤ mc) (hn : n ≤ ms) : VS G p l e R s m args below meth c nL (fun r => MQ below (QO G r) args s mc ms (Af G)) (some S) k n S pc lv [rf G 164] := by
  intro r hr
  cases hr
  exact vs_aret X d hk hn (some 164, S) rfl
theorem MOF_of {y : MethodName} {ws ws' : List Cond} {rm : Room} {av : List Value} {mc ms maxL : Nat} {ret : Option FieldType} {sp : Option (Wo)} (hy : plainFor y = true) (hown : y.cls = own) (hw : ws = Cond.code y cc maxL ret :: ws') (hlen : (lg_sl av).length ≤ maxL) (body : ∀ (p : Program) (e : Env) (s : State) (m : MethodId) (args : Array Value) (below : List Frame) (meth : Method) (c : Code), Cx G p s m args meth c own ws cc maxL ret → VS G p l e rm s m args below meth c maxL (fun r => MQ below (QO G r) args s mc ms (Af G)) sp 0 0 S 0 (lv_args 0 av) []) : ∀ r, sp = some r → MO l y ws rm G S av r mc ms := by
  intro r hr
  refine va_MetF (cc := cc) (maxL := maxL) (ret := ret) hy hw ?_
  intro p e s m args below meth c s₁ B hml hv
  obtain ⟨rfl, hK, hP, hD⟩ := hv
  have hl := lv_entry av hlen
  rw [lg_entry_eq]
  exact body p e s m _ below meth c ⟨B.exec, B.bytes, hml, by rw [← hown]; exact findClass_of_methodNamed B.named, atoms_spec (ws := ws) B.pre, B.returns, B.notSynchronized, hK⟩ r hr s.heap [] _ hP hD va_S.rf hl
end ELEVEN

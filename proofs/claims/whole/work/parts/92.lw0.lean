/-! ===== rows for the law's body: the conditions are known ===== -/
section LAWR
variable {ρ : Type} {G : Gt} {p : Program} {l : Launch} {e : Env} {R : Room} {s : State} {m : MethodId} {args : Array Value} {below : List Frame} {meth : Method} {c : Code} {nL : Nat} {Qf : ρ → State → Prop} {sp : Option ρ} {k n index mc ms bi ci N maxL : Nat} {S T0 : Wo} {pc : Nat} {lv lv' : List (Nat × Value)} {st st' : List Value} {own C : String} {T : u_T} {fs : List Value} {Ts ws : List Cond} {cc bytes : ByteArray} {rt ret : Option FieldType} {rm' : Room} {As : List Value} {y : MethodName}
theorem vu_sld {b L : Nat} {xs : Nat → Int32} {i : Int32} (X : Cx G p s m args meth c own Ts cc nL rt) (hX : va_X b L xs s s.heap) (hb : b < s.heap.size) (hA : ¬ Af G b) (hin : vp_in i L) (d : decode cc pc = .ok (.iaload, 1)) (kk : VS G p l e R s m args below meth c nL Qf sp k n S (pc + 1) lv (.int (xs i.toNatClampNeg) :: st)) : VS G p l e R s m args below meth c nL Qf sp k n S pc lv (.int i :: .ref b :: st) := fun r hr H locs ls hP hD hS hl => va_sld X.1 X.2.1 hX hb hA hS hin d (kk r hr H locs ls hP hD hS hl)
theorem vu_slen {b L : Nat} {xs : Nat → Int32} (X : Cx G p s m args meth c own Ts cc nL rt) (hX : va_X b L xs s s.heap) (hb : b < s.heap.size) (hA : ¬ Af G b) (d : decode cc pc = .ok (.arraylength, 1)) (kk : VS G p l e R s m args below meth c nL Qf sp k n S (pc + 1) lv (.int (Int32.ofNat L) :: st)) : VS G p l e R s m args below meth c nL Qf sp k n S pc lv (.ref b :: st) := fun r hr H locs ls hP hD hS hl => va_slen X.1 X.2.1 hX hb hA hS d (kk r hr H locs ls hP hD hS hl)
theorem vu_lald (X : Cx G p s m args meth c own Ts cc nL rt) (d : decode cc pc = .ok (.laload, 1)) (kk : VS G p l e R s m args below meth c nL Qf sp k n S (pc + 1) lv (.long S.2.2.2.1 :: st)) : VS G p l e R s m args below meth c nL Qf sp k n S pc lv (.int 0 :: rf G 175 :: st) := fun r hr H locs ls hP hD hS hl => va_lald X.1 X.2.1 X.2.2.2.2.2.2.2.1 hP 175 4 (lay_ne (by decide) (by decide) rfl) rfl (inb_in.mp (by decide)) d (kk r hr H locs ls hP hD hS hl)
theorem vu_dald (X : Cx G p s m args meth c own Ts cc nL rt) (d : decode cc pc = .ok (.daload, 1)) (kk : VS G p l e R s m args below meth c nL Qf sp k n S (pc + 1) lv (.double S.2.2.2.2 :: st)) : VS G p l e R s m args below meth c nL Qf sp k n S pc lv (.int 0 :: rf G 176 :: st) := fun r hr H locs ls hP hD hS hl => va_dald X.1 X.2.1 X.2.2.2.2.2.2.2.1 hP 176 5 (lay_ne (by decide) (by decide) rfl) rfl (inb_in.mp (by decide)) d (kk r hr H locs ls hP hD hS hl)
theorem lgc_0 (x : Int64) : lg_cmp x x = 0 := by
  unfold lg_cmp
  rw [if_neg (by rw [gt_iff_lt, Int64.lt_iff_toInt_lt]; omega), if_pos rfl]
theorem vu_lcmp0 {x z : Int64} (X : Cx G p s m args meth c own Ts cc nL rt) (h : x = z) (d : decode cc pc = .ok (.lcmp, 1)) (kk : VS G p l e R s m args below meth c nL Qf sp k n S (pc + 1) lv (.int 0 :: st)) : VS G p l e R s m args below meth c nL Qf sp k n S pc lv (.long z :: .long x :: st) := fun r hr H locs ls hP hD hS hl => W.lcmp X.1 X.2.1 d (by rw [h, lgc_0]; exact kk r hr H locs ls hP hD hS hl)
theorem vu_dcmp {x z : UInt64} {op : CmpOp} (X : Cx G p s m args meth c own Ts cc nL rt) (d : decode cc pc = .ok (.dcmp op, 1)) (kk : VS G p l e R s m args below meth c nL Qf sp k n S (pc + 1) lv (.int (Op.cmpValue (FP.dcmp x z) op) :: st)) : VS G p l e R s m args below meth c nL Qf sp k n S pc lv (.double z :: .double x :: st) := fun r hr H locs ls hP hD hS hl => lv_dcmp X.1 X.2.1 d (kk r hr H locs ls hP hD hS hl)
theorem vu_dload {i : Nat} {x : UInt64} (X : Cx G p s m args meth c own Ts cc nL rt) (d : decode cc pc = .ok (.dload i, 2)) (j : Nat) (h : lv[j]? = some (i, .double x)) (kk : VS G p l e R s m args below meth c nL Qf sp k n S (pc + 2) lv (.double x :: st)) : VS G p l e R s m args below meth c nL Qf sp k n S pc lv st := fun r hr H locs ls hP hD hS hl => lv_dload X.1 X.2.1 d (lv_at hl j h) (kk r hr H locs ls hP hD hS hl)
theorem vu_fload {i : Nat} {x : UInt32} (X : Cx G p s m args meth c own Ts cc nL rt) (d : decode cc pc = .ok (.fload i, 2)) (j : Nat) (h : lv[j]? = some (i, .float x)) (kk : VS G p l e R s m args below meth c nL Qf sp k n S (pc + 2) lv (.float x :: st)) : VS G p l e R s m args below meth c nL Qf sp k n S pc lv st := fun r hr H locs ls hP hD hS hl => lv_fload X.1 X.2.1 d (lv_at hl j h) (kk r hr H locs ls hP hD hS hl)
theorem vu_dstore {i : Nat} {x : UInt64} (X : Cx G p s m args meth c own Ts cc nL rt) (d : decode cc pc = .ok (.dstore i, 2)) (hn : i + 1 < nL) (h : (i, Value.double x) :: lv.filter (fun q => !(q.1 == i) && (!(q.1 == i + 1) && !(q.1 + 1 == i && q.2.category == 2))) = lv') (kk : VS G p l e R s m args below meth c nL Qf sp k n S (pc + 2) lv' st) : VS G p l e R s m args below meth c nL Qf sp k n S pc lv (.double x :: st) := fun r hr H locs ls hP hD hS hl => lv_dstore X.1 X.2.1 d hl hn h (fun ls' hl' => kk r hr H locs ls' hP hD hS hl')
theorem vu_fstore {i : Nat} {x : UInt32} (X : Cx G p s m args meth c own Ts cc nL rt) (d : decode cc pc = .ok (.fstore i, 2)) (hn : i < nL) (h : (i, Value.float x) :: lv.filter (fun q => !(q.1 == i) && !(q.1 + 1 == i && q.2.category == 2)) = lv') (kk : VS G p l e R s m args below meth c nL Qf sp k n S (pc + 2) lv' st) : VS G p l e R s m args below meth c nL Qf sp k n S pc lv (.float x :: st) := fun r hr H locs ls hP hD hS hl => lv_fstore X.1 X.2.1 d hl hn h (fun ls' hl' => kk r hr H locs ls' hP hD hS hl')
theorem vu_f2d {x : UInt32} (X : Cx G p s m args meth c own Ts cc nL rt) (hne : vf_n64 (FP.f2d x)) (d : decode cc pc = .ok (.f2d, 1)) (kk : VS G p l e R s m args below meth c nL Qf sp k n S (pc + 1) lv (.double (FP.f2d x) :: st)) : VS G p l e R s m args below meth c nL Qf sp k n S pc lv (.float x :: st) := fun r hr H locs ls hP hD hS hl => lv_f2d X.1 X.2.1 d hne (kk r hr H locs ls hP hD hS hl)
theorem vu_ieq {x z : Int32} {off : Int} {tgt : Nat} (X : Cx G p s m args meth c own Ts cc nL rt) (d : decode cc pc = .ok (.if_icmp .eq off, 3)) (ht : (pc : Int) + off = (tgt : Int)) (h : x = z) (kk : VS G p l e R s m args below meth c nL Qf sp k n S tgt lv st) : VS G p l e R s m args below meth c nL Qf sp k n S pc lv (.int z :: .int x :: st) := vs_eq (sp' := if x = z then sp else sp) (by split <;> rfl) (vs_icmp_eq X d ht (fun _ => kk) (fun q => absurd h q))
theorem vu_igt {x z : Int32} {off : Int} {tgt : Nat} (X : Cx G p s m args meth c own Ts cc nL rt) (d : decode cc pc = .ok (.if_icmp .gt off, 3)) (ht : (pc : Int) + off = (tgt : Int)) (k1 : z < x → VS G p l e R s m args below meth c nL Qf sp k n S tgt lv st) (k2 : ¬ z < x → VS G p l e R s m args below meth c nL Qf sp k n S (pc + 3) lv st) : VS G p l e R s m args below meth c nL Qf sp k n S pc lv (.int z :: .int x :: st) := fun r hr H locs ls hP hD hS hl => lv_icmp_gt X.1 X.2.1 d ht (fun h => k1 h r hr H locs ls hP hD hS hl) (fun h => k2 h r hr H locs ls hP hD hS hl)
theorem vu_ne {x : Int32} {off : Int} {tgt : Nat} (X : Cx G p s m args meth c own Ts cc nL rt) (d : decode cc pc = .ok (.ifCond .ne off, 3)) (ht : (pc : Int) + off = (tgt : Int)) (k1 : ¬ x = 0 → VS G p l e R s m args below meth c nL Qf sp k n S tgt lv st) (k2 : x = 0 → VS G p l e R s m args below meth c nL Qf sp k n S (pc + 3) lv st) : VS G p l e R s m args below meth c nL Qf sp k n S pc lv (.int x :: st) := fun r hr H locs ls hP hD hS hl => lv_if_ne X.1 X.2.1 d ht (fun h => k1 h r hr H locs ls hP hD hS hl) (fun h => k2 h r hr H locs ls hP hD hS hl)
theorem vu_eq {x : Int32} {off : Int} {tgt : Nat} (X : Cx G p s m args meth c own Ts cc nL rt) (d : decode cc pc = .ok (.ifCond .eq off, 3)) (ht : (pc : Int) + off = (tgt : Int)) (k1 : x = 0 → VS G p l e R s m args below meth c nL Qf sp k n S tgt lv st) (k2 : ¬ x = 0 → VS G p l e R s m args below meth c nL Qf sp k n S (pc + 3) lv st) : VS G p l e R s m args below meth c nL Qf sp k n S pc lv (.int x :: st) := fun r hr H locs ls hP hD hS hl => lv_if_eq X.1 X.2.1 d ht (fun h => k1 h r hr H locs ls hP hD hS hl) (fun h => k2 h r hr H locs ls hP hD hS hl)
/-- a wrapper of the law: it answers -/
theorem vu_callL {spc : Option (Nat × Int32 × Wo)} {a : Int32} (hM : ∀ r, spc = some r → MXI l y ws rm' G S As r mc ms) (hsp : spc = some (0, a, T0)) (X : Cx G p s m args meth c own Ts cc nL rt) {hh : List (Nat × Nat × Nat × Nat)} (cw : vx_CSW R s args own index y bytes maxL ret hh ws rm' mc ms As.length) (hst : st = As.reverse ++ st') (hsz : (st'.map fun v => v.category).sum ≤ 8) (d : decode cc pc = .ok (.invokestatic index, 3)) (hf : k + mc ≤ R.cells ∧ n + ms ≤ R.slots) (kk : VS G p l e R s m args below meth c nL Qf sp (k + mc) (n + ms) T0 (pc + 3) lv (.int a :: st')) : VS G p l e R s m args below meth c nL Qf sp k n S pc lv st := by
  intro r hr H locs ls hP hD hS hl
  subst hst
  refine vx_calli (vx_runSX (As := As) (rest := st') ⟨X.1, X.2.1, X.2.2.1, X.2.2.2.1, X.2.2.2.2.1⟩ (hM _ hsp) cw ⟨PreM.blind, fun U hU hW => ⟨rfl, X.2.2.2.2.2.2.2.to hS hU hW, by rw [hU]; exact hP, hD⟩⟩ rfl rfl hl.1 rfl (lv_room hsz) d hf) hS (fun q _ h => h) (fun q h => h) (fun q _ h => h) (fun E ce q9 u t H1 locs1 ht hvm hw hB hz hk hS1 hce hcv hcl9 => ?_) (fun x u t H1 locs1 ht hvm hw hB hz hk hS1 => ?_)
  · exact absurd rfl hw.1
  · obtain ⟨h0, rfl, rfl⟩ := hw
    obtain ⟨hP1, hD1⟩ := hB
    rw [ht] at hP1
    exact kk r hr H1 locs1 ls hP1 hD1 hS1 hl
theorem vu_callM {a : Int32} (hM : MI l y ws rm' G S (rf G bi :: As) (a, T0) mc ms) (X : Cx G p s m args meth c own Ts cc nL rt) (cw : CallW R s args own C index y bytes maxL ret ws rm' mc ms As.length) (hi : bi < 177) (h5 : bi ≠ 165) (hc : cel G S bi = .inr (ci, fs)) (hcl : vwCl[ci]? = some (C, T, N)) (hst : st = As.reverse ++ rf G bi :: st') (hsz : (st'.map fun v => v.category).sum ≤ 8) (d : decode cc pc = .ok (.invokevirtual index, 3)) (hf : k + mc ≤ R.cells ∧ n + ms ≤ R.slots) (kk : VS G p l e R s m args below meth c nL Qf sp (k + mc) (n + ms) T0 (pc + 3) lv (.int a :: st')) : VS G p l e R s m args below meth c nL Qf sp k n S pc lv st := by
  intro r hr H locs ls hP hD hS hl
  subst hst
  refine va_calli (va_runV (As := As) (rest := st') ⟨X.1, X.2.1, X.2.2.1, X.2.2.2.1, X.2.2.2.2.1⟩ hM cw ⟨PreM.blind, va_recv X.2.2.2.2.2.2.2.1 hP hcl (lay_ne hi h5 hc), fun U hU hW => ⟨rfl, X.2.2.2.2.2.2.2.to hS hU hW, by rw [hU]; exact hP, hD⟩⟩ rfl rfl hl.1 rfl (lv_room hsz) d hf) hS (fun q _ h => h) (fun q h => h) (fun x u t H1 locs1 ht hvm hw hB hz hk hS1 => ?_)
  obtain ⟨rfl, rfl⟩ := hw
  obtain ⟨hP1, hD1⟩ := hB
  rw [ht] at hP1
  exact kk r hr H1 locs1 ls hP1 hD1 hS1 hl
theorem vu_callMz {F : Nat → Int32 × Wo} (hM : MIz l y ws rm' G S (rf G bi :: As) F mc ms) (X : Cx G p s m args meth c own Ts cc nL rt) (cw : CallW R s args own C index y bytes maxL ret ws rm' mc ms As.length) (hi : bi < 177) (h5 : bi ≠ 165) (hc : cel G S bi = .inr (ci, fs)) (hcl : vwCl[ci]? = some (C, T, N)) (hst : st = As.reverse ++ rf G bi :: st') (hsz : (st'.map fun v => v.category).sum ≤ 8) (d : decode cc pc = .ok (.invokevirtual index, 3)) (hf : k + mc ≤ R.cells ∧ n + ms ≤ R.slots) (kk : ∀ z, VS G p l e R s m args below meth c nL Qf sp (k + mc) (n + ms) (F z).2 (pc + 3) lv (.int (F z).1 :: st')) : VS G p l e R s m args below meth c nL Qf sp k n S pc lv st := by
  intro r hr H locs ls hP hD hS hl
  subst hst
  refine va_calli (va_runV (As := As) (rest := st') ⟨X.1, X.2.1, X.2.2.1, X.2.2.2.1, X.2.2.2.2.1⟩ hM cw ⟨PreM.blind, va_recv X.2.2.2.2.2.2.2.1 hP hcl (lay_ne hi h5 hc), fun U hU hW => ⟨rfl, X.2.2.2.2.2.2.2.to hS hU hW, by rw [hU]; exact hP, hD⟩⟩ rfl rfl hl.1 rfl (lv_room hsz) d hf) hS (fun q _ h => h) (fun q h => h) (fun x u t H1 locs1 ht hvm hw hB hz hk hS1 => ?_)
  obtain ⟨z, rfl, rfl⟩ := hw
  obtain ⟨hP1, hD1⟩ := hB
  rw [ht] at hP1
  exact kk z r hr H1 locs1 ls hP1 hD1 hS1 hl
theorem vu_callMD {a : UInt64} (hM : MD l y ws rm' G S (rf G bi :: As) (a, T0) mc ms) (X : Cx G p s m args meth c own Ts cc nL rt) (cw : CallW R s args own C index y bytes maxL ret ws rm' mc ms As.length) (hi : bi < 177) (h5 : bi ≠ 165) (hc : cel G S bi = .inr (ci, fs)) (hcl : vwCl[ci]? = some (C, T, N)) (hst : st = As.reverse ++ rf G bi :: st') (hsz : (st'.map fun v => v.category).sum ≤ 8) (d : decode cc pc = .ok (.invokevirtual index, 3)) (hf : k + mc ≤ R.cells ∧ n + ms ≤ R.slots) (kk : VS G p l e R s m args below meth c nL Qf sp (k + mc) (n + ms) T0 (pc + 3) lv (.double a :: st')) : VS G p l e R s m args below meth c nL Qf sp k n S pc lv st := by
  intro r hr H locs ls hP hD hS hl
  subst hst
  refine va_calld (va_runV (As := As) (rest := st') ⟨X.1, X.2.1, X.2.2.1, X.2.2.2.1, X.2.2.2.2.1⟩ hM cw ⟨PreM.blind, va_recv X.2.2.2.2.2.2.2.1 hP hcl (lay_ne hi h5 hc), fun U hU hW => ⟨rfl, X.2.2.2.2.2.2.2.to hS hU hW, by rw [hU]; exact hP, hD⟩⟩ rfl rfl hl.1 rfl (lv_room hsz) d hf) hS (fun q _ h => h) (fun q h => h) (fun x u t H1 locs1 ht hvm hw hB hz hk hS1 => ?_)
  obtain ⟨rfl, rfl⟩ := hw
  obtain ⟨hP1, hD1⟩ := hB
  rw [ht] at hP1
  exact kk r hr H1 locs1 ls hP1 hD1 hS1 hl
theorem vu_callMF {a : UInt32} (hM : MF l y ws rm' G S (rf G bi :: As) (a, T0) mc ms) (X : Cx G p s m args meth c own Ts cc nL rt) (cw : CallW R s args own C index y bytes maxL ret ws rm' mc ms As.length) (hi : bi < 177) (h5 : bi ≠ 165) (hc : cel G S bi = .inr (ci, fs)) (hcl : vwCl[ci]? = some (C, T, N)) (hst : st = As.reverse ++ rf G bi :: st') (hsz : (st'.map fun v => v.category).sum ≤ 8) (d : decode cc pc = .ok (.invokevirtual index, 3)) (hf : k + mc ≤ R.cells ∧ n + ms ≤ R.slots) (kk : VS G p l e R s m args below meth c nL Qf sp (k + mc) (n + ms) T0 (pc + 3) lv (.float a :: st')) : VS G p l e R s m args below meth c nL Qf sp k n S pc lv st := by
  intro r hr H locs ls hP hD hS hl
  subst hst
  refine va_callf (va_runV (As := As) (rest := st') ⟨X.1, X.2.1, X.2.2.1, X.2.2.2.1, X.2.2.2.2.1⟩ hM cw ⟨PreM.blind, va_recv X.2.2.2.2.2.2.2.1 hP hcl (lay_ne hi h5 hc), fun U hU hW => ⟨rfl, X.2.2.2.2.2.2.2.to hS hU hW, by rw [hU]; exact hP, hD⟩⟩ rfl rfl hl.1 rfl (lv_room hsz) d hf) hS (fun q _ h => h) (fun q h => h) (fun x u t H1 locs1 ht hvm hw hB hz hk hS1 => ?_)
  obtain ⟨rfl, rfl⟩ := hw
  obtain ⟨hP1, hD1⟩ := hB
  rw [ht] at hP1
  exact kk r hr H1 locs1 ls hP1 hD1 hS1 hl
end LAWR
theorem cmpI_self (a : Int) : compare a a = .eq := by simp
theorem dc_self (x : UInt64) (h : x &&& 0x7fffffffffffffff ≤ 0x7ff0000000000000) : FP.dcmp x x = some .eq := by
  have hb : x.toNat % 2 ^ 63 ≤ 0x7ff0000000000000 := by
    rw [UInt64.le_iff_toNat_le, UInt64.toNat_and] at h
    rw [show (0x7fffffffffffffff : UInt64).toNat = 2 ^ 63 - 1 from rfl, Nat.and_two_pow_sub_one_eq_mod] at h
    exact h
  show FP.Core.order (FP.Core.decode FP.Core.b64 x.toNat) (FP.Core.decode FP.Core.b64 x.toNat) = some .eq
  unfold FP.Core.decode
  by_cases e1 : FP.Core.fieldE FP.Core.b64 x.toNat = FP.Core.b64.exps - 1
  · rw [if_pos e1]
    by_cases e2 : FP.Core.fieldT FP.Core.b64 x.toNat = 0
    · rw [if_pos e2]
      show some (compare _ _) = _
      rw [cmpI_self]
    · exfalso
      unfold FP.Core.fieldE FP.Core.Fmt.exps FP.Core.Fmt.tails FP.Core.b64 at e1
      unfold FP.Core.fieldT FP.Core.Fmt.tails FP.Core.b64 at e2
      simp only [] at e1 e2
      omega
  · rw [if_neg e1]
    by_cases e2 : FP.Core.fieldE FP.Core.b64 x.toNat = 0
    · rw [if_pos e2]
      show some (compare _ _) = _
      rw [cmpI_self]
    · rw [if_neg e2]
      show some (compare _ _) = _
      rw [cmpI_self]

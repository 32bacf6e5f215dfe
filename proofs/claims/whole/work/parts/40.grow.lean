/-! ===== the line's builder grows once ===== -/
def laX (G : Gt) (S : Wo) (q : Nat) (f : Nat → Int32) : va_W := lay G S ++ [(q, .inl (G.2.1 2, (34, .inl f)))]
def gF (S : Wo) : Nat → Int32 := va_cpy (S.2.1 165) (fun _ => 0) 0 0 16
def QG (G : Gt) (S : Wo) : Array Value → State → Outcome → State → Prop := va_Qq (fun (x : Option Nat) (u : Nat) => x = some u) (fun u t => va_P G.1 vwCl (laX G S u (gF S)) t.heap ∧ va_D (Af G) (laX G S u (gF S))) (Af G)
theorem lay_len {G : Gt} {S : Wo} : (lay G S).length = 177 := by simp [lay]
set_option maxHeartbeats 4000000 in
set_option maxRecDepth 100000 in
theorem mtJ7_copyOf_g {l : Launch} {G : Gt} {S : Wo} (hN : S.2.2.1.2.2 = 16) (hb : ∀ i, i < 16 → fits .byte (.int (S.2.1 165 i)) = true) : Met l yJ7_copyOf_9075b wsJ7_copyOf_9075b { frames := 1, cells := 1, slots := 34, locals := 60 } (PreM G S [.ref S.2.2.1.2.1, .int 34]) (QG G S) 1 34 (Af G) := by
  refine va_MetF (cc := cJ7_copyOf_9075b) (maxL := 3) (ret := some (.array .byte)) (by decide +kernel) rfl ?_
  intro p e s m args below meth c s₁ B hml hv
  obtain ⟨rfl, hK, hP, hD⟩ := hv
  have hl := lv_entry [.ref S.2.2.1.2.1, .int 34] (n := 3) (Nat.le_of_ble_eq_true rfl)
  rw [lg_entry_eq]
  have X : Cx G p s m ([Value.ref S.2.2.1.2.1, Value.int 34] : List Value).toArray meth c RJ7 wsJ7_copyOf_9075b cJ7_copyOf_9075b 3 (some (.array .byte)) := ⟨B.exec, B.bytes, hml, findClass_of_methodNamed B.named, atoms_spec (ws := wsJ7_copyOf_9075b) B.pre, B.returns, B.notSynchronized, hK⟩
  generalize ((lg_sl [Value.ref S.2.2.1.2.1, Value.int 34] ++ List.replicate (3 - (lg_sl [Value.ref S.2.2.1.2.1, Value.int 34]).length) Slot.unset).toArray) = ls at hl ⊢
  have hl : lv_has ls 3 [(0, .ref S.2.2.1.2.1), (1, .int 34)] := hl
  have hS : va_S (Af G) s.heap s.heap [] := va_S.rf
  have hA : ∀ q : Nat, s.heap.size ≤ q → Af G q := fun q h => Nat.le_trans hK.2.2.2.2.2.2 h
  refine lv_iload_n X.1 X.2.1 dJ7_copyOf_9075b_0 rfl (lv_at hl 1 rfl) ?_
  refine lv_aload_n X.1 X.2.1 dJ7_copyOf_9075b_1 rfl (lv_at hl 0 rfl) ?_
  refine va_alen X.1 X.2.1 hK.1 hP 165 2 lay_lb rfl (v := 16) (by rw [hN]; rfl) dJ7_copyOf_9075b_2 ?_
  refine lv_icmp_ne X.1 X.2.1 dJ7_copyOf_9075b_3 (tgt := 14) (by decide) (fun _ => ?_) (fun h => absurd h (by decide))
  refine lv_iload_n X.1 X.2.1 dJ7_copyOf_9075b_14 rfl (lv_at hl 1 rfl) ?_
  refine va_newa (atype := .byte) (ty := .byte) (a0 := (34, .inl (fun _ => 0))) (N' := 34) X.1 X.2.1 (X.2.2.2.2.1 _ (by decide +kernel)) rfl hK.1 hP hD hS hA (fun _ => rfl) (by decide) (by decide) (by decide) (Nat.le_of_ble_eq_true rfl) (Nat.le_of_ble_eq_true rfl) dJ7_copyOf_9075b_15 (fun q cA H1 hK1 hP1 hD1 hS1 => ?_)
  have hcA : cA = G.2.1 2 := Option.some.inj ((hK1.2 6 (cA, .byte) rfl).2.symm.trans (hK1.2 2 (G.2.1 2, .byte) rfl).2)
  subst hcA
  refine lv_astore_n X.1 X.2.1 dJ7_copyOf_9075b_17 rfl hl (by decide) (lv' := [(2, .ref q), (0, .ref S.2.2.1.2.1), (1, .int 34)]) rfl (fun ls' hl' => ?_)
  refine lv_aload_n X.1 X.2.1 dJ7_copyOf_9075b_18 rfl (lv_at hl' 1 rfl) ?_
  refine lv_iconst X.1 X.2.1 dJ7_copyOf_9075b_19 (v := 0) (by decide) ?_
  refine lv_aload_n X.1 X.2.1 dJ7_copyOf_9075b_20 rfl (lv_at hl' 0 rfl) ?_
  refine lv_iconst X.1 X.2.1 dJ7_copyOf_9075b_21 (v := 0) (by decide) ?_
  refine lv_aload_n X.1 X.2.1 dJ7_copyOf_9075b_22 rfl (lv_at hl' 1 rfl) ?_
  have h165 : (lay G S ++ [(q, (.inl (G.2.1 2, (34, .inl (fun _ => 0))) : va_E))])[165]? = some (S.2.2.1.2.1, celArr G S 2 S.2.2.1.2.2 165) := by
    rw [List.getElem?_append_left (by rw [lay_len]; decide)]
    exact lay_lb
  have h177 : (lay G S ++ [(q, (.inl (G.2.1 2, (34, .inl (fun _ => 0))) : va_E))])[177]? = some (q, .inl (G.2.1 2, (34, .inl (fun _ => 0)))) := by
    rw [List.getElem?_append_right (by rw [lay_len]; decide), lay_len]
    rfl
  refine va_alen X.1 X.2.1 hK1 hP1 165 2 h165 rfl (v := 16) (by rw [hN]; rfl) dJ7_copyOf_9075b_23 ?_
  refine lv_iload_n X.1 X.2.1 dJ7_copyOf_9075b_24 rfl (lv_at hl' 2 rfl) ?_
  refine va_mmin X.1 X.2.1 (X.2.2.1.trans hl'.1.symm) X.2.2.2.1 (X.2.2.2.2.1 _ (by decide +kernel)) (X.2.2.2.2.1 _ (by decide +kernel)) (X.2.2.2.2.1 _ (by decide +kernel)) (X.2.2.2.2.1 _ (by decide +kernel)) (Nat.le_of_ble_eq_true rfl) (Nat.le_of_ble_eq_true rfl) (Nat.le_of_ble_eq_true rfl) (Nat.le_of_ble_eq_true rfl) dJ7_copyOf_9075b_25 ?_
  refine va_copyi (ty := .byte) (f := S.2.1 165) (g := fun _ => 0) X.1 X.2.1 (X.2.2.1.trans hl'.1.symm) X.2.2.2.1 (X.2.2.2.2.1 _ (by decide +kernel)) (X.2.2.2.2.1 _ (by decide +kernel)) (X.2.2.2.2.1 _ (by decide +kernel)) (X.2.2.2.2.1 _ (by decide +kernel)) hK1 hP1 hD1 hS1 165 177 2 6 h165 h177 rfl rfl rfl (by decide) (by decide) (by decide) (by rw [hN]; decide) (by decide) (fun i hi => ?_) (Nat.le_of_ble_eq_true rfl) (Nat.le_of_ble_eq_true rfl) dJ7_copyOf_9075b_28 (fun H2 locs2 hP2 hD2 hS2 => ?_)
  · have e0 : (0 : Int32).toNatClampNeg + i = i := by rw [show (0 : Int32).toNatClampNeg = 0 by decide, Nat.zero_add]
    rw [e0]
    exact hb i hi
  · have e2 : (lay G S ++ [(q, (.inl (G.2.1 2, (34, .inl (fun _ => 0))) : va_E))]).set 177 (q, .inl (G.2.1 2, (34, .inl (va_cpy (S.2.1 165) (fun _ => 0) (0 : Int32).toNatClampNeg (0 : Int32).toNatClampNeg (if (34 : Int32) < 16 then (34 : Int32) else 16).toNatClampNeg)))) = laX G S q (gF S) := by
      rw [List.set_append_right _ _ (by rw [lay_len]; decide), lay_len]
      rfl
    rw [e2] at hP2 hD2
    refine lv_aload_n X.1 X.2.1 dJ7_copyOf_9075b_31 rfl (lv_at hl' 0 rfl) ?_
    exact W.aret X.1 X.2.1 X.2.2.2.2.2.1 (Or.inr ⟨_, rfl⟩) (Or.inr ⟨_, rfl⟩) (fun t ht hW => ⟨⟨some q, q, rfl, rfl, by rw [ht]; exact hP2, hD2⟩, hS2.F ht⟩) hS2.2.2 dJ7_copyOf_9075b_32 (hlocks := X.2.2.2.2.2.2.1)
noncomputable def allz {ρ : Type} (K : Nat → Option ρ) : Option (Nat → ρ) := by
  classical
  exact if h : ∀ z, (K z).isSome = true then some (fun z => (K z).get (h z)) else none
theorem allz_some {ρ : Type} {K : Nat → Option ρ} {r : Nat → ρ} (h : allz K = some r) : ∀ z, K z = some (r z) := by
  unfold allz at h
  split at h
  · rename_i h1
    cases h
    intro z
    simp
  · cases h
theorem allz_of {ρ : Type} {K : Nat → Option ρ} {r : Nat → ρ} (h : ∀ z, K z = some (r z)) : allz K = some r := by
  unfold allz
  have h1 : ∀ z, (K z).isSome = true := fun z => by rw [h z]; rfl
  rw [dif_pos h1]
  congr 1
  funext z
  simp [h z]
def QVz (G : Gt) (r : Nat → Wo) : Array Value → State → Outcome → State → Prop := va_Qv (fun u : Wo => ∃ z, u = r z) (WB G) (Af G)
def QOz (G : Gt) (r : Nat → Wo) : Array Value → State → Outcome → State → Prop := va_Qq (fun (x : Option Nat) (u : Wo) => x = some (gB G + 164) ∧ ∃ z, u = r z) (WB G) (Af G)
def QIz (G : Gt) (r : Nat → Int32 × Wo) : Array Value → State → Outcome → State → Prop := va_Qi (fun (x : Int32) (u : Wo) => ∃ z, x = (r z).1 ∧ u = (r z).2) (WB G) (Af G)
def MVz (l : Launch) (y : MethodName) (ws : List Cond) (rm : Room) (G : Gt) (S : Wo) (av : List Value) (r : Nat → Wo) (mc ms : Nat) : Prop := Met l y ws rm (PreM G S av) (QVz G r) mc ms (Af G)
def MOz (l : Launch) (y : MethodName) (ws : List Cond) (rm : Room) (G : Gt) (S : Wo) (av : List Value) (r : Nat → Wo) (mc ms : Nat) : Prop := Met l y ws rm (PreM G S av) (QOz G r) mc ms (Af G)
def MIz (l : Launch) (y : MethodName) (ws : List Cond) (rm : Room) (G : Gt) (S : Wo) (av : List Value) (r : Nat → Int32 × Wo) (mc ms : Nat) : Prop := Met l y ws rm (PreM G S av) (QIz G r) mc ms (Af G)
theorem W_mono {p : Program} {l : Launch} {e : Env} {R : Room} {s : State} {m : MethodId} {args : Array Value} {below : List Frame} {meth : Method} {c : Code} {H : Heap} {locs : List Loc} {k n : Nat} {Q Q' : State → Prop} {g : JFrame} (h : ∀ t, Q t → Q' t) (w : W p l e R s m args below meth c H locs k n Q g) : W p l e R s m args below meth c H locs k n Q' g := fun T hT X => by
  obtain ⟨t, a, b⟩ := w T hT X
  exact ⟨t, a, h t b⟩
theorem MQ_mono {below : List Frame} {Qc Qc' : Array Value → State → Outcome → State → Prop} {a : Array Value} {s : State} {mc ms : Nat} {free : Addr → Prop} (h : ∀ o t, Qc a s o t → Qc' a s o t) : ∀ t, MQ below Qc a s mc ms free t → MQ below Qc' a s mc ms free t := fun t ⟨o, h1, h2, h3, h4⟩ => ⟨o, h1, h2, h o t h3, h4⟩
theorem QV_z {G : Gt} {r : Nat → Wo} {z : Nat} {a : Array Value} {s : State} : ∀ o t, QV G (r z) a s o t → QVz G r a s o t := fun o t ⟨⟨u, h1, h2, h3⟩, h4⟩ => ⟨⟨u, h1, ⟨z, h2⟩, h3⟩, h4⟩
theorem QO_z {G : Gt} {r : Nat → Wo} {z : Nat} {a : Array Value} {s : State} : ∀ o t, QO G (r z) a s o t → QOz G r a s o t := fun o t ⟨⟨x, u, h1, h2, h3⟩, h4⟩ => ⟨⟨x, u, h1, ⟨h2.1, z, h2.2⟩, h3⟩, h4⟩
theorem QI_z {G : Gt} {r : Nat → Int32 × Wo} {z : Nat} {a : Array Value} {s : State} : ∀ o t, QI G (r z) a s o t → QIz G r a s o t := fun o t ⟨⟨x, u, h1, h2, h3⟩, h4⟩ => ⟨⟨x, u, h1, ⟨z, h2.1, h2.2⟩, h3⟩, h4⟩
/-- the world behind the growth -/
theorem lay_grown {G : Gt} {S : Wo} {q : Nat} {f : Nat → Int32} {H : Heap} (hP : va_P G.1 vwCl ((laX G S q f).set 164 (gB G + 164, .inr (1, [.ref q, .int (S.1 164 1), .int (S.1 164 2), .int (S.1 164 3)]))) H) (hD : va_D (Af G) ((laX G S q f).set 164 (gB G + 164, .inr (1, [.ref q, .int (S.1 164 1), .int (S.1 164 2), .int (S.1 164 3)])))) : va_P G.1 vwCl (lay G (pB S q 34 f)) H ∧ va_D (Af G) (lay G (pB S q 34 f)) := by
  have hlen : (laX G S q f).length = 178 := by rw [laX, List.length_append, lay_len]; rfl
  have key : ∀ i, i < 177 → ((laX G S q f).set 164 (gB G + 164, .inr (1, [.ref q, .int (S.1 164 1), .int (S.1 164 2), .int (S.1 164 3)])))[if i = 165 then 177 else i]? = some (adr G (pB S q 34 f) i, cel G (pB S q 34 f) i) := by
    intro i hi
    by_cases h5 : i = 165
    · subst h5
      rw [if_pos rfl, List.getElem?_set_ne (by decide), laX, List.getElem?_append_right (by rw [lay_len]; decide), lay_len]
      rfl
    · rw [if_neg h5]
      by_cases h4 : i = 164
      · subst h4
        rw [List.getElem?_set_self (by rw [hlen]; decide)]
        rfl
      · rw [List.getElem?_set_ne (fun e => h4 e.symm), laX, List.getElem?_append_left (by rw [lay_len]; exact hi), lay_at hi, adr_ne h5, adr_ne h5]
        congr 2
        exact cel_sel rfl (by simp [pB, h5]) (fun _ => rfl) (fun h => absurd h h4) (fun h => absurd h h5) (fun _ => rfl) (fun _ => rfl)
  have hx : ∀ i x, (lay G (pB S q 34 f))[i]? = some x → i < 177 ∧ x = (adr G (pB S q 34 f) i, cel G (pB S q 34 f) i) := by
    intro i x hi
    have h1 : i < 177 := by
      have := (List.getElem?_eq_some_iff.mp hi).1
      rw [lay_len] at this
      exact this
    rw [lay_at h1] at hi
    exact ⟨h1, (Option.some.inj hi).symm⟩
  refine ⟨fun i x hi => ?_, fun i j x y hi hj hxy => ?_, fun i x hi => ?_⟩
  · obtain ⟨h1, rfl⟩ := hx i x hi
    exact hP _ _ (key i h1)
  · obtain ⟨h1, rfl⟩ := hx i x hi
    obtain ⟨h2, rfl⟩ := hx j y hj
    have h3 := hD.1 _ _ _ _ (key i h1) (key j h2) hxy
    by_cases a1 : i = 165
    · by_cases a2 : j = 165
      · rw [a1, a2]
      · rw [if_pos a1, if_neg a2] at h3; omega
    · by_cases a2 : j = 165
      · rw [if_neg a1, if_pos a2] at h3; omega
      · rw [if_neg a1, if_neg a2] at h3; exact h3
  · obtain ⟨h1, rfl⟩ := hx i x hi
    exact hD.2 _ _ (key i h1)
noncomputable def bz {ρ : Type} (spc : Option (Nat → Wo)) (g : Wo → Option ρ) : Option (Nat → ρ) := spc.bind (fun r => allz (fun z => g (r z)))
noncomputable def apz {ρ : Type} (a : Option Wo) (b : Option (Nat → Wo)) (A : Wo → Option (Nat → ρ)) (B : Wo → Option ρ) : Option (Nat → ρ) := match a with
  | some S1 => A S1
  | none => bz b B
def byt16 (f : Nat → Int32) : Bool := (List.range 16).all (fun i => fits .byte (.int (f i)))
section GROW
variable {ρ : Type} {G : Gt} {p : Program} {l : Launch} {e : Env} {R : Room} {s : State} {m : MethodId} {args : Array Value} {below : List Frame} {meth : Method} {c : Code} {nL : Nat} {Qf : ρ → State → Prop} {Qz : (Nat → ρ) → State → Prop} {K : Nat → Option ρ} {k n index index2 mc9 ms9 maxL : Nat} {S : Wo} {pc : Nat} {lv lv' : List (Nat × Value)} {st st' : List Value} {own C : String} {Ts ws : List Cond} {cc bytes : ByteArray} {rt ret : Option FieldType} {mc ms : Nat} {rm' : Room} {As : List Value} {v : Value}
theorem vs_grow {b : Nat} {x : Int32} {rm9 : Room} (X : Cx G p s m args meth c RJ5 Ts cc nL rt) (hrm : rm9 = { frames := 1, cells := 1, slots := 34, locals := 60 }) (hin : ∀ w ∈ wsJ40, w ∈ Ts) (cw : CallB R s args RJ5 index yJ7_copyOf_9075b cJ7_copyOf_9075b 3 (some (.array .byte)) wsJ7_copyOf_9075b rm9 1 34 2 ∧ (Cond.static yJ7_copyOf_9075b).before args s = true) (hlink : Cond.fieldLink RJ5 index2 RJ5 "value" "[B" ∈ Ts) (d : decode cc pc = .ok (.invokestatic index, 3)) (d2 : decode cc (pc + 3) = .ok (.putfield index2, 3)) (hf : k + 1 ≤ R.cells ∧ n + 34 ≤ R.slots) (hsz : ((rf G 164 :: st).map fun v => v.category).sum ≤ 8) (hQ : ∀ (r : Nat → ρ) z t, Qf (r z) t → Qz r t) (kk : ∀ q, VS G p l e R s m args below meth c nL Qf (K q) (k + 1) (n + 34) (pB S q 34 (gF S)) (pc + 6) lv st) : VS G p l e R s m args below meth c nL Qz (if x = 34 ∧ b = S.2.2.1.2.1 ∧ S.2.2.1.2.2 = 16 ∧ byt16 (S.2.1 165) = true then allz K else none) k n S pc lv (.int x :: .ref b :: rf G 164 :: st) := by
  subst hrm
  intro r hr H locs ls hP hD hS hl
  by_cases h : x = 34 ∧ b = S.2.2.1.2.1 ∧ S.2.2.1.2.2 = 16 ∧ byt16 (S.2.1 165) = true
  · rw [if_pos h] at hr
    obtain ⟨rfl, rfl, hN, hB16⟩ := h
    have hz := allz_some hr
    have hb : ∀ i, i < 16 → fits .byte (.int (S.2.1 165 i)) = true := fun i hi => List.all_eq_true.mp hB16 i (List.mem_range.mpr hi)
    refine va_callq (va_runS (As := [.ref S.2.2.1.2.1, .int 34]) (rest := rf G 164 :: st) ⟨X.1, X.2.1, X.2.2.1, X.2.2.2.1, X.2.2.2.2.1⟩ (mtJ7_copyOf_g hN hb) cw ⟨PreM.blind, fun U hU hW => ⟨rfl, X.2.2.2.2.2.2.2.to hS hU hW, by rw [hU]; exact hP, hD⟩⟩ rfl rfl hl.1 rfl (lv_room hsz) d hf) hS (fun q _ h => h) (fun q h => h) (fun x u t H1 locs1 ht hvm hw hB hz9 hk hS1 => ?_)
    subst hw
    obtain ⟨hP1, hD1⟩ := hB
    rw [ht] at hP1
    have h164 : (laX G S u (gF S))[164]? = some (gB G + 164, .inr (1, [.ref S.2.2.1.2.1, .int (S.1 164 1), .int (S.1 164 2), .int (S.1 164 3)])) := by
      rw [laX, List.getElem?_append_left (by rw [lay_len]; decide), lay_at (by decide)]
      rfl
    refine va_put (own := RJ5) (ref := RJ5) (C := RJ4) (T := TJ4) (N := 4) (ci := 1) (v := .ref u) (ty := .array .byte) X.1 X.2.1 X.2.2.2.2.1 hin tyJ4 tyJ4_ok nmJ4 X.2.2.2.1 X.2.2.2.2.2.2.2.1 hP1 hD1 hS1 164 h164 rfl 0 (by decide) (X.2.2.2.2.1 _ hlink) (fun _ h => h) rfl rfl rfl rfl (Nat.le_of_ble_eq_true rfl) d2 (fun H2 locs2 hP2 hD2 hS2 => ?_)
    obtain ⟨hP3, hD3⟩ := lay_grown hP2 hD2
    exact W_mono (hQ r u) (kk u (r u) (hz u) H2 locs2 ls hP3 hD3 hS2 hl)
  · rw [if_neg h] at hr; cases hr
theorem vs_callUvz_Sb {x9 : MethodName} {owner : String} {y : MethodName} {spc : Option (Nat → Wo)} {g : Wo → Option ρ} (X : Cx G p s m args meth c own Ts cc nL rt) (hM : ∀ r, spc = some r → MVz l y ws rm' G S (rf G 164 :: As) r mc9 ms9) (cw : va_CU R s args own RJ4 owner index x9 y bytes maxL ret ws rm' mc9 ms9 As.length) (hst : st = As.reverse ++ rf G 164 :: st') (hsz : (st'.map fun v => v.category).sum ≤ 8) (d : decode cc pc = .ok (.invokevirtual index, 3)) (hf : k + mc9 ≤ R.cells ∧ n + ms9 ≤ R.slots) (hQ : ∀ (r : Nat → ρ) z t, Qf (r z) t → Qz r t) (kk : ∀ S1, VS G p l e R s m args below meth c nL Qf (g S1) (k + mc9) (n + ms9) S1 (pc + 3) lv st') : VS G p l e R s m args below meth c nL Qz (bz spc g) k n S pc lv st := by
  intro r hr H locs ls hP hD hS hl
  obtain ⟨q, hq, hf9⟩ := Option.bind_eq_some_iff.mp hr
  have hz := allz_some hf9
  subst hst
  refine va_callv (va_runU (C := RJ4) (As := As) (rest := st') ⟨X.1, X.2.1, X.2.2.1, X.2.2.2.1, X.2.2.2.2.1⟩ (hM q hq) cw ⟨PreM.blind, va_recv X.2.2.2.2.2.2.2.1 hP (ci := 1) rfl (lay_ne (i := 164) (by decide) (by decide) rfl), fun U hU hW => ⟨rfl, X.2.2.2.2.2.2.2.to hS hU hW, by rw [hU]; exact hP, hD⟩⟩ rfl rfl hl.1 rfl (lv_room hsz) d hf) hS (fun q _ h => h) (fun q h => h) (fun u t H1 locs1 ht hvm hw hB hz9 hk hS1 => ?_)
  obtain ⟨z, rfl⟩ := hw
  obtain ⟨hP1, hD1⟩ := hB
  rw [ht] at hP1
  exact W_mono (hQ r z) (kk _ (r z) (hz z) H1 locs1 ls hP1 hD1 hS1 hl)
theorem vs_callSUoz_Sb {y : MethodName} {spc : Option (Nat → Wo)} {g : Wo → Option ρ} (X : Cx G p s m args meth c own Ts cc nL rt) (hM : ∀ r, spc = some r → MOz l y ws rm' G S (rf G 164 :: As) r mc9 ms9) (cw : va_CS R s args own index y bytes maxL ret ws rm' mc9 ms9 As.length) (hst : st = As.reverse ++ rf G 164 :: st') (hsz : (st'.map fun v => v.category).sum ≤ 8) (d : decode cc pc = .ok (.invokespecial index, 3)) (hf : k + mc9 ≤ R.cells ∧ n + ms9 ≤ R.slots) (hQ : ∀ (r : Nat → ρ) z t, Qf (r z) t → Qz r t) (kk : ∀ S1, VS G p l e R s m args below meth c nL Qf (g S1) (k + mc9) (n + ms9) S1 (pc + 3) lv (rf G 164 :: st')) : VS G p l e R s m args below meth c nL Qz (bz spc g) k n S pc lv st := by
  intro r hr H locs ls hP hD hS hl
  obtain ⟨q, hq, hf9⟩ := Option.bind_eq_some_iff.mp hr
  have hz := allz_some hf9
  subst hst
  refine va_callq (va_runSU (C := RJ4) (As := As) (rest := st') (X.2.2.2.2.2.2.2.1.1 1 _ rfl).2 ⟨X.1, X.2.1, X.2.2.1, X.2.2.2.1, X.2.2.2.2.1⟩ (hM q hq) cw ⟨PreM.blind, va_recv X.2.2.2.2.2.2.2.1 hP (ci := 1) rfl (lay_ne (i := 164) (by decide) (by decide) rfl), fun U hU hW => ⟨rfl, X.2.2.2.2.2.2.2.to hS hU hW, by rw [hU]; exact hP, hD⟩⟩ rfl rfl hl.1 rfl (lv_room hsz) d hf) hS (fun q _ h => h) (fun q h => h) (fun x u t H1 locs1 ht hvm hw hB hz9 hk hS1 => ?_)
  obtain ⟨rfl, z, rfl⟩ := hw
  obtain ⟨hP1, hD1⟩ := hB
  rw [ht] at hP1
  exact W_mono (hQ r z) (kk _ (r z) (hz z) H1 locs1 ls hP1 hD1 hS1 hl)
theorem vs_callVoz_Sb {y : MethodName} {spc : Option (Nat → Wo)} {g : Wo → Option ρ} (X : Cx G p s m args meth c own Ts cc nL rt) (hM : ∀ r, spc = some r → MOz l y ws rm' G S (rf G 164 :: As) r mc9 ms9) (cw : CallW R s args own RJ4 index y bytes maxL ret ws rm' mc9 ms9 As.length) (hst : st = As.reverse ++ rf G 164 :: st') (hsz : (st'.map fun v => v.category).sum ≤ 8) (d : decode cc pc = .ok (.invokevirtual index, 3)) (hf : k + mc9 ≤ R.cells ∧ n + ms9 ≤ R.slots) (hQ : ∀ (r : Nat → ρ) z t, Qf (r z) t → Qz r t) (kk : ∀ S1, VS G p l e R s m args below meth c nL Qf (g S1) (k + mc9) (n + ms9) S1 (pc + 3) lv (rf G 164 :: st')) : VS G p l e R s m args below meth c nL Qz (bz spc g) k n S pc lv st := by
  intro r hr H locs ls hP hD hS hl
  obtain ⟨q, hq, hf9⟩ := Option.bind_eq_some_iff.mp hr
  have hz := allz_some hf9
  subst hst
  refine va_callq (va_runV (C := RJ4) (As := As) (rest := st') ⟨X.1, X.2.1, X.2.2.1, X.2.2.2.1, X.2.2.2.2.1⟩ (hM q hq) cw ⟨PreM.blind, va_recv X.2.2.2.2.2.2.2.1 hP (ci := 1) rfl (lay_ne (i := 164) (by decide) (by decide) rfl), fun U hU hW => ⟨rfl, X.2.2.2.2.2.2.2.to hS hU hW, by rw [hU]; exact hP, hD⟩⟩ rfl rfl hl.1 rfl (lv_room hsz) d hf) hS (fun q _ h => h) (fun q h => h) (fun x u t H1 locs1 ht hvm hw hB hz9 hk hS1 => ?_)
  obtain ⟨rfl, z, rfl⟩ := hw
  obtain ⟨hP1, hD1⟩ := hB
  rw [ht] at hP1
  exact W_mono (hQ r z) (kk _ (r z) (hz z) H1 locs1 ls hP1 hD1 hS1 hl)
theorem vs_callApz {y : MethodName} {rmn rmg : Room} {a : Option Wo} {b : Option (Nat → Wo)} {A : Wo → Option (Nat → ρ)} {B : Wo → Option ρ} (X : Cx G p s m args meth c own Ts cc nL rt) (hMn : ∀ r, a = some r → MO l y ws rmn G S (rf G 164 :: As) r 0 0) (hMg : ∀ r, b = some r → MOz l y ws rmg G S (rf G 164 :: As) r 1 34) (cwn : CallW R s args own RJ4 index y bytes maxL ret ws rmn 0 0 As.length) (cwg : CallW R s args own RJ4 index y bytes maxL ret ws rmg 1 34 As.length) (hst : st = As.reverse ++ rf G 164 :: st') (hsz : (st'.map fun v => v.category).sum ≤ 8) (d : decode cc pc = .ok (.invokevirtual index, 3)) (hf : k + 1 ≤ R.cells ∧ n + 34 ≤ R.slots) (hQ : ∀ (r : Nat → ρ) z t, Qf (r z) t → Qz r t) (kA : ∀ S1, VS G p l e R s m args below meth c nL Qz (A S1) k n S1 (pc + 3) lv (rf G 164 :: st')) (kB : ∀ S1, VS G p l e R s m args below meth c nL Qf (B S1) (k + 1) (n + 34) S1 (pc + 3) lv (rf G 164 :: st')) : VS G p l e R s m args below meth c nL Qz (apz a b A B) k n S pc lv st := by
  intro r hr
  cases a with
  | some S1 => exact vs_callVo_Sb (spc := some S1) (g := A) X hMn cwn hst hsz d ⟨by omega, by omega⟩ (fun S2 _ => kA S2) r hr
  | none => exact vs_callVoz_Sb (Qf := Qf) X hMg cwg hst hsz d hf hQ kB r hr
theorem vs_iretz {x : Int32} (X : Cx G p s m args meth c own Ts cc nL (some .int)) (d : decode cc pc = .ok (.ireturn, 1)) (hk : k ≤ mc) (hn : n ≤ ms) : VS G p l e R s m args below meth c nL (fun r => MQ below (QIz G r) args s mc ms (Af G)) (some (fun _ => (x, S))) k n S pc lv [.int x] := by
  intro r hr H locs ls hP hD hS hl
  cases hr
  exact W_mono (MQ_mono (QI_z (r := fun _ => (x, S)) (z := 0))) (vs_iret X d hk hn (x, S) rfl H locs ls hP hD hS hl)
theorem MVzF_of {y : MethodName} {ws ws' : List Cond} {rm : Room} {av : List Value} {mc ms maxL : Nat} {ret : Option FieldType} {sp : Option (Nat → Wo)} (hy : plainFor y = true) (hown : y.cls = own) (hw : ws = Cond.code y cc maxL ret :: ws') (hlen : (lg_sl av).length ≤ maxL) (body : ∀ (p : Program) (e : Env) (s : State) (m : MethodId) (args : Array Value) (below : List Frame) (meth : Method) (c : Code), Cx G p s m args meth c own ws cc maxL ret → VS G p l e rm s m args below meth c maxL (fun r => MQ below (QVz G r) args s mc ms (Af G)) sp 0 0 S 0 (lv_args 0 av) []) : ∀ r, sp = some r → MVz l y ws rm G S av r mc ms := by
  intro r hr
  refine va_MetF (cc := cc) (maxL := maxL) (ret := ret) hy hw ?_
  intro p e s m args below meth c s₁ B hml hv
  obtain ⟨rfl, hK, hP, hD⟩ := hv
  have hl := lv_entry av hlen
  rw [lg_entry_eq]
  exact body p e s m _ below meth c ⟨B.exec, B.bytes, hml, by rw [← hown]; exact findClass_of_methodNamed B.named, atoms_spec (ws := ws) B.pre, B.returns, B.notSynchronized, hK⟩ r hr s.heap [] _ hP hD va_S.rf hl
theorem MOzF_of {y : MethodName} {ws ws' : List Cond} {rm : Room} {av : List Value} {mc ms maxL : Nat} {ret : Option FieldType} {sp : Option (Nat → Wo)} (hy : plainFor y = true) (hown : y.cls = own) (hw : ws = Cond.code y cc maxL ret :: ws') (hlen : (lg_sl av).length ≤ maxL) (body : ∀ (p : Program) (e : Env) (s : State) (m : MethodId) (args : Array Value) (below : List Frame) (meth : Method) (c : Code), Cx G p s m args meth c own ws cc maxL ret → VS G p l e rm s m args below meth c maxL (fun r => MQ below (QOz G r) args s mc ms (Af G)) sp 0 0 S 0 (lv_args 0 av) []) : ∀ r, sp = some r → MOz l y ws rm G S av r mc ms := by
  intro r hr
  refine va_MetF (cc := cc) (maxL := maxL) (ret := ret) hy hw ?_
  intro p e s m args below meth c s₁ B hml hv
  obtain ⟨rfl, hK, hP, hD⟩ := hv
  have hl := lv_entry av hlen
  rw [lg_entry_eq]
  exact body p e s m _ below meth c ⟨B.exec, B.bytes, hml, by rw [← hown]; exact findClass_of_methodNamed B.named, atoms_spec (ws := ws) B.pre, B.returns, B.notSynchronized, hK⟩ r hr s.heap [] _ hP hD va_S.rf hl
theorem MIz_of {y : MethodName} {ws ws' : List Cond} {rm : Room} {av : List Value} {mc ms maxL : Nat} {ret : Option FieldType} {sp : Option (Nat → Int32 × Wo)} (hy : plainName y.cls = true) (hown : y.cls = own) (hw : ws = Cond.code y cc maxL ret :: ws') (hlen : (lg_sl av).length ≤ maxL) (body : ∀ (p : Program) (e : Env) (s : State) (m : MethodId) (args : Array Value) (below : List Frame) (meth : Method) (c : Code), Cx G p s m args meth c own ws cc maxL ret → VS G p l e rm s m args below meth c maxL (fun r => MQ below (QIz G r) args s mc ms (Af G)) sp 0 0 S 0 (lv_args 0 av) []) : ∀ r, sp = some r → MIz l y ws rm G S av r mc ms := by
  intro r hr
  refine Met.ofW (cc := cc) (maxL := maxL) (ret := ret) hy hw ?_
  intro p e s m args below meth c s₁ B hml hv
  obtain ⟨rfl, hK, hP, hD⟩ := hv
  have hl := lv_entry av hlen
  rw [lg_entry_eq]
  exact body p e s m _ below meth c ⟨B.exec, B.bytes, hml, by rw [← hown]; exact findClass_of_methodNamed B.named, atoms_spec (ws := ws) B.pre, B.returns, B.notSynchronized, hK⟩ r hr s.heap [] _ hP hD va_S.rf hl
end GROW

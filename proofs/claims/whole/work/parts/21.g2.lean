theorem wrd_lt (j : Nat) : wrdL.getD j 0 < 24 := by
  by_cases h : j < 9
  · exact (by decide : ∀ j, j < 9 → wrdL.getD j 0 < 24) j h
  · rw [List.getD_eq_getElem?_getD, List.getElem?_eq_none (by show 9 ≤ j; omega)]; decide
theorem shp_lt (j : Nat) : shpL.getD j 0 < 24 := by
  by_cases h : j < 9
  · exact (by decide : ∀ j, j < 9 → shpL.getD j 0 < 24) j h
  · rw [List.getD_eq_getElem?_getD, List.getElem?_eq_none (by show 9 ≤ j; omega)]; decide
/-- Preconditions.checkIndex and String.checkIndex: in range they do nothing -/
theorem mtJ3_checkIndex_8e157 {l : Launch} {G : Gt} (p1 p2 : Int32) (q : Option Nat) {S : Wo} : ∀ x, (if p1 < 0 then none else if p1 < p2 then some p1 else none) = some x → MI l yJ3_checkIndex_8e157 wsJ3_checkIndex_8e157 { frames := 0, cells := 0, slots := 0, locals := 0 } G S [.int p1, .int p2, va_rf q] (x, S) 0 0 := by
  refine MIpF_of (cc := cJ3_checkIndex_8e157) (own := RJ3) (maxL := 3) (ret := (some .int)) (sp := (if p1 < 0 then none else if p1 < p2 then some p1 else none)) (by decide +kernel) rfl rfl (by cases q <;> exact Nat.le_of_ble_eq_true rfl) ?_
  intro p e s m args below meth c X
  have hlv : lv_args 0 [.int p1, .int p2, va_rf q] = [(0, .int p1), (1, .int p2), (2, va_rf q)] := rfl
  rw [hlv]
  refine vs_iload_n X dJ3_checkIndex_8e157_0 0 rfl ?_
  refine vs_if_lt X (tgt := 9) dJ3_checkIndex_8e157_1 (by decide) (fun _ => vs_none rfl) (fun _ => ?_)
  refine vs_iload_n X dJ3_checkIndex_8e157_4 0 rfl ?_
  refine vs_iload_n X dJ3_checkIndex_8e157_5 1 rfl ?_
  refine vs_icmp_lt X (tgt := 16) dJ3_checkIndex_8e157_6 (by decide) (fun _ => ?_) (fun _ => vs_none rfl)
  refine vs_iload_n X dJ3_checkIndex_8e157_16 0 rfl ?_
  exact vs_iretp X dJ3_checkIndex_8e157_17 (by decide) (by decide)
section SIO
variable {ρ : Type} {G : Gt} {p : Program} {l : Launch} {e : Env} {R : Room} {s : State} {m : MethodId} {args : Array Value} {below : List Frame} {meth : Method} {c : Code} {nL : Nat} {Qf : ρ → State → Prop} {sp A B : Option ρ} {k n : Nat} {S : Wo} {pc : Nat} {lv lv' : List (Nat × Value)} {st st' : List Value} {own : String} {Ts : List Cond} {cc : ByteArray} {rt : Option FieldType} {index : Nat}
theorem vs_getsF (X : Cx G p s m args meth c own Ts cc nL rt) (hlink : Cond.fieldLink own index "jdk/internal/util/Preconditions" "SIOOBE_FORMATTER" "Ljava/util/function/BiFunction;" ∈ Ts) (d : decode cc pc = .ok (.getstatic index, 3)) (kk : ∀ q : Option Nat, VS G p l e R s m args below meth c nL Qf sp k n S (pc + 3) lv (va_rf q :: st)) : VS G p l e R s m args below meth c nL Qf sp k n S pc lv st := by
  intro r hr H locs ls hP hD hS hl
  rcases (KO_of X).2.2.2.2.2.2.2.2.2.1 with h | ⟨t, h⟩
  · exact va_gets X.1 X.2.1 h hS X.2.2.2.1 (X.2.2.2.2.1 _ hlink) (fun _ h => h) d (kk none r hr H locs ls hP hD hS hl)
  · exact va_gets X.1 X.2.1 h hS X.2.2.2.1 (X.2.2.2.2.1 _ hlink) (fun _ h => h) d (kk (some t) r hr H locs ls hP hD hS hl)
end SIO
def spJ0_checkIndex_df160 (p1 p2 : Int32) (S : Wo) : Option Wo := if p1 < 0 then none else if p1 < p2 then some S else none
theorem mtJ0_checkIndex_df160 {l : Launch} (hl0 : l.stackTraces = false) {G : Gt} (p1 : Int32) (p2 : Int32) {S : Wo} : ∀ rr, spJ0_checkIndex_df160 p1 p2 S = some rr → MV l yJ0_checkIndex_df160 wsJ0_checkIndex_df160 { frames := 1, cells := 0, slots := 0, locals := 22 } G S [.int p1, .int p2] rr 0 0 := by
  refine MVF_of (cc := cJ0_checkIndex_df160) (own := RJ0) (maxL := 2) (ret := none) (sp := spJ0_checkIndex_df160 p1 p2 S) (by decide +kernel) rfl rfl (Nat.le_of_ble_eq_true rfl) ?_
  intro p e s m args below meth c X
  show VS G p l e _ s m args below meth c 2 _ _ 0 0 S 0 [(0, .int p1), (1, .int p2)] []
  refine vs_iload_n X dJ0_checkIndex_df160_0 0 rfl ?_
  refine vs_iload_n X dJ0_checkIndex_df160_1 1 rfl ?_
  refine vs_getsF X (by decide +kernel) dJ0_checkIndex_df160_2 (fun q => ?_)
  refine vs_eq (sp' := (if p1 < 0 then none else if p1 < p2 then some p1 else none).bind (fun _ => some S)) (by unfold spJ0_checkIndex_df160; split <;> (try split) <;> rfl) ?_
  refine vs_callSp X (As := [.int p1, .int p2, va_rf q]) (st' := []) (mtJ3_checkIndex_8e157 p1 p2 q) (va_cwS 3 X.2.2.2.2.1 gJ0_checkIndex_df160_J3_checkIndex_8e157 rfl rfl rfl (by decide +kernel) ⟨Nat.le_of_ble_eq_true rfl, Nat.le_of_ble_eq_true rfl⟩) rfl (Nat.le_of_ble_eq_true rfl) dJ0_checkIndex_df160_5 ⟨Nat.le_of_ble_eq_true rfl, Nat.le_of_ble_eq_true rfl⟩ (fun x hx => ?_)
  refine vs_pop X dJ0_checkIndex_df160_8 rfl ?_
  exact vs_vret X dJ0_checkIndex_df160_9 (by decide) (by decide)
section CHKI
variable {ρ : Type} {G : Gt} {p : Program} {l : Launch} {e : Env} {R : Room} {s : State} {m : MethodId} {args : Array Value} {below : List Frame} {meth : Method} {c : Code} {nL : Nat} {Qf : ρ → State → Prop} {sp A B : Option ρ} {k n : Nat} {S : Wo} {pc : Nat} {lv lv' : List (Nat × Value)} {st st' : List Value} {own : String} {Ts : List Cond} {cc : ByteArray} {rt : Option FieldType} {index : Nat}
theorem vs_checkIndex {a b : Int32} (X : Cx G p s m args meth c own Ts cc nL rt) (hl0 : l.stackTraces = false) (cw : CallB R s args own index yJ0_checkIndex_df160 cJ0_checkIndex_df160 2 none wsJ0_checkIndex_df160 { frames := 1, cells := 0, slots := 0, locals := 22 } 0 0 2 ∧ (Cond.static yJ0_checkIndex_df160).before args s = true) (hsz : (st.map fun v => v.category).sum ≤ 8) (d : decode cc pc = .ok (.invokestatic index, 3)) (hf : k + 0 ≤ R.cells ∧ n + 0 ≤ R.slots) (kk : VS G p l e R s m args below meth c nL Qf A k n S (pc + 3) lv st) : VS G p l e R s m args below meth c nL Qf (if a < 0 then none else if a < b then A else none) k n S pc lv (.int b :: .int a :: st) := by
  intro r hr
  by_cases h1 : a < 0
  · rw [if_pos h1] at hr; cases hr
  · rw [if_neg h1] at hr
    by_cases h2 : a < b
    · rw [if_pos h2] at hr
      exact vs_callSv (spc := some S) (f := fun _ => A) X (As := [.int a, .int b]) (st' := st) (fun rr hrr => mtJ0_checkIndex_df160 hl0 a b rr (by rw [spJ0_checkIndex_df160, if_neg h1, if_pos h2]; exact hrr)) cw rfl hsz d hf (fun S1 h => by cases h; exact kk) r hr
    · rw [if_neg h2] at hr; cases hr
end CHKI
section NULLS
variable {ρ : Type} {G : Gt} {p : Program} {l : Launch} {e : Env} {R : Room} {s : State} {m : MethodId} {args : Array Value} {below : List Frame} {meth : Method} {c : Code} {nL : Nat} {Qf : ρ → State → Prop} {sp : Option ρ} {k n : Nat} {S : Wo} {pc : Nat} {lv lv' : List (Nat × Value)} {st : List Value} {own : String} {Ts : List Cond} {cc : ByteArray} {rt : Option FieldType}
theorem vs_astore_nN {i : Fin 4} (X : Cx G p s m args meth c own Ts cc nL rt) (d : decode cc pc = .ok (.astore_n i, 1)) (hn : (i : Nat) < nL) (h : lvs lv (i : Nat) .null = lv') (kk : VS G p l e R s m args below meth c nL Qf sp k n S (pc + 1) lv' st) : VS G p l e R s m args below meth c nL Qf sp k n S pc lv (.null :: st) := fun r hr H locs ls hP hD hS hl => lv_astore_nN X.1 X.2.1 d rfl hl hn h (fun ls' hl' => kk r hr H locs ls' hP hD hS hl')
theorem vs_aload_nN {i : Fin 4} (X : Cx G p s m args meth c own Ts cc nL rt) (d : decode cc pc = .ok (.aload_n i, 1)) (j : Nat) (h : lv[j]? = some ((i : Nat), .null)) (kk : VS G p l e R s m args below meth c nL Qf sp k n S (pc + 1) lv (.null :: st)) : VS G p l e R s m args below meth c nL Qf sp k n S pc lv st := fun r hr H locs ls hP hD hS hl => lv_aload_nN X.1 X.2.1 d rfl (lv_at hl j h) (kk r hr H locs ls hP hD hS hl)
end NULLS
def spJ0_coder_7d493 (t : Nat) (S : Wo) : Option (Int32) :=
  rb 0 some
set_option maxHeartbeats 4000000 in
set_option maxRecDepth 100000 in
theorem mtJ0_coder_7d493 {l : Launch} (hl0 : l.stackTraces = false) {G : Gt} {t : Nat} (ht : t < 24) {S : Wo} : ∀ x, spJ0_coder_7d493 t S = some x → MI l yJ0_coder_7d493 wsJ0_coder_7d493 { frames := 0, cells := 0, slots := 0, locals := 0 } G S [.ref (sad G t)] (x, S) 0 0 := by
  refine MIpF_of (cc := cJ0_coder_7d493) (own := RJ0) (maxL := 1) (ret := (some .byte)) (sp := spJ0_coder_7d493 t S) (by decide +kernel) rfl rfl (Nat.le_of_ble_eq_true rfl) ?_
  intro p e s m args below meth c X
  show VS G p l e _ s m args below meth c 1 _ _ 0 0 S 0 [(0, .ref (sad G t))] []
  unfold spJ0_coder_7d493
  refine vs_getsC X (by decide +kernel) dJ0_coder_7d493_0 ?_
  refine vs_eq (if_neg (c := ((1 : Int32) = 0 : Prop)) (t := none) (by decide)).symm (vs_if_eq X (tgt := 13) dJ0_coder_7d493_3 (by decide) (fun h => absurd h (by decide)) (fun _ => ?_))
  refine vs_aload_n X dJ0_coder_7d493_6 0 rfl ?_
  refine vs_strC X ht (by decide +kernel) dJ0_coder_7d493_7 ?_
  refine vs_goto X (tgt := 14) dJ0_coder_7d493_10 (by decide) ?_
  exact vs_bretp X dJ0_coder_7d493_14 (by decide) (by decide)

def spJ0_isLatin1_aae02 (t : Nat) (S : Wo) : Option (Int32) :=
  rz 1 some
set_option maxHeartbeats 4000000 in
set_option maxRecDepth 100000 in
theorem mtJ0_isLatin1_aae02 {l : Launch} (hl0 : l.stackTraces = false) {G : Gt} {t : Nat} (ht : t < 24) {S : Wo} : ∀ x, spJ0_isLatin1_aae02 t S = some x → MI l yJ0_isLatin1_aae02 wsJ0_isLatin1_aae02 { frames := 0, cells := 0, slots := 0, locals := 0 } G S [.ref (sad G t)] (x, S) 0 0 := by
  refine MIpF_of (cc := cJ0_isLatin1_aae02) (own := RJ0) (maxL := 1) (ret := (some .boolean)) (sp := spJ0_isLatin1_aae02 t S) (by decide +kernel) rfl rfl (Nat.le_of_ble_eq_true rfl) ?_
  intro p e s m args below meth c X
  show VS G p l e _ s m args below meth c 1 _ _ 0 0 S 0 [(0, .ref (sad G t))] []
  unfold spJ0_isLatin1_aae02
  refine vs_getsC X (by decide +kernel) dJ0_isLatin1_aae02_0 ?_
  refine vs_eq (if_neg (c := ((1 : Int32) = 0 : Prop)) (t := none) (by decide)).symm (vs_if_eq X (tgt := 17) dJ0_isLatin1_aae02_3 (by decide) (fun h => absurd h (by decide)) (fun _ => ?_))
  refine vs_aload_n X dJ0_isLatin1_aae02_6 0 rfl ?_
  refine vs_strC X ht (by decide +kernel) dJ0_isLatin1_aae02_7 ?_
  refine vs_eq (if_pos (c := ((0 : Int32) = 0 : Prop)) (e := none) (by decide)).symm (vs_if_ne X (tgt := 17) dJ0_isLatin1_aae02_10 (by decide) (fun _ => ?_) (fun h => absurd (by decide) h))
  refine vs_iconst X (v := 1) dJ0_isLatin1_aae02_13 (by decide) ?_
  refine vs_goto X (tgt := 18) dJ0_isLatin1_aae02_14 (by decide) ?_
  exact vs_zretp X dJ0_isLatin1_aae02_18 (by decide) (by decide)

def spJ0_length_8abf5 (t : Nat) (S : Wo) : Option (Int32) :=
  (spJ0_coder_7d493 t S).bind (fun x1 => some ((Int32.ofNat (bytL.getD t []).length) >>> (x1 &&& 31)))
set_option maxHeartbeats 4000000 in
set_option maxRecDepth 100000 in
theorem mtJ0_length_8abf5 {l : Launch} (hl0 : l.stackTraces = false) {G : Gt} {t : Nat} (ht : t < 24) {S : Wo} : ∀ x, spJ0_length_8abf5 t S = some x → MI l yJ0_length_8abf5 wsJ0_length_8abf5 { frames := 1, cells := 0, slots := 0, locals := 20 } G S [.ref (sad G t)] (x, S) 0 0 := by
  refine MIpF_of (cc := cJ0_length_8abf5) (own := RJ0) (maxL := 1) (ret := (some .int)) (sp := spJ0_length_8abf5 t S) (by decide +kernel) rfl rfl (Nat.le_of_ble_eq_true rfl) ?_
  intro p e s m args below meth c X
  show VS G p l e _ s m args below meth c 1 _ _ 0 0 S 0 [(0, .ref (sad G t))] []
  unfold spJ0_length_8abf5
  refine vs_aload_n X dJ0_length_8abf5_0 0 rfl ?_
  refine vs_strV X ht (by decide +kernel) dJ0_length_8abf5_1 ?_
  refine vs_strL X ht dJ0_length_8abf5_4 ?_
  refine vs_aload_n X dJ0_length_8abf5_5 0 rfl ?_
  refine vs_callTp X  (As := []) (st' := [.int (Int32.ofNat (bytL.getD t []).length)]) ht (mtJ0_coder_7d493 hl0 ht) (cwV 0 X.2.2.2.2.1 gJ0_length_8abf5_J0_coder_7d493 rfl rfl rfl (by decide +kernel) ⟨Nat.le_of_ble_eq_true rfl, Nat.le_of_ble_eq_true rfl⟩) rfl (Nat.le_of_ble_eq_true rfl) dJ0_length_8abf5_6 ⟨Nat.le_of_ble_eq_true rfl, Nat.le_of_ble_eq_true rfl⟩ (fun x1 hx1 => ?_)
  refine vs_ishr X dJ0_length_8abf5_9 ?_
  exact vs_iretp X dJ0_length_8abf5_10 (by decide) (by decide)

def spJ1_charAt_3b067 (t1 : Nat) (p2 : Int32) (S : Wo) : Option (Int32) :=
  (if p2 < 0 then none else if p2 < (Int32.ofNat (bytL.getD t1 []).length) then (if inb p2 (bytL.getD t1 []).length = true then rcc ((((((bytL.getD t1 []).getD (ix p2) 0) &&& 255) : Int32).toUInt32 % 65536).toInt32) some else none) else none)
set_option maxHeartbeats 4000000 in
set_option maxRecDepth 100000 in
theorem mtJ1_charAt_3b067 {l : Launch} (hl0 : l.stackTraces = false) {G : Gt} {t1 : Nat} (ht1 : t1 < 24) (p2 : Int32) {S : Wo} : ∀ x, spJ1_charAt_3b067 t1 p2 S = some x → MI l yJ1_charAt_3b067 wsJ1_charAt_3b067 { frames := 2, cells := 0, slots := 0, locals := 43 } G S [.ref (vad G t1), .int p2] (x, S) 0 0 := by
  refine MIpF_of (cc := cJ1_charAt_3b067) (own := RJ1) (maxL := 2) (ret := (some .char)) (sp := spJ1_charAt_3b067 t1 p2 S) (by decide +kernel) rfl rfl (Nat.le_of_ble_eq_true rfl) ?_
  intro p e s m args below meth c X
  show VS G p l e _ s m args below meth c 2 _ _ 0 0 S 0 [(0, .ref (vad G t1)), (1, .int p2)] []
  unfold spJ1_charAt_3b067
  refine vs_iload_n X dJ1_charAt_3b067_0 1 rfl ?_
  refine vs_aload_n X dJ1_charAt_3b067_1 0 rfl ?_
  refine vs_strL X ht1 dJ1_charAt_3b067_2 ?_
  refine vs_checkIndex X hl0 (va_cwS 2 X.2.2.2.2.1 gJ1_charAt_3b067_J0_checkIndex_df160 rfl rfl rfl (by decide +kernel) ⟨Nat.le_of_ble_eq_true rfl, Nat.le_of_ble_eq_true rfl⟩) (Nat.le_of_ble_eq_true rfl) dJ1_charAt_3b067_3 ⟨Nat.le_of_ble_eq_true rfl, Nat.le_of_ble_eq_true rfl⟩ ?_
  refine vs_aload_n X dJ1_charAt_3b067_6 0 rfl ?_
  refine vs_iload_n X dJ1_charAt_3b067_7 1 rfl ?_
  refine vs_strB X ht1 dJ1_charAt_3b067_8 ?_
  refine vs_sipush X (v := 255) dJ1_charAt_3b067_9 (by decide) ?_
  refine vs_iand X dJ1_charAt_3b067_12 ?_
  refine vs_i2c X (v := ((((((bytL.getD t1 []).getD (ix p2) 0) &&& 255) : Int32).toUInt32 % 65536).toInt32)) dJ1_charAt_3b067_13 rfl ?_
  exact vs_cretp X dJ1_charAt_3b067_14 (by decide) (by decide)

def spJ0_charAt_5068e (t : Nat) (p1 : Int32) (S : Wo) : Option (Int32) :=
  (spJ0_isLatin1_aae02 t S).bind (fun x1 => (if x1 = 0 then none else (spJ1_charAt_3b067 t p1 S).bind (fun x2 => rcc x2 some)))
set_option maxHeartbeats 4000000 in
set_option maxRecDepth 100000 in
theorem mtJ0_charAt_5068e {l : Launch} (hl0 : l.stackTraces = false) {G : Gt} {t : Nat} (ht : t < 24) (p1 : Int32) {S : Wo} : ∀ x, spJ0_charAt_5068e t p1 S = some x → MI l yJ0_charAt_5068e wsJ0_charAt_5068e { frames := 3, cells := 0, slots := 0, locals := 64 } G S [.ref (sad G t), .int p1] (x, S) 0 0 := by
  refine MIpF_of (cc := cJ0_charAt_5068e) (own := RJ0) (maxL := 2) (ret := (some .char)) (sp := spJ0_charAt_5068e t p1 S) (by decide +kernel) rfl rfl (Nat.le_of_ble_eq_true rfl) ?_
  intro p e s m args below meth c X
  show VS G p l e _ s m args below meth c 2 _ _ 0 0 S 0 [(0, .ref (sad G t)), (1, .int p1)] []
  unfold spJ0_charAt_5068e
  refine vs_aload_n X dJ0_charAt_5068e_0 0 rfl ?_
  refine vs_callTp X  (As := []) (st' := []) ht (mtJ0_isLatin1_aae02 hl0 ht) (cwV 0 X.2.2.2.2.1 gJ0_charAt_5068e_J0_isLatin1_aae02 rfl rfl rfl (by decide +kernel) ⟨Nat.le_of_ble_eq_true rfl, Nat.le_of_ble_eq_true rfl⟩) rfl (Nat.le_of_ble_eq_true rfl) dJ0_charAt_5068e_1 ⟨Nat.le_of_ble_eq_true rfl, Nat.le_of_ble_eq_true rfl⟩ (fun x1 hx1 => ?_)
  refine vs_if_eq X (tgt := 16) dJ0_charAt_5068e_4 (by decide) (fun _ => ?_) (fun _ => ?_)
  · refine vs_aload_n X dJ0_charAt_5068e_16 0 rfl ?_
    refine vs_strV X ht (by decide +kernel) dJ0_charAt_5068e_17 ?_
    refine vs_iload_n X dJ0_charAt_5068e_20 1 rfl ?_
    exact vs_none rfl
  · refine vs_aload_n X dJ0_charAt_5068e_7 0 rfl ?_
    refine vs_strV X ht (by decide +kernel) dJ0_charAt_5068e_8 ?_
    refine vs_iload_n X dJ0_charAt_5068e_11 1 rfl ?_
    refine vs_callSp X  (As := [.ref (vad G t), .int p1]) (st' := []) (mtJ1_charAt_3b067 hl0 ht p1) (va_cwS 2 X.2.2.2.2.1 gJ0_charAt_5068e_J1_charAt_3b067 rfl rfl rfl (by decide +kernel) ⟨Nat.le_of_ble_eq_true rfl, Nat.le_of_ble_eq_true rfl⟩) rfl (Nat.le_of_ble_eq_true rfl) dJ0_charAt_5068e_12 ⟨Nat.le_of_ble_eq_true rfl, Nat.le_of_ble_eq_true rfl⟩ (fun x2 hx2 => ?_)
    exact vs_cretp X dJ0_charAt_5068e_15 (by decide) (by decide)

def spJ5_isLatin1_aae02  (S : Wo) : Option (Int32) :=
  (if S.1 164 1 = 0 then rz 1 some else rz 0 some)
set_option maxHeartbeats 4000000 in
set_option maxRecDepth 100000 in
theorem mtJ5_isLatin1_aae02 {l : Launch} (hl0 : l.stackTraces = false) {G : Gt}  {S : Wo} : ∀ x, spJ5_isLatin1_aae02  S = some x → MI l yJ5_isLatin1_aae02 wsJ5_isLatin1_aae02 { frames := 0, cells := 0, slots := 0, locals := 0 } G S [rf G 164] (x, S) 0 0 := by
  refine MIpF_of (cc := cJ5_isLatin1_aae02) (own := RJ5) (maxL := 1) (ret := (some .boolean)) (sp := spJ5_isLatin1_aae02  S) (by decide +kernel) rfl rfl (Nat.le_of_ble_eq_true rfl) ?_
  intro p e s m args below meth c X
  have hinJ4 : ∀ w ∈ wsJ40, w ∈ wsJ5_isLatin1_aae02 := by decide +kernel
  show VS G p l e _ s m args below meth c 1 _ _ 0 0 S 0 [(0, rf G 164)] []
  unfold spJ5_isLatin1_aae02
  refine vs_getsC X (by decide +kernel) dJ5_isLatin1_aae02_0 ?_
  refine vs_eq (if_neg (c := ((1 : Int32) = 0 : Prop)) (t := none) (by decide)).symm (vs_if_eq X (tgt := 17) dJ5_isLatin1_aae02_3 (by decide) (fun h => absurd h (by decide)) (fun _ => ?_))
  refine vs_aload_n X dJ5_isLatin1_aae02_6 0 rfl ?_
  refine g_Sb X hinJ4 1 (by decide) (by decide +kernel) rfl rfl dJ5_isLatin1_aae02_7 ?_
  refine vs_if_ne X (tgt := 17) dJ5_isLatin1_aae02_10 (by decide) (fun _ => ?_) (fun _ => ?_)
  · refine vs_iconst X (v := 1) dJ5_isLatin1_aae02_13 (by decide) ?_
    refine vs_goto X (tgt := 18) dJ5_isLatin1_aae02_14 (by decide) ?_
    exact vs_zretp X dJ5_isLatin1_aae02_18 (by decide) (by decide)
  · refine vs_iconst X (v := 0) dJ5_isLatin1_aae02_17 (by decide) ?_
    exact vs_zretp X dJ5_isLatin1_aae02_18 (by decide) (by decide)

def spJ5_length_8abf5  (S : Wo) : Option (Int32) :=
  some (S.1 164 3)
set_option maxHeartbeats 4000000 in
set_option maxRecDepth 100000 in
theorem mtJ5_length_8abf5 {l : Launch} (hl0 : l.stackTraces = false) {G : Gt}  {S : Wo} : ∀ x, spJ5_length_8abf5  S = some x → MI l yJ5_length_8abf5 wsJ5_length_8abf5 { frames := 0, cells := 0, slots := 0, locals := 0 } G S [rf G 164] (x, S) 0 0 := by
  refine MIpF_of (cc := cJ5_length_8abf5) (own := RJ5) (maxL := 1) (ret := (some .int)) (sp := spJ5_length_8abf5  S) (by decide +kernel) rfl rfl (Nat.le_of_ble_eq_true rfl) ?_
  intro p e s m args below meth c X
  have hinJ4 : ∀ w ∈ wsJ40, w ∈ wsJ5_length_8abf5 := by decide +kernel
  show VS G p l e _ s m args below meth c 1 _ _ 0 0 S 0 [(0, rf G 164)] []
  unfold spJ5_length_8abf5
  refine vs_aload_n X dJ5_length_8abf5_0 0 rfl ?_
  refine g_Sb X hinJ4 3 (by decide) (by decide +kernel) rfl rfl dJ5_length_8abf5_1 ?_
  exact vs_iretp X dJ5_length_8abf5_4 (by decide) (by decide)

def spJ1_canEncode_fc78d (p1 : Int32) (S : Wo) : Option (Int32) :=
  (if (255 : Int32) < p1 then rz 0 some else rz 1 some)
set_option maxHeartbeats 4000000 in
set_option maxRecDepth 100000 in
theorem mtJ1_canEncode_fc78d {l : Launch} (hl0 : l.stackTraces = false) {G : Gt} (p1 : Int32) {S : Wo} : ∀ x, spJ1_canEncode_fc78d p1 S = some x → MI l yJ1_canEncode_fc78d wsJ1_canEncode_fc78d { frames := 0, cells := 0, slots := 0, locals := 0 } G S [.int p1] (x, S) 0 0 := by
  refine MIpF_of (cc := cJ1_canEncode_fc78d) (own := RJ1) (maxL := 1) (ret := (some .boolean)) (sp := spJ1_canEncode_fc78d p1 S) (by decide +kernel) rfl rfl (Nat.le_of_ble_eq_true rfl) ?_
  intro p e s m args below meth c X
  show VS G p l e _ s m args below meth c 1 _ _ 0 0 S 0 [(0, .int p1)] []
  unfold spJ1_canEncode_fc78d
  refine vs_iload_n X dJ1_canEncode_fc78d_0 0 rfl ?_
  refine vs_sipush X (v := 255) dJ1_canEncode_fc78d_1 (by decide) ?_
  refine vs_icmp_gt X (tgt := 11) dJ1_canEncode_fc78d_4 (by decide) (fun _ => ?_) (fun _ => ?_)
  · refine vs_iconst X (v := 0) dJ1_canEncode_fc78d_11 (by decide) ?_
    exact vs_zretp X dJ1_canEncode_fc78d_12 (by decide) (by decide)
  · refine vs_iconst X (v := 1) dJ1_canEncode_fc78d_7 (by decide) ?_
    refine vs_goto X (tgt := 12) dJ1_canEncode_fc78d_8 (by decide) ?_
    exact vs_zretp X dJ1_canEncode_fc78d_12 (by decide) (by decide)

def spJ8_newLength_cabcc (p1 : Int32) (p2 : Int32) (p3 : Int32) (S : Wo) : Option (Int32) :=
  (if (p1 + (if p2 < p3 then p3 else p2)) ≤ 0 then none else (if (2147483639 : Int32) < (p1 + (if p2 < p3 then p3 else p2)) then none else some (p1 + (if p2 < p3 then p3 else p2))))
set_option maxHeartbeats 4000000 in
set_option maxRecDepth 100000 in
theorem mtJ8_newLength_cabcc {l : Launch} (hl0 : l.stackTraces = false) {G : Gt} (p1 : Int32) (p2 : Int32) (p3 : Int32) {S : Wo} : ∀ x, spJ8_newLength_cabcc p1 p2 p3 S = some x → MI l yJ8_newLength_cabcc wsJ8_newLength_cabcc { frames := 1, cells := 0, slots := 0, locals := 15 } G S [.int p1, .int p2, .int p3] (x, S) 0 0 := by
  refine MIpF_of (cc := cJ8_newLength_cabcc) (own := RJ8) (maxL := 4) (ret := (some .int)) (sp := spJ8_newLength_cabcc p1 p2 p3 S) (by decide +kernel) rfl rfl (Nat.le_of_ble_eq_true rfl) ?_
  intro p e s m args below meth c X
  show VS G p l e _ s m args below meth c 4 _ _ 0 0 S 0 [(0, .int p1), (1, .int p2), (2, .int p3)] []
  unfold spJ8_newLength_cabcc
  refine vs_iload_n X dJ8_newLength_cabcc_0 0 rfl ?_
  refine vs_iload_n X dJ8_newLength_cabcc_1 1 rfl ?_
  refine vs_iload_n X dJ8_newLength_cabcc_2 2 rfl ?_
  refine vs_mmax X (by decide +kernel) (by decide +kernel) (by decide +kernel) (by decide +kernel) (Nat.le_of_ble_eq_true rfl) (Nat.le_of_ble_eq_true rfl) (Nat.le_of_ble_eq_true rfl) (Nat.le_of_ble_eq_true rfl) dJ8_newLength_cabcc_3 ?_
  refine vs_iadd X dJ8_newLength_cabcc_6 ?_
  refine vs_istore_n X (lv' := [(3, .int (p1 + (if p2 < p3 then p3 else p2))), (0, .int p1), (1, .int p2), (2, .int p3)]) dJ8_newLength_cabcc_7 (by decide) rfl ?_
  refine vs_iconst X (v := 0) dJ8_newLength_cabcc_8 (by decide) ?_
  refine vs_iload_n X dJ8_newLength_cabcc_9 0 rfl ?_
  refine vs_icmp_ge X (tgt := 21) dJ8_newLength_cabcc_10 (by decide) (fun _ => ?_) (fun _ => ?_)
  · refine vs_iload_n X dJ8_newLength_cabcc_21 1 rfl ?_
    refine vs_iload_n X dJ8_newLength_cabcc_22 2 rfl ?_
    exact vs_none rfl
  · refine vs_iload_n X dJ8_newLength_cabcc_13 0 rfl ?_
    refine vs_ldc X (i := 2147483639) (by decide +kernel) dJ8_newLength_cabcc_14 ?_
    refine vs_icmp_gt X (tgt := 21) dJ8_newLength_cabcc_16 (by decide) (fun _ => ?_) (fun _ => ?_)
    · refine vs_iload_n X dJ8_newLength_cabcc_21 1 rfl ?_
      refine vs_iload_n X dJ8_newLength_cabcc_22 2 rfl ?_
      exact vs_none rfl
    · refine vs_iload_n X dJ8_newLength_cabcc_19 0 rfl ?_
      exact vs_iretp X dJ8_newLength_cabcc_20 (by decide) (by decide)

def spJ5_newCapacity_0f7a4 (p1 : Int32) (S : Wo) : Option (Int32) :=
  (if S.2.2.1.2.1 = S.2.2.1.2.1 then nm ((p1 <<< (S.1 164 1 &&& 31)) - (Int32.ofNat S.2.2.1.2.2)) (fun y1 => (spJ8_newLength_cabcc (Int32.ofNat S.2.2.1.2.2) y1 ((Int32.ofNat S.2.2.1.2.2) + (2 <<< (S.1 164 1 &&& 31))) S).bind (fun x2 => (if x2 = 2147483647 then none else some (x2 >>> (S.1 164 1 &&& 31))))) else none)
set_option maxHeartbeats 4000000 in
set_option maxRecDepth 100000 in
theorem mtJ5_newCapacity_0f7a4 {l : Launch} (hl0 : l.stackTraces = false) {G : Gt} (p1 : Int32) {S : Wo} : ∀ x, spJ5_newCapacity_0f7a4 p1 S = some x → MI l yJ5_newCapacity_0f7a4 wsJ5_newCapacity_0f7a4 { frames := 2, cells := 0, slots := 0, locals := 38 } G S [rf G 164, .int p1] (x, S) 0 0 := by
  refine MIpF_of (cc := cJ5_newCapacity_0f7a4) (own := RJ5) (maxL := 6) (ret := (some .int)) (sp := spJ5_newCapacity_0f7a4 p1 S) (by decide +kernel) rfl rfl (Nat.le_of_ble_eq_true rfl) ?_
  intro p e s m args below meth c X
  have hinJ4 : ∀ w ∈ wsJ40, w ∈ wsJ5_newCapacity_0f7a4 := by decide +kernel
  show VS G p l e _ s m args below meth c 6 _ _ 0 0 S 0 [(0, rf G 164), (1, .int p1)] []
  unfold spJ5_newCapacity_0f7a4
  refine vs_aload_n X dJ5_newCapacity_0f7a4_0 0 rfl ?_
  refine g_Sb X hinJ4 0 (by decide) (by decide +kernel) rfl rfl dJ5_newCapacity_0f7a4_1 ?_
  refine vs_blen X dJ5_newCapacity_0f7a4_4 ?_
  refine vs_istore_n X (lv' := [(2, .int (Int32.ofNat S.2.2.1.2.2)), (0, rf G 164), (1, .int p1)]) dJ5_newCapacity_0f7a4_5 (by decide) rfl ?_
  refine vs_iload_n X dJ5_newCapacity_0f7a4_6 2 rfl ?_
  refine vs_aload_n X dJ5_newCapacity_0f7a4_7 1 rfl ?_
  refine g_Sb X hinJ4 1 (by decide) (by decide +kernel) rfl rfl dJ5_newCapacity_0f7a4_8 ?_
  refine vs_ishl X dJ5_newCapacity_0f7a4_11 ?_
  refine vs_istore_n X (lv' := [(3, .int (p1 <<< (S.1 164 1 &&& 31))), (2, .int (Int32.ofNat S.2.2.1.2.2)), (0, rf G 164), (1, .int p1)]) dJ5_newCapacity_0f7a4_12 (by decide) rfl ?_
  refine vs_iload_n X dJ5_newCapacity_0f7a4_13 0 rfl ?_
  refine vs_iload_n X dJ5_newCapacity_0f7a4_14 1 rfl ?_
  refine vs_isub X dJ5_newCapacity_0f7a4_15 ?_
  refine vs_nm (fun y1 hy1 => ?_)
  refine vs_istore X (lv' := [(4, .int y1), (3, .int (p1 <<< (S.1 164 1 &&& 31))), (2, .int (Int32.ofNat S.2.2.1.2.2)), (0, rf G 164), (1, .int p1)]) dJ5_newCapacity_0f7a4_16 (by decide) rfl ?_
  refine vs_iload_n X dJ5_newCapacity_0f7a4_18 2 rfl ?_
  refine vs_iload X dJ5_newCapacity_0f7a4_19 0 rfl ?_
  refine vs_iload_n X dJ5_newCapacity_0f7a4_21 2 rfl ?_
  refine vs_iconst X (v := 2) dJ5_newCapacity_0f7a4_22 (by decide) ?_
  refine vs_aload_n X dJ5_newCapacity_0f7a4_23 3 rfl ?_
  refine g_Sb X hinJ4 1 (by decide) (by decide +kernel) rfl rfl dJ5_newCapacity_0f7a4_24 ?_
  refine vs_ishl X dJ5_newCapacity_0f7a4_27 ?_
  refine vs_iadd X dJ5_newCapacity_0f7a4_28 ?_
  refine vs_callSp X  (As := [.int (Int32.ofNat S.2.2.1.2.2), .int y1, .int ((Int32.ofNat S.2.2.1.2.2) + (2 <<< (S.1 164 1 &&& 31)))]) (st' := []) (mtJ8_newLength_cabcc hl0 (Int32.ofNat S.2.2.1.2.2) y1 ((Int32.ofNat S.2.2.1.2.2) + (2 <<< (S.1 164 1 &&& 31)))) (va_cwS 3 X.2.2.2.2.1 gJ5_newCapacity_0f7a4_J8_newLength_cabcc rfl rfl rfl (by decide +kernel) ⟨Nat.le_of_ble_eq_true rfl, Nat.le_of_ble_eq_true rfl⟩) rfl (Nat.le_of_ble_eq_true rfl) dJ5_newCapacity_0f7a4_29 ⟨Nat.le_of_ble_eq_true rfl, Nat.le_of_ble_eq_true rfl⟩ (fun x2 hx2 => ?_)
  refine vs_istore X (lv' := [(5, .int x2), (4, .int y1), (3, .int (p1 <<< (S.1 164 1 &&& 31))), (2, .int (Int32.ofNat S.2.2.1.2.2)), (0, rf G 164), (1, .int p1)]) dJ5_newCapacity_0f7a4_32 (by decide) rfl ?_
  refine vs_iload X dJ5_newCapacity_0f7a4_34 0 rfl ?_
  refine vs_ldc X (i := 2147483647) (by decide +kernel) dJ5_newCapacity_0f7a4_36 ?_
  refine vs_icmp_ne X (tgt := 51) dJ5_newCapacity_0f7a4_38 (by decide) (fun _ => ?_) (fun _ => ?_)
  · exact vs_none rfl
  · refine vs_iload X dJ5_newCapacity_0f7a4_51 0 rfl ?_
    refine vs_aload_n X dJ5_newCapacity_0f7a4_53 4 rfl ?_
    refine g_Sb X hinJ4 1 (by decide) (by decide +kernel) rfl rfl dJ5_newCapacity_0f7a4_54 ?_
    refine vs_ishr X dJ5_newCapacity_0f7a4_57 ?_
    exact vs_iretp X dJ5_newCapacity_0f7a4_58 (by decide) (by decide)

def spJ5_ensureCapacityInternal_d00df (p1 : Int32) (S : Wo) : Option (Wo) :=
  (if S.2.2.1.2.1 = S.2.2.1.2.1 then nm ((Int32.ofNat S.2.2.1.2.2) >>> (S.1 164 1 &&& 31)) (fun y1 => (if (p1 - y1) ≤ 0 then some S else none)) else none)
set_option maxHeartbeats 4000000 in
set_option maxRecDepth 100000 in
theorem mtJ5_ensureCapacityInternal_d00df {l : Launch} (hl0 : l.stackTraces = false) {G : Gt} (p1 : Int32) {S : Wo} : ∀ rr, spJ5_ensureCapacityInternal_d00df p1 S = some rr → MV l yJ5_ensureCapacityInternal_d00df wsJ5_ensureCapacityInternal_d00df { frames := 0, cells := 0, slots := 0, locals := 0 } G S [rf G 164, .int p1] rr 0 0 := by
  refine MVF_of (cc := cJ5_ensureCapacityInternal_d00df) (own := RJ5) (maxL := 3) (ret := none) (sp := spJ5_ensureCapacityInternal_d00df p1 S) (by decide +kernel) rfl rfl (Nat.le_of_ble_eq_true rfl) ?_
  intro p e s m args below meth c X
  have hinJ4 : ∀ w ∈ wsJ40, w ∈ wsJ5_ensureCapacityInternal_d00df := by decide +kernel
  show VS G p l e _ s m args below meth c 3 _ _ 0 0 S 0 [(0, rf G 164), (1, .int p1)] []
  unfold spJ5_ensureCapacityInternal_d00df
  refine vs_aload_n X dJ5_ensureCapacityInternal_d00df_0 0 rfl ?_
  refine g_Sb X hinJ4 0 (by decide) (by decide +kernel) rfl rfl dJ5_ensureCapacityInternal_d00df_1 ?_
  refine vs_blen X dJ5_ensureCapacityInternal_d00df_4 ?_
  refine vs_aload_n X dJ5_ensureCapacityInternal_d00df_5 0 rfl ?_
  refine g_Sb X hinJ4 1 (by decide) (by decide +kernel) rfl rfl dJ5_ensureCapacityInternal_d00df_6 ?_
  refine vs_ishr X dJ5_ensureCapacityInternal_d00df_9 ?_
  refine vs_nm (fun y1 hy1 => ?_)
  refine vs_istore_n X (lv' := [(2, .int y1), (0, rf G 164), (1, .int p1)]) dJ5_ensureCapacityInternal_d00df_10 (by decide) rfl ?_
  refine vs_iload_n X dJ5_ensureCapacityInternal_d00df_11 2 rfl ?_
  refine vs_iload_n X dJ5_ensureCapacityInternal_d00df_12 0 rfl ?_
  refine vs_isub X dJ5_ensureCapacityInternal_d00df_13 ?_
  refine vs_if_le X (tgt := 38) dJ5_ensureCapacityInternal_d00df_14 (by decide) (fun _ => ?_) (fun _ => ?_)
  · exact vs_vret X dJ5_ensureCapacityInternal_d00df_38 (by decide) (by decide)
  · refine vs_aload_n X dJ5_ensureCapacityInternal_d00df_17 1 rfl ?_
    refine vs_aload_n X dJ5_ensureCapacityInternal_d00df_18 1 rfl ?_
    refine g_Sb X hinJ4 0 (by decide) (by decide +kernel) rfl rfl dJ5_ensureCapacityInternal_d00df_19 ?_
    refine vs_aload_n X dJ5_ensureCapacityInternal_d00df_22 1 rfl ?_
    refine vs_iload_n X dJ5_ensureCapacityInternal_d00df_23 2 rfl ?_
    exact vs_none rfl

def spJ5_setLength_d00df (p1 : Int32) (S : Wo) : Option (Wo) :=
  (if (0 : Int32) ≤ p1 then (spJ5_ensureCapacityInternal_d00df p1 S).bind (fun S1 => (if p1 ≤ S1.1 164 3 then (if S1.1 164 3 ≤ p1 then wr (pI S1 164 3 p1) (fun S2 => some S2) else wr (pI S1 164 2 1) (fun S3 => wr (pI S3 164 3 p1) (fun S4 => some S4))) else (spJ5_isLatin1_aae02  S1).bind (fun x5 => (if x5 = 0 then none else none)))) else none)
set_option maxHeartbeats 4000000 in
set_option maxRecDepth 100000 in
theorem mtJ5_setLength_d00df {l : Launch} (hl0 : l.stackTraces = false) {G : Gt} (p1 : Int32) {S : Wo} : ∀ rr, spJ5_setLength_d00df p1 S = some rr → MV l yJ5_setLength_d00df wsJ5_setLength_d00df { frames := 1, cells := 0, slots := 0, locals := 22 } G S [rf G 164, .int p1] rr 0 0 := by
  refine MVF_of (cc := cJ5_setLength_d00df) (own := RJ5) (maxL := 2) (ret := none) (sp := spJ5_setLength_d00df p1 S) (by decide +kernel) rfl rfl (Nat.le_of_ble_eq_true rfl) ?_
  intro p e s m args below meth c X
  have hinJ4 : ∀ w ∈ wsJ40, w ∈ wsJ5_setLength_d00df := by decide +kernel
  show VS G p l e _ s m args below meth c 2 _ _ 0 0 S 0 [(0, rf G 164), (1, .int p1)] []
  unfold spJ5_setLength_d00df
  refine vs_iload_n X dJ5_setLength_d00df_0 1 rfl ?_
  refine vs_if_ge X (tgt := 13) dJ5_setLength_d00df_1 (by decide) (fun _ => ?_) (fun _ => ?_)
  · refine vs_aload_n X dJ5_setLength_d00df_13 0 rfl ?_
    refine vs_iload_n X dJ5_setLength_d00df_14 1 rfl ?_
    refine vs_callUv_Sb X (As := [.int p1]) (st' := []) (mtJ5_ensureCapacityInternal_d00df hl0 p1) (va_cwU 1 X.2.2.2.2.1 gJ5_setLength_d00df_J5_ensureCapacityInternal_d00df_u100J4 rfl rfl rfl rfl (by decide +kernel) ⟨Nat.le_of_ble_eq_true rfl, Nat.le_of_ble_eq_true rfl⟩) rfl (Nat.le_of_ble_eq_true rfl) dJ5_setLength_d00df_15 ⟨Nat.le_of_ble_eq_true rfl, Nat.le_of_ble_eq_true rfl⟩ (fun S1 hS1 => ?_)
    refine vs_aload_n X dJ5_setLength_d00df_18 0 rfl ?_
    refine g_Sb X hinJ4 3 (by decide) (by decide +kernel) rfl rfl dJ5_setLength_d00df_19 ?_
    refine vs_iload_n X dJ5_setLength_d00df_22 1 rfl ?_
    refine vs_icmp_ge X (tgt := 63) dJ5_setLength_d00df_23 (by decide) (fun _ => ?_) (fun _ => ?_)
    · refine vs_aload_n X dJ5_setLength_d00df_63 0 rfl ?_
      refine g_Sb X hinJ4 3 (by decide) (by decide +kernel) rfl rfl dJ5_setLength_d00df_64 ?_
      refine vs_iload_n X dJ5_setLength_d00df_67 1 rfl ?_
      refine vs_icmp_le X (tgt := 76) dJ5_setLength_d00df_68 (by decide) (fun _ => ?_) (fun _ => ?_)
      · refine vs_aload_n X dJ5_setLength_d00df_76 0 rfl ?_
        refine vs_iload_n X dJ5_setLength_d00df_77 1 rfl ?_
        refine p_Sb X hinJ4 3 (by decide) (by decide +kernel) rfl rfl rfl rfl rfl rfl dJ5_setLength_d00df_78 (fun S2 hS2 => ?_)
        exact vs_vret X dJ5_setLength_d00df_81 (by decide) (by decide)
      · refine vs_aload_n X dJ5_setLength_d00df_71 0 rfl ?_
        refine vs_iconst X (v := 1) dJ5_setLength_d00df_72 (by decide) ?_
        refine p_Sb X hinJ4 2 (by decide) (by decide +kernel) rfl rfl rfl (by decide) (by decide) rfl dJ5_setLength_d00df_73 (fun S3 hS3 => ?_)
        refine vs_aload_n X dJ5_setLength_d00df_76 0 rfl ?_
        refine vs_iload_n X dJ5_setLength_d00df_77 1 rfl ?_
        refine p_Sb X hinJ4 3 (by decide) (by decide +kernel) rfl rfl rfl rfl rfl rfl dJ5_setLength_d00df_78 (fun S4 hS4 => ?_)
        exact vs_vret X dJ5_setLength_d00df_81 (by decide) (by decide)
    · refine vs_aload_n X dJ5_setLength_d00df_26 0 rfl ?_
      refine vs_callUp_Sb X (As := []) (st' := []) (mtJ5_isLatin1_aae02 hl0 ) (va_cwU 0 X.2.2.2.2.1 gJ5_setLength_d00df_J5_isLatin1_aae02_u83J4 rfl rfl rfl rfl (by decide +kernel) ⟨Nat.le_of_ble_eq_true rfl, Nat.le_of_ble_eq_true rfl⟩) rfl (Nat.le_of_ble_eq_true rfl) dJ5_setLength_d00df_27 ⟨Nat.le_of_ble_eq_true rfl, Nat.le_of_ble_eq_true rfl⟩ (fun x5 hx5 => ?_)
      refine vs_if_eq X (tgt := 48) dJ5_setLength_d00df_30 (by decide) (fun _ => ?_) (fun _ => ?_)
      · refine vs_aload_n X dJ5_setLength_d00df_48 0 rfl ?_
        refine g_Sb X hinJ4 0 (by decide) (by decide +kernel) rfl rfl dJ5_setLength_d00df_49 ?_
        refine vs_aload_n X dJ5_setLength_d00df_52 0 rfl ?_
        refine g_Sb X hinJ4 3 (by decide) (by decide +kernel) rfl rfl dJ5_setLength_d00df_53 ?_
        refine vs_iload_n X dJ5_setLength_d00df_56 1 rfl ?_
        exact vs_none rfl
      · refine vs_aload_n X dJ5_setLength_d00df_33 0 rfl ?_
        refine g_Sb X hinJ4 0 (by decide) (by decide +kernel) rfl rfl dJ5_setLength_d00df_34 ?_
        refine vs_aload_n X dJ5_setLength_d00df_37 0 rfl ?_
        refine g_Sb X hinJ4 3 (by decide) (by decide +kernel) rfl rfl dJ5_setLength_d00df_38 ?_
        refine vs_iload_n X dJ5_setLength_d00df_41 1 rfl ?_
        exact vs_none rfl
  · exact vs_none rfl

def spJ5_append_3fe6f (p1 : Int32) (S : Wo) : Option (Wo) :=
  (spJ5_ensureCapacityInternal_d00df (S.1 164 3 + 1) S).bind (fun S1 => (spJ5_isLatin1_aae02  S1).bind (fun x2 => (if x2 = 0 then (spJ5_isLatin1_aae02  S1).bind (fun x3 => jn (β := Option (Wo)) (wr (pI S1 164 3 (S1.1 164 3 + 1)) (fun S5 => none)) (fun k4 => (if x3 = 0 then k4 else none))) else (spJ1_canEncode_fc78d p1 S1).bind (fun x6 => (if x6 = 0 then (spJ5_isLatin1_aae02  S1).bind (fun x7 => jn (β := Option (Wo)) (wr (pI S1 164 3 (S1.1 164 3 + 1)) (fun S9 => none)) (fun k8 => (if x7 = 0 then k8 else none))) else wr (pI S1 164 3 (S1.1 164 3 + 1)) (fun S10 => (if S1.2.2.1.2.1 = S10.2.2.1.2.1 then (if inb (S1.1 164 3) S10.2.2.1.2.2 = true then wr (pF S10 165 (upd (S10.2.1 165) (ix (S1.1 164 3)) (vp_nar .byte ((p1 : Int32).toInt8.toInt32)))) (fun S11 => some S11) else none) else none)))))))
set_option maxHeartbeats 4000000 in
set_option maxRecDepth 100000 in
theorem mtJ5_append_3fe6f {l : Launch} (hl0 : l.stackTraces = false) {G : Gt} (p1 : Int32) {S : Wo} : ∀ rr, spJ5_append_3fe6f p1 S = some rr → MO l yJ5_append_3fe6f wsJ5_append_3fe6f { frames := 1, cells := 0, slots := 0, locals := 22 } G S [rf G 164, .int p1] rr 0 0 := by
  refine MOF_of (cc := cJ5_append_3fe6f) (own := RJ5) (maxL := 2) (ret := (some (.object "java/lang/AbstractStringBuilder"))) (sp := spJ5_append_3fe6f p1 S) (by decide +kernel) rfl rfl (Nat.le_of_ble_eq_true rfl) ?_
  intro p e s m args below meth c X
  have hinJ4 : ∀ w ∈ wsJ40, w ∈ wsJ5_append_3fe6f := by decide +kernel
  show VS G p l e _ s m args below meth c 2 _ _ 0 0 S 0 [(0, rf G 164), (1, .int p1)] []
  unfold spJ5_append_3fe6f
  refine vs_aload_n X dJ5_append_3fe6f_0 0 rfl ?_
  refine vs_aload_n X dJ5_append_3fe6f_1 0 rfl ?_
  refine g_Sb X hinJ4 3 (by decide) (by decide +kernel) rfl rfl dJ5_append_3fe6f_2 ?_
  refine vs_iconst X (v := 1) dJ5_append_3fe6f_5 (by decide) ?_
  refine vs_iadd X dJ5_append_3fe6f_6 ?_
  refine vs_callUv_Sb X (As := [.int (S.1 164 3 + 1)]) (st' := []) (mtJ5_ensureCapacityInternal_d00df hl0 (S.1 164 3 + 1)) (va_cwU 1 X.2.2.2.2.1 gJ5_append_3fe6f_J5_ensureCapacityInternal_d00df_u100J4 rfl rfl rfl rfl (by decide +kernel) ⟨Nat.le_of_ble_eq_true rfl, Nat.le_of_ble_eq_true rfl⟩) rfl (Nat.le_of_ble_eq_true rfl) dJ5_append_3fe6f_7 ⟨Nat.le_of_ble_eq_true rfl, Nat.le_of_ble_eq_true rfl⟩ (fun S1 hS1 => ?_)
  refine vs_aload_n X dJ5_append_3fe6f_10 0 rfl ?_
  refine vs_callUp_Sb X (As := []) (st' := []) (mtJ5_isLatin1_aae02 hl0 ) (va_cwU 0 X.2.2.2.2.1 gJ5_append_3fe6f_J5_isLatin1_aae02_u83J4 rfl rfl rfl rfl (by decide +kernel) ⟨Nat.le_of_ble_eq_true rfl, Nat.le_of_ble_eq_true rfl⟩) rfl (Nat.le_of_ble_eq_true rfl) dJ5_append_3fe6f_11 ⟨Nat.le_of_ble_eq_true rfl, Nat.le_of_ble_eq_true rfl⟩ (fun x2 hx2 => ?_)
  refine vs_if_eq X (tgt := 45) dJ5_append_3fe6f_14 (by decide) (fun _ => ?_) (fun _ => ?_)
  · refine vs_aload_n X dJ5_append_3fe6f_45 0 rfl ?_
    refine vs_callUp_Sb X (As := []) (st' := []) (mtJ5_isLatin1_aae02 hl0 ) (va_cwU 0 X.2.2.2.2.1 gJ5_append_3fe6f_J5_isLatin1_aae02_u83J4 rfl rfl rfl rfl (by decide +kernel) ⟨Nat.le_of_ble_eq_true rfl, Nat.le_of_ble_eq_true rfl⟩) rfl (Nat.le_of_ble_eq_true rfl) dJ5_append_3fe6f_46 ⟨Nat.le_of_ble_eq_true rfl, Nat.le_of_ble_eq_true rfl⟩ (fun x3 hx3 => ?_)
    refine vs_jn (β := Option (Wo)) (P := fun k4 => VS G p l e ({ frames := 1, cells := 0, slots := 0, locals := 22 } : Room) s m args below meth c 2 (fun r => MQ below (QO G r) args s 0 0 (Af G)) (k4) 0 0 S1 56 [(0, rf G 164), (1, .int p1)] []) ?_ (fun k4 hk4 => ?_)
    · refine vs_aload_n X dJ5_append_3fe6f_56 0 rfl ?_
      refine g_Sb X hinJ4 0 (by decide) (by decide +kernel) rfl rfl dJ5_append_3fe6f_57 ?_
      refine vs_aload_n X dJ5_append_3fe6f_60 0 rfl ?_
      refine vs_dup X dJ5_append_3fe6f_61 rfl ?_
      refine g_Sb X hinJ4 3 (by decide) (by decide +kernel) rfl rfl dJ5_append_3fe6f_62 ?_
      refine vs_dup_x1 X dJ5_append_3fe6f_65 rfl rfl ?_
      refine vs_iconst X (v := 1) dJ5_append_3fe6f_66 (by decide) ?_
      refine vs_iadd X dJ5_append_3fe6f_67 ?_
      refine p_Sb X hinJ4 3 (by decide) (by decide +kernel) rfl rfl rfl rfl rfl rfl dJ5_append_3fe6f_68 (fun S5 hS5 => ?_)
      refine vs_iload_n X dJ5_append_3fe6f_71 1 rfl ?_
      exact vs_none rfl
    · refine vs_if_eq X (tgt := 56) dJ5_append_3fe6f_49 (by decide) (fun _ => ?_) (fun _ => ?_)
      · exact vs_join [0, 1] (Nat.le_of_ble_eq_true rfl) (Nat.le_of_ble_eq_true rfl) rfl (hk4)
      · refine vs_aload_n X dJ5_append_3fe6f_52 0 rfl ?_
        exact vs_none rfl
  · refine vs_iload_n X dJ5_append_3fe6f_17 1 rfl ?_
    refine vs_callSp X  (As := [.int p1]) (st' := []) (mtJ1_canEncode_fc78d hl0 p1) (va_cwS 1 X.2.2.2.2.1 gJ5_append_3fe6f_J1_canEncode_fc78d rfl rfl rfl (by decide +kernel) ⟨Nat.le_of_ble_eq_true rfl, Nat.le_of_ble_eq_true rfl⟩) rfl (Nat.le_of_ble_eq_true rfl) dJ5_append_3fe6f_18 ⟨Nat.le_of_ble_eq_true rfl, Nat.le_of_ble_eq_true rfl⟩ (fun x6 hx6 => ?_)
    refine vs_if_eq X (tgt := 45) dJ5_append_3fe6f_21 (by decide) (fun _ => ?_) (fun _ => ?_)
    · refine vs_aload_n X dJ5_append_3fe6f_45 0 rfl ?_
      refine vs_callUp_Sb X (As := []) (st' := []) (mtJ5_isLatin1_aae02 hl0 ) (va_cwU 0 X.2.2.2.2.1 gJ5_append_3fe6f_J5_isLatin1_aae02_u83J4 rfl rfl rfl rfl (by decide +kernel) ⟨Nat.le_of_ble_eq_true rfl, Nat.le_of_ble_eq_true rfl⟩) rfl (Nat.le_of_ble_eq_true rfl) dJ5_append_3fe6f_46 ⟨Nat.le_of_ble_eq_true rfl, Nat.le_of_ble_eq_true rfl⟩ (fun x7 hx7 => ?_)
      refine vs_jn (β := Option (Wo)) (P := fun k8 => VS G p l e ({ frames := 1, cells := 0, slots := 0, locals := 22 } : Room) s m args below meth c 2 (fun r => MQ below (QO G r) args s 0 0 (Af G)) (k8) 0 0 S1 56 [(0, rf G 164), (1, .int p1)] []) ?_ (fun k8 hk8 => ?_)
      · refine vs_aload_n X dJ5_append_3fe6f_56 0 rfl ?_
        refine g_Sb X hinJ4 0 (by decide) (by decide +kernel) rfl rfl dJ5_append_3fe6f_57 ?_
        refine vs_aload_n X dJ5_append_3fe6f_60 0 rfl ?_
        refine vs_dup X dJ5_append_3fe6f_61 rfl ?_
        refine g_Sb X hinJ4 3 (by decide) (by decide +kernel) rfl rfl dJ5_append_3fe6f_62 ?_
        refine vs_dup_x1 X dJ5_append_3fe6f_65 rfl rfl ?_
        refine vs_iconst X (v := 1) dJ5_append_3fe6f_66 (by decide) ?_
        refine vs_iadd X dJ5_append_3fe6f_67 ?_
        refine p_Sb X hinJ4 3 (by decide) (by decide +kernel) rfl rfl rfl rfl rfl rfl dJ5_append_3fe6f_68 (fun S9 hS9 => ?_)
        refine vs_iload_n X dJ5_append_3fe6f_71 1 rfl ?_
        exact vs_none rfl
      · refine vs_if_eq X (tgt := 56) dJ5_append_3fe6f_49 (by decide) (fun _ => ?_) (fun _ => ?_)
        · exact vs_join [0, 1] (Nat.le_of_ble_eq_true rfl) (Nat.le_of_ble_eq_true rfl) rfl (hk8)
        · refine vs_aload_n X dJ5_append_3fe6f_52 0 rfl ?_
          exact vs_none rfl
    · refine vs_aload_n X dJ5_append_3fe6f_24 0 rfl ?_
      refine g_Sb X hinJ4 0 (by decide) (by decide +kernel) rfl rfl dJ5_append_3fe6f_25 ?_
      refine vs_aload_n X dJ5_append_3fe6f_28 0 rfl ?_
      refine vs_dup X dJ5_append_3fe6f_29 rfl ?_
      refine g_Sb X hinJ4 3 (by decide) (by decide +kernel) rfl rfl dJ5_append_3fe6f_30 ?_
      refine vs_dup_x1 X dJ5_append_3fe6f_33 rfl rfl ?_
      refine vs_iconst X (v := 1) dJ5_append_3fe6f_34 (by decide) ?_
      refine vs_iadd X dJ5_append_3fe6f_35 ?_
      refine p_Sb X hinJ4 3 (by decide) (by decide +kernel) rfl rfl rfl rfl rfl rfl dJ5_append_3fe6f_36 (fun S10 hS10 => ?_)
      refine vs_iload_n X dJ5_append_3fe6f_39 1 rfl ?_
      refine vs_i2b X (v := ((p1 : Int32).toInt8.toInt32)) dJ5_append_3fe6f_40 rfl ?_
      refine vs_bast X dJ5_append_3fe6f_41 (fun S11 hS11 => ?_)
      refine vs_goto X (tgt := 75) dJ5_append_3fe6f_42 (by decide) ?_
      refine vs_aload_n X dJ5_append_3fe6f_75 0 rfl ?_
      exact vs_areto X dJ5_append_3fe6f_76 (by decide) (by decide)

def lpJ6_stringSize_0f7a4_16 (p1 : Int32) (S : Wo) (w0 : Int32) (w1 : Int32)  : Nat → Int32 → Int32 → Option (Int32)
  | 0, _, _ => none
  | f + 1, v2, v3 => (if (10 : Int32) ≤ v3 then some (10 + w1) else (if w0 ≤ v2 then lpJ6_stringSize_0f7a4_16 p1 S w0 w1 f (10 * v2) (v3 + 1) else some (v3 + w1)))
def spJ6_stringSize_0f7a4 (p1 : Int32) (S : Wo) : Option (Int32) :=
  jn (β := Int32 → Int32 → Option (Int32)) (fun (v1 : Int32) (v2 : Int32) => lpJ6_stringSize_0f7a4_16 p1 S v1 v2 200 (-10) 1) (fun k3 => (if p1 < 0 then k3 p1 1 else k3 (-p1) 0))
set_option maxHeartbeats 4000000 in
set_option maxRecDepth 100000 in
theorem mtJ6_stringSize_0f7a4 {l : Launch} (hl0 : l.stackTraces = false) {G : Gt} (p1 : Int32) {S : Wo} : ∀ x, spJ6_stringSize_0f7a4 p1 S = some x → MI l yJ6_stringSize_0f7a4 wsJ6_stringSize_0f7a4 { frames := 0, cells := 0, slots := 0, locals := 0 } G S [.int p1] (x, S) 0 0 := by
  refine MIpF_of (cc := cJ6_stringSize_0f7a4) (own := RJ6) (maxL := 4) (ret := (some .int)) (sp := spJ6_stringSize_0f7a4 p1 S) (by decide +kernel) rfl rfl (Nat.le_of_ble_eq_true rfl) ?_
  intro p e s m args below meth c X
  show VS G p l e _ s m args below meth c 4 _ _ 0 0 S 0 [(0, .int p1)] []
  unfold spJ6_stringSize_0f7a4
  refine vs_iconst X (v := 1) dJ6_stringSize_0f7a4_0 (by decide) ?_
  refine vs_istore_n X (lv' := [(1, .int 1), (0, .int p1)]) dJ6_stringSize_0f7a4_1 (by decide) rfl ?_
  refine vs_iload_n X dJ6_stringSize_0f7a4_2 1 rfl ?_
  refine vs_jn (β := Int32 → Int32 → Option (Int32)) (P := fun k3 => ∀ (v1 : Int32) (v2 : Int32), VS G p l e ({ frames := 0, cells := 0, slots := 0, locals := 0 } : Room) s m args below meth c 4 (fun x => MQ below (QI G (x, S)) args s 0 0 (Af G)) (k3 v1 v2) 0 0 S 11 [(0, .int v1), (1, .int v2)] []) (fun v1 v2 => ?_) (fun k3 hk3 => ?_)
  · refine vs_bipush X (v := (-10)) dJ6_stringSize_0f7a4_11 (by decide) ?_
    refine vs_istore_n X (lv' := [(2, .int (-10)), (0, .int v1), (1, .int v2)]) dJ6_stringSize_0f7a4_13 (by decide) rfl ?_
    refine vs_iconst X (v := 1) dJ6_stringSize_0f7a4_14 (by decide) ?_
    refine vs_istore_n X (lv' := [(3, .int 1), (2, .int (-10)), (0, .int v1), (1, .int v2)]) dJ6_stringSize_0f7a4_15 (by decide) rfl ?_
    have L4 : ∀ (w0 : Int32) (w1 : Int32) (f : Nat) (v2 : Int32) (v3 : Int32), VS G p l e ({ frames := 0, cells := 0, slots := 0, locals := 0 } : Room) s m args below meth c 4 (fun x => MQ below (QI G (x, S)) args s 0 0 (Af G)) (lpJ6_stringSize_0f7a4_16 p1 S w0 w1 f v2 v3) 0 0 S 16 [(0, .int w0), (1, .int w1), (2, .int v2), (3, .int v3)] [] := by
      intro w0 w1 f
      induction f with
      | zero => intro v2 v3; exact vs_none rfl
      | succ f ih =>
          intro v2 v3
          rw [lpJ6_stringSize_0f7a4_16]
          refine vs_iload_n X dJ6_stringSize_0f7a4_16 3 rfl ?_
          refine vs_bipush X (v := 10) dJ6_stringSize_0f7a4_17 (by decide) ?_
          refine vs_icmp_ge X (tgt := 42) dJ6_stringSize_0f7a4_19 (by decide) (fun _ => ?_) (fun _ => ?_)
          · refine vs_bipush X (v := 10) dJ6_stringSize_0f7a4_42 (by decide) ?_
            refine vs_iload_n X dJ6_stringSize_0f7a4_44 1 rfl ?_
            refine vs_iadd X dJ6_stringSize_0f7a4_45 ?_
            exact vs_iretp X dJ6_stringSize_0f7a4_46 (by decide) (by decide)
          · refine vs_iload_n X dJ6_stringSize_0f7a4_22 0 rfl ?_
            refine vs_iload_n X dJ6_stringSize_0f7a4_23 2 rfl ?_
            refine vs_icmp_le X (tgt := 31) dJ6_stringSize_0f7a4_24 (by decide) (fun _ => ?_) (fun _ => ?_)
            · refine vs_bipush X (v := 10) dJ6_stringSize_0f7a4_31 (by decide) ?_
              refine vs_iload_n X dJ6_stringSize_0f7a4_33 2 rfl ?_
              refine vs_imul X dJ6_stringSize_0f7a4_34 ?_
              refine vs_istore_n X (lv' := [(2, .int (10 * v2)), (0, .int w0), (1, .int w1), (3, .int v3)]) dJ6_stringSize_0f7a4_35 (by decide) rfl ?_
              refine vs_iinc X (v := (v3 + 1)) (lv' := [(3, .int (v3 + 1)), (2, .int (10 * v2)), (0, .int w0), (1, .int w1)]) dJ6_stringSize_0f7a4_36 3 rfl rfl (by decide) rfl ?_
              refine vs_goto X (tgt := 16) dJ6_stringSize_0f7a4_39 (by decide) ?_
              refine vs_sub [2, 3, 1, 0] (lv' := [(0, .int w0), (1, .int w1), (2, .int (10 * v2)), (3, .int (v3 + 1))]) rfl ?_
              exact ih (10 * v2) (v3 + 1)
            · refine vs_iload_n X dJ6_stringSize_0f7a4_27 3 rfl ?_
              refine vs_iload_n X dJ6_stringSize_0f7a4_28 1 rfl ?_
              refine vs_iadd X dJ6_stringSize_0f7a4_29 ?_
              exact vs_iretp X dJ6_stringSize_0f7a4_30 (by decide) (by decide)
    refine vs_sub [2, 3, 1, 0] (lv' := [(0, .int v1), (1, .int v2), (2, .int (-10)), (3, .int 1)]) rfl ?_
    exact L4 v1 v2 200 (-10) 1
  · refine vs_if_lt X (tgt := 11) dJ6_stringSize_0f7a4_3 (by decide) (fun _ => ?_) (fun _ => ?_)
    · exact vs_join [1, 0] (Nat.le_of_ble_eq_true rfl) (Nat.le_of_ble_eq_true rfl) rfl (hk3 p1 1)
    · refine vs_iconst X (v := 0) dJ6_stringSize_0f7a4_6 (by decide) ?_
      refine vs_istore_n X (lv' := [(1, .int 0), (0, .int p1)]) dJ6_stringSize_0f7a4_7 (by decide) rfl ?_
      refine vs_iload_n X dJ6_stringSize_0f7a4_8 1 rfl ?_
      refine vs_ineg X dJ6_stringSize_0f7a4_9 ?_
      refine vs_istore_n X (lv' := [(0, .int (-p1)), (1, .int 0)]) dJ6_stringSize_0f7a4_10 (by decide) rfl ?_
      exact vs_join [0, 1] (Nat.le_of_ble_eq_true rfl) (Nat.le_of_ble_eq_true rfl) rfl (hk3 (-p1) 0)

def lpJ6_getChars_ba4f3_22 (p1 : Int32) (p2 : Int32) (b3 : Nat) (w6 : Int32)  : Nat → Int32 → Int32 → Wo → Option (Int32 × Wo)
  | 0, _, _, _ => none
  | f + 1, v0, v5, S6 => (if ((-100) : Int32) < v0 then (if inb (-v0) 100 = true then (if b3 = S6.2.2.1.2.1 then (if inb (v5 + (-1)) S6.2.2.1.2.2 = true then wr (pF S6 165 (upd (S6.2.1 165) (ix (v5 + (-1))) (vp_nar .byte (nI (48 + ix (-v0) % 10))))) (fun S7 => jn (β := Int32 → Wo → Option (Int32 × Wo)) (fun (v9 : Int32) (S10 : Wo) => (if w6 = 0 then some (v9, S10) else (if b3 = S10.2.2.1.2.1 then (if inb (v9 + (-1)) S10.2.2.1.2.2 = true then wr (pF S10 165 (upd (S10.2.1 165) (ix (v9 + (-1))) (vp_nar .byte 45))) (fun S12 => some ((v9 + (-1)), S12)) else none) else none))) (fun k11 => (if ((-9) : Int32) ≤ v0 then k11 (v5 + (-1)) S7 else (if inb (-v0) 100 = true then (if b3 = S7.2.2.1.2.1 then (if inb ((v5 + (-1)) + (-1)) S7.2.2.1.2.2 = true then wr (pF S7 165 (upd (S7.2.1 165) (ix ((v5 + (-1)) + (-1))) (vp_nar .byte (nI (48 + ix (-v0) / 10))))) (fun S8 => k11 ((v5 + (-1)) + (-1)) S8) else none) else none) else none)))) else none) else none) else none) else (if inb (((v0 / 100) * 100) - v0) 100 = true then (if b3 = S6.2.2.1.2.1 then (if inb (v5 + (-1)) S6.2.2.1.2.2 = true then wr (pF S6 165 (upd (S6.2.1 165) (ix (v5 + (-1))) (vp_nar .byte (nI (48 + ix (((v0 / 100) * 100) - v0) % 10))))) (fun S13 => (if inb (((v0 / 100) * 100) - v0) 100 = true then (if b3 = S13.2.2.1.2.1 then (if inb ((v5 + (-1)) + (-1)) S13.2.2.1.2.2 = true then wr (pF S13 165 (upd (S13.2.1 165) (ix ((v5 + (-1)) + (-1))) (vp_nar .byte (nI (48 + ix (((v0 / 100) * 100) - v0) / 10))))) (fun S14 => lpJ6_getChars_ba4f3_22 p1 p2 b3 w6 f (v0 / 100) ((v5 + (-1)) + (-1)) S14) else none) else none) else none)) else none) else none) else none))
def spJ6_getChars_ba4f3 (p1 : Int32) (p2 : Int32) (b3 : Nat) (S : Wo) : Option (Int32 × Wo) :=
  jn (β := Int32 → Option (Int32 × Wo)) (fun (x1 : Int32) => jn (β := Int32 → Option (Int32 × Wo)) (fun (v3 : Int32) => lpJ6_getChars_ba4f3_22 p1 p2 b3 x1 200 v3 p2 S) (fun k4 => (if x1 = 0 then k4 (-p1) else k4 p1))) (fun k2 => (if (0 : Int32) ≤ p1 then k2 0 else k2 1))
set_option maxHeartbeats 4000000 in
set_option maxRecDepth 100000 in
theorem mtJ6_getChars_ba4f3 {l : Launch} (hl0 : l.stackTraces = false) {G : Gt} (p1 : Int32) (p2 : Int32) {b3 : Nat} {S : Wo} : ∀ rr, spJ6_getChars_ba4f3 p1 p2 b3 S = some rr → MI l yJ6_getChars_ba4f3 wsJ6_getChars_ba4f3 { frames := 0, cells := 0, slots := 0, locals := 0 } G S [.int p1, .int p2, .ref b3] rr 0 0 := by
  refine MIF_of (cc := cJ6_getChars_ba4f3) (own := RJ6) (maxL := 7) (ret := (some .int)) (sp := spJ6_getChars_ba4f3 p1 p2 b3 S) (by decide +kernel) rfl rfl (Nat.le_of_ble_eq_true rfl) ?_
  intro p e s m args below meth c X
  show VS G p l e _ s m args below meth c 7 _ _ 0 0 S 0 [(0, .int p1), (1, .int p2), (2, .ref b3)] []
  unfold spJ6_getChars_ba4f3
  refine vs_iload_n X dJ6_getChars_ba4f3_0 1 rfl ?_
  refine vs_istore X (lv' := [(5, .int p2), (0, .int p1), (1, .int p2), (2, .ref b3)]) dJ6_getChars_ba4f3_1 (by decide) rfl ?_
  refine vs_iload_n X dJ6_getChars_ba4f3_3 1 rfl ?_
  refine vs_jn (β := Int32 → Option (Int32 × Wo)) (P := fun k2 => ∀ (x1 : Int32), VS G p l e ({ frames := 0, cells := 0, slots := 0, locals := 0 } : Room) s m args below meth c 7 (fun r => MQ below (QI G r) args s 0 0 (Af G)) (k2 x1) 0 0 S 12 [(0, .int p1), (1, .int p2), (2, .ref b3), (5, .int p2)] [.int x1]) (fun x1 => ?_) (fun k2 hk2 => ?_)
  · refine vs_istore X (lv' := [(6, .int x1), (0, .int p1), (1, .int p2), (2, .ref b3), (5, .int p2)]) dJ6_getChars_ba4f3_12 (by decide) rfl ?_
    refine vs_iload X dJ6_getChars_ba4f3_14 0 rfl ?_
    refine vs_jn (β := Int32 → Option (Int32 × Wo)) (P := fun k4 => ∀ (v3 : Int32), VS G p l e ({ frames := 0, cells := 0, slots := 0, locals := 0 } : Room) s m args below meth c 7 (fun r => MQ below (QI G r) args s 0 0 (Af G)) (k4 v3) 0 0 S 22 [(0, .int v3), (1, .int p2), (2, .ref b3), (5, .int p2), (6, .int x1)] []) (fun v3 => ?_) (fun k4 hk4 => ?_)
    · have L5 : ∀ (w6 : Int32) (f : Nat) (v0 : Int32) (v5 : Int32) (S6 : Wo), VS G p l e ({ frames := 0, cells := 0, slots := 0, locals := 0 } : Room) s m args below meth c 7 (fun r => MQ below (QI G r) args s 0 0 (Af G)) (lpJ6_getChars_ba4f3_22 p1 p2 b3 w6 f v0 v5 S6) 0 0 S6 22 [(0, .int v0), (1, .int p2), (2, .ref b3), (5, .int v5), (6, .int w6)] [] := by
        intro w6 f
        induction f with
        | zero => intro v0 v5 S6; exact vs_none rfl
        | succ f ih =>
            intro v0 v5 S6
            rw [lpJ6_getChars_ba4f3_22]
            refine vs_iload_n X dJ6_getChars_ba4f3_22 0 rfl ?_
            refine vs_bipush X (v := (-100)) dJ6_getChars_ba4f3_23 (by decide) ?_
            refine vs_icmp_gt X (tgt := 72) dJ6_getChars_ba4f3_25 (by decide) (fun _ => ?_) (fun _ => ?_)
            · refine vs_aload_n X dJ6_getChars_ba4f3_72 2 rfl ?_
              refine vs_iinc X (v := (v5 + (-1))) (lv' := [(5, .int (v5 + (-1))), (0, .int v0), (1, .int p2), (2, .ref b3), (6, .int w6)]) dJ6_getChars_ba4f3_73 3 rfl rfl (by decide) rfl ?_
              refine vs_iload X dJ6_getChars_ba4f3_76 0 rfl ?_
              refine vs_getsT1 X (by decide +kernel) dJ6_getChars_ba4f3_78 ?_
              refine vs_iload_n X dJ6_getChars_ba4f3_81 1 rfl ?_
              refine vs_ineg X dJ6_getChars_ba4f3_82 ?_
              refine vs_baldT1 X dJ6_getChars_ba4f3_83 ?_
              refine vs_bast X dJ6_getChars_ba4f3_84 (fun S7 hS7 => ?_)
              refine vs_iload_n X dJ6_getChars_ba4f3_85 1 rfl ?_
              refine vs_bipush X (v := (-9)) dJ6_getChars_ba4f3_86 (by decide) ?_
              refine vs_jn (β := Int32 → Wo → Option (Int32 × Wo)) (P := fun k11 => ∀ (v9 : Int32) (S10 : Wo), VS G p l e ({ frames := 0, cells := 0, slots := 0, locals := 0 } : Room) s m args below meth c 7 (fun r => MQ below (QI G r) args s 0 0 (Af G)) (k11 v9 S10) 0 0 S10 104 [(0, .int v0), (1, .int p2), (2, .ref b3), (5, .int v9), (6, .int w6)] []) (fun v9 S10 => ?_) (fun k11 hk11 => ?_)
              · refine vs_iload X dJ6_getChars_ba4f3_104 4 rfl ?_
                refine vs_if_eq X (tgt := 118) dJ6_getChars_ba4f3_106 (by decide) (fun _ => ?_) (fun _ => ?_)
                · refine vs_iload X dJ6_getChars_ba4f3_118 3 rfl ?_
                  exact vs_iret X dJ6_getChars_ba4f3_120 (by decide) (by decide)
                · refine vs_aload_n X dJ6_getChars_ba4f3_109 2 rfl ?_
                  refine vs_iinc X (v := (v9 + (-1))) (lv' := [(5, .int (v9 + (-1))), (0, .int v0), (1, .int p2), (2, .ref b3), (6, .int w6)]) dJ6_getChars_ba4f3_110 3 rfl rfl (by decide) rfl ?_
                  refine vs_iload X dJ6_getChars_ba4f3_113 0 rfl ?_
                  refine vs_bipush X (v := 45) dJ6_getChars_ba4f3_115 (by decide) ?_
                  refine vs_bast X dJ6_getChars_ba4f3_117 (fun S12 hS12 => ?_)
                  refine vs_iload X dJ6_getChars_ba4f3_118 0 rfl ?_
                  exact vs_iret X dJ6_getChars_ba4f3_120 (by decide) (by decide)
              · refine vs_icmp_ge X (tgt := 104) dJ6_getChars_ba4f3_88 (by decide) (fun _ => ?_) (fun _ => ?_)
                · exact vs_join [1, 2, 3, 0, 4] (Nat.le_of_ble_eq_true rfl) (Nat.le_of_ble_eq_true rfl) rfl (hk11 (v5 + (-1)) S7)
                · refine vs_aload_n X dJ6_getChars_ba4f3_91 3 rfl ?_
                  refine vs_iinc X (v := ((v5 + (-1)) + (-1))) (lv' := [(5, .int ((v5 + (-1)) + (-1))), (0, .int v0), (1, .int p2), (2, .ref b3), (6, .int w6)]) dJ6_getChars_ba4f3_92 0 rfl rfl (by decide) rfl ?_
                  refine vs_iload X dJ6_getChars_ba4f3_95 0 rfl ?_
                  refine vs_getsT2 X (by decide +kernel) dJ6_getChars_ba4f3_97 ?_
                  refine vs_iload_n X dJ6_getChars_ba4f3_100 1 rfl ?_
                  refine vs_ineg X dJ6_getChars_ba4f3_101 ?_
                  refine vs_baldT2 X dJ6_getChars_ba4f3_102 ?_
                  refine vs_bast X dJ6_getChars_ba4f3_103 (fun S8 hS8 => ?_)
                  exact vs_join [1, 2, 3, 0, 4] (Nat.le_of_ble_eq_true rfl) (Nat.le_of_ble_eq_true rfl) rfl (hk11 ((v5 + (-1)) + (-1)) S8)
            · refine vs_iload_n X dJ6_getChars_ba4f3_28 0 rfl ?_
              refine vs_bipush X (v := 100) dJ6_getChars_ba4f3_29 (by decide) ?_
              refine vs_idiv X dJ6_getChars_ba4f3_31 (by decide) ?_
              refine vs_istore_n X (lv' := [(3, .int (v0 / 100)), (0, .int v0), (1, .int p2), (2, .ref b3), (5, .int v5), (6, .int w6)]) dJ6_getChars_ba4f3_32 (by decide) rfl ?_
              refine vs_iload_n X dJ6_getChars_ba4f3_33 0 rfl ?_
              refine vs_bipush X (v := 100) dJ6_getChars_ba4f3_34 (by decide) ?_
              refine vs_imul X dJ6_getChars_ba4f3_36 ?_
              refine vs_iload_n X dJ6_getChars_ba4f3_37 1 rfl ?_
              refine vs_isub X dJ6_getChars_ba4f3_38 ?_
              refine vs_istore X (lv' := [(4, .int (((v0 / 100) * 100) - v0)), (3, .int (v0 / 100)), (0, .int v0), (1, .int p2), (2, .ref b3), (5, .int v5), (6, .int w6)]) dJ6_getChars_ba4f3_39 (by decide) rfl ?_
              refine vs_iload_n X dJ6_getChars_ba4f3_41 1 rfl ?_
              refine vs_istore_n X (lv' := [(0, .int (v0 / 100)), (4, .int (((v0 / 100) * 100) - v0)), (3, .int (v0 / 100)), (1, .int p2), (2, .ref b3), (5, .int v5), (6, .int w6)]) dJ6_getChars_ba4f3_42 (by decide) rfl ?_
              refine vs_aload_n X dJ6_getChars_ba4f3_43 4 rfl ?_
              refine vs_iinc X (v := (v5 + (-1))) (lv' := [(5, .int (v5 + (-1))), (0, .int (v0 / 100)), (4, .int (((v0 / 100) * 100) - v0)), (3, .int (v0 / 100)), (1, .int p2), (2, .ref b3), (6, .int w6)]) dJ6_getChars_ba4f3_44 5 rfl rfl (by decide) rfl ?_
              refine vs_iload X dJ6_getChars_ba4f3_47 0 rfl ?_
              refine vs_getsT1 X (by decide +kernel) dJ6_getChars_ba4f3_49 ?_
              refine vs_iload X dJ6_getChars_ba4f3_52 2 rfl ?_
              refine vs_baldT1 X dJ6_getChars_ba4f3_54 ?_
              refine vs_bast X dJ6_getChars_ba4f3_55 (fun S13 hS13 => ?_)
              refine vs_aload_n X dJ6_getChars_ba4f3_56 5 rfl ?_
              refine vs_iinc X (v := ((v5 + (-1)) + (-1))) (lv' := [(5, .int ((v5 + (-1)) + (-1))), (0, .int (v0 / 100)), (4, .int (((v0 / 100) * 100) - v0)), (3, .int (v0 / 100)), (1, .int p2), (2, .ref b3), (6, .int w6)]) dJ6_getChars_ba4f3_57 0 rfl rfl (by decide) rfl ?_
              refine vs_iload X dJ6_getChars_ba4f3_60 0 rfl ?_
              refine vs_getsT2 X (by decide +kernel) dJ6_getChars_ba4f3_62 ?_
              refine vs_iload X dJ6_getChars_ba4f3_65 2 rfl ?_
              refine vs_baldT2 X dJ6_getChars_ba4f3_67 ?_
              refine vs_bast X dJ6_getChars_ba4f3_68 (fun S14 hS14 => ?_)
              refine vs_goto X (tgt := 22) dJ6_getChars_ba4f3_69 (by decide) ?_
              refine vs_sub [1, 4, 5, 0, 6] (lv' := [(0, .int (v0 / 100)), (1, .int p2), (2, .ref b3), (5, .int ((v5 + (-1)) + (-1))), (6, .int w6)]) rfl ?_
              exact ih (v0 / 100) ((v5 + (-1)) + (-1)) S14
      refine vs_sub [0, 1, 2, 3, 4] (lv' := [(0, .int v3), (1, .int p2), (2, .ref b3), (5, .int p2), (6, .int x1)]) rfl ?_
      exact L5 x1 200 v3 p2 S
    · refine vs_if_ne X (tgt := 22) dJ6_getChars_ba4f3_16 (by decide) (fun _ => ?_) (fun _ => ?_)
      · refine vs_iload_n X dJ6_getChars_ba4f3_19 1 rfl ?_
        refine vs_ineg X dJ6_getChars_ba4f3_20 ?_
        refine vs_istore_n X (lv' := [(0, .int (-p1)), (6, .int x1), (1, .int p2), (2, .ref b3), (5, .int p2)]) dJ6_getChars_ba4f3_21 (by decide) rfl ?_
        exact vs_join [0, 2, 3, 4, 1] (Nat.le_of_ble_eq_true rfl) (Nat.le_of_ble_eq_true rfl) rfl (hk4 (-p1))
      · exact vs_join [1, 2, 3, 4, 0] (Nat.le_of_ble_eq_true rfl) (Nat.le_of_ble_eq_true rfl) rfl (hk4 p1)
  · refine vs_if_ge X (tgt := 11) dJ6_getChars_ba4f3_4 (by decide) (fun _ => ?_) (fun _ => ?_)
    · refine vs_iconst X (v := 0) dJ6_getChars_ba4f3_11 (by decide) ?_
      exact vs_join [1, 2, 3, 0] (Nat.le_of_ble_eq_true rfl) (Nat.le_of_ble_eq_true rfl) rfl (hk2 0)
    · refine vs_iconst X (v := 1) dJ6_getChars_ba4f3_7 (by decide) ?_
      refine vs_goto X (tgt := 12) dJ6_getChars_ba4f3_8 (by decide) ?_
      exact vs_join [1, 2, 3, 0] (Nat.le_of_ble_eq_true rfl) (Nat.le_of_ble_eq_true rfl) rfl (hk2 1)

def spJ5_append_c97b9 (p1 : Int32) (S : Wo) : Option (Wo) :=
  (spJ6_stringSize_0f7a4 p1 S).bind (fun x1 => (spJ5_ensureCapacityInternal_d00df (S.1 164 3 + x1) S).bind (fun S2 => (spJ5_isLatin1_aae02  S2).bind (fun x3 => (if x3 = 0 then none else bd2 (spJ6_getChars_ba4f3 p1 (S.1 164 3 + x1) S2.2.2.1.2.1 S2) (fun x4 S5 => wr (pI S5 164 3 (S.1 164 3 + x1)) (fun S6 => some S6))))))
set_option maxHeartbeats 4000000 in
set_option maxRecDepth 100000 in
theorem mtJ5_append_c97b9 {l : Launch} (hl0 : l.stackTraces = false) {G : Gt} (p1 : Int32) {S : Wo} : ∀ rr, spJ5_append_c97b9 p1 S = some rr → MO l yJ5_append_c97b9 wsJ5_append_c97b9 { frames := 1, cells := 0, slots := 0, locals := 26 } G S [rf G 164, .int p1] rr 0 0 := by
  refine MOF_of (cc := cJ5_append_c97b9) (own := RJ5) (maxL := 4) (ret := (some (.object "java/lang/AbstractStringBuilder"))) (sp := spJ5_append_c97b9 p1 S) (by decide +kernel) rfl rfl (Nat.le_of_ble_eq_true rfl) ?_
  intro p e s m args below meth c X
  have hinJ4 : ∀ w ∈ wsJ40, w ∈ wsJ5_append_c97b9 := by decide +kernel
  show VS G p l e _ s m args below meth c 4 _ _ 0 0 S 0 [(0, rf G 164), (1, .int p1)] []
  unfold spJ5_append_c97b9
  refine vs_aload_n X dJ5_append_c97b9_0 0 rfl ?_
  refine g_Sb X hinJ4 3 (by decide) (by decide +kernel) rfl rfl dJ5_append_c97b9_1 ?_
  refine vs_istore_n X (lv' := [(2, .int (S.1 164 3)), (0, rf G 164), (1, .int p1)]) dJ5_append_c97b9_4 (by decide) rfl ?_
  refine vs_iload_n X dJ5_append_c97b9_5 0 rfl ?_
  refine vs_iload_n X dJ5_append_c97b9_6 2 rfl ?_
  refine vs_callSp X  (As := [.int p1]) (st' := [.int (S.1 164 3)]) (mtJ6_stringSize_0f7a4 hl0 p1) (va_cwS 1 X.2.2.2.2.1 gJ5_append_c97b9_J6_stringSize_0f7a4 rfl rfl rfl (by decide +kernel) ⟨Nat.le_of_ble_eq_true rfl, Nat.le_of_ble_eq_true rfl⟩) rfl (Nat.le_of_ble_eq_true rfl) dJ5_append_c97b9_7 ⟨Nat.le_of_ble_eq_true rfl, Nat.le_of_ble_eq_true rfl⟩ (fun x1 hx1 => ?_)
  refine vs_iadd X dJ5_append_c97b9_10 ?_
  refine vs_istore_n X (lv' := [(3, .int (S.1 164 3 + x1)), (2, .int (S.1 164 3)), (0, rf G 164), (1, .int p1)]) dJ5_append_c97b9_11 (by decide) rfl ?_
  refine vs_aload_n X dJ5_append_c97b9_12 2 rfl ?_
  refine vs_iload_n X dJ5_append_c97b9_13 0 rfl ?_
  refine vs_callUv_Sb X (As := [.int (S.1 164 3 + x1)]) (st' := []) (mtJ5_ensureCapacityInternal_d00df hl0 (S.1 164 3 + x1)) (va_cwU 1 X.2.2.2.2.1 gJ5_append_c97b9_J5_ensureCapacityInternal_d00df_u100J4 rfl rfl rfl rfl (by decide +kernel) ⟨Nat.le_of_ble_eq_true rfl, Nat.le_of_ble_eq_true rfl⟩) rfl (Nat.le_of_ble_eq_true rfl) dJ5_append_c97b9_14 ⟨Nat.le_of_ble_eq_true rfl, Nat.le_of_ble_eq_true rfl⟩ (fun S2 hS2 => ?_)
  refine vs_aload_n X dJ5_append_c97b9_17 2 rfl ?_
  refine vs_callUp_Sb X (As := []) (st' := []) (mtJ5_isLatin1_aae02 hl0 ) (va_cwU 0 X.2.2.2.2.1 gJ5_append_c97b9_J5_isLatin1_aae02_u83J4 rfl rfl rfl rfl (by decide +kernel) ⟨Nat.le_of_ble_eq_true rfl, Nat.le_of_ble_eq_true rfl⟩) rfl (Nat.le_of_ble_eq_true rfl) dJ5_append_c97b9_18 ⟨Nat.le_of_ble_eq_true rfl, Nat.le_of_ble_eq_true rfl⟩ (fun x3 hx3 => ?_)
  refine vs_if_eq X (tgt := 37) dJ5_append_c97b9_21 (by decide) (fun _ => ?_) (fun _ => ?_)
  · refine vs_iload_n X dJ5_append_c97b9_37 3 rfl ?_
    refine vs_iload_n X dJ5_append_c97b9_38 1 rfl ?_
    refine vs_iload_n X dJ5_append_c97b9_39 0 rfl ?_
    refine vs_aload_n X dJ5_append_c97b9_40 2 rfl ?_
    refine g_Sb X hinJ4 0 (by decide) (by decide +kernel) rfl rfl dJ5_append_c97b9_41 ?_
    exact vs_none rfl
  · refine vs_iload_n X dJ5_append_c97b9_24 3 rfl ?_
    refine vs_iload_n X dJ5_append_c97b9_25 0 rfl ?_
    refine vs_aload_n X dJ5_append_c97b9_26 2 rfl ?_
    refine g_Sb X hinJ4 0 (by decide) (by decide +kernel) rfl rfl dJ5_append_c97b9_27 ?_
    refine vs_callSi X  (As := [.int p1, .int (S.1 164 3 + x1), .ref S2.2.2.1.2.1]) (st' := []) (mtJ6_getChars_ba4f3 hl0 p1 (S.1 164 3 + x1) ) (va_cwS 3 X.2.2.2.2.1 gJ5_append_c97b9_J6_getChars_ba4f3 rfl rfl rfl (by decide +kernel) ⟨Nat.le_of_ble_eq_true rfl, Nat.le_of_ble_eq_true rfl⟩) rfl (Nat.le_of_ble_eq_true rfl) dJ5_append_c97b9_30 ⟨Nat.le_of_ble_eq_true rfl, Nat.le_of_ble_eq_true rfl⟩ (fun x4 S5 hx4 => ?_)
    refine vs_pop X dJ5_append_c97b9_33 rfl ?_
    refine vs_goto X (tgt := 48) dJ5_append_c97b9_34 (by decide) ?_
    refine vs_aload_n X dJ5_append_c97b9_48 2 rfl ?_
    refine vs_iload_n X dJ5_append_c97b9_49 0 rfl ?_
    refine p_Sb X hinJ4 3 (by decide) (by decide +kernel) rfl rfl rfl rfl rfl rfl dJ5_append_c97b9_50 (fun S6 hS6 => ?_)
    refine vs_aload_n X dJ5_append_c97b9_53 2 rfl ?_
    exact vs_areto X dJ5_append_c97b9_54 (by decide) (by decide)

def spJ5_charAt_5068e (p1 : Int32) (S : Wo) : Option (Int32) :=
  (if S.2.2.1.2.1 = S.2.2.1.2.1 then nm (if ((Int32.ofNat S.2.2.1.2.2) >>> (S.1 164 1 &&& 31)) < S.1 164 3 then ((Int32.ofNat S.2.2.1.2.2) >>> (S.1 164 1 &&& 31)) else S.1 164 3) (fun y1 => (if p1 < 0 then none else if p1 < y1 then (if S.1 164 1 = 0 then (if S.2.2.1.2.1 = S.2.2.1.2.1 then (if inb p1 S.2.2.1.2.2 = true then rcc (((((S.2.1 165 (ix p1)) &&& 255) : Int32).toUInt32 % 65536).toInt32) some else none) else none) else none) else none)) else none)
set_option maxHeartbeats 4000000 in
set_option maxRecDepth 100000 in
theorem mtJ5_charAt_5068e {l : Launch} (hl0 : l.stackTraces = false) {G : Gt} (p1 : Int32) {S : Wo} : ∀ x, spJ5_charAt_5068e p1 S = some x → MI l yJ5_charAt_5068e wsJ5_charAt_5068e { frames := 2, cells := 0, slots := 0, locals := 43 } G S [rf G 164, .int p1] (x, S) 0 0 := by
  refine MIpF_of (cc := cJ5_charAt_5068e) (own := RJ5) (maxL := 5) (ret := (some .char)) (sp := spJ5_charAt_5068e p1 S) (by decide +kernel) rfl rfl (Nat.le_of_ble_eq_true rfl) ?_
  intro p e s m args below meth c X
  have hinJ4 : ∀ w ∈ wsJ40, w ∈ wsJ5_charAt_5068e := by decide +kernel
  show VS G p l e _ s m args below meth c 5 _ _ 0 0 S 0 [(0, rf G 164), (1, .int p1)] []
  unfold spJ5_charAt_5068e
  refine vs_aload_n X dJ5_charAt_5068e_0 0 rfl ?_
  refine g_Sb X hinJ4 1 (by decide) (by decide +kernel) rfl rfl dJ5_charAt_5068e_1 ?_
  refine vs_istore_n X (lv' := [(2, .int (S.1 164 1)), (0, rf G 164), (1, .int p1)]) dJ5_charAt_5068e_4 (by decide) rfl ?_
  refine vs_aload_n X dJ5_charAt_5068e_5 1 rfl ?_
  refine g_Sb X hinJ4 0 (by decide) (by decide +kernel) rfl rfl dJ5_charAt_5068e_6 ?_
  refine vs_astore_n X (lv' := [(3, .ref S.2.2.1.2.1), (2, .int (S.1 164 1)), (0, rf G 164), (1, .int p1)]) dJ5_charAt_5068e_9 (by decide) rfl ?_
  refine vs_aload_n X dJ5_charAt_5068e_10 2 rfl ?_
  refine g_Sb X hinJ4 3 (by decide) (by decide +kernel) rfl rfl dJ5_charAt_5068e_11 ?_
  refine vs_aload_n X dJ5_charAt_5068e_14 0 rfl ?_
  refine vs_blen X dJ5_charAt_5068e_15 ?_
  refine vs_iload_n X dJ5_charAt_5068e_16 1 rfl ?_
  refine vs_ishr X dJ5_charAt_5068e_17 ?_
  refine vs_mmin X (by decide +kernel) (by decide +kernel) (by decide +kernel) (by decide +kernel) (Nat.le_of_ble_eq_true rfl) (Nat.le_of_ble_eq_true rfl) (Nat.le_of_ble_eq_true rfl) (Nat.le_of_ble_eq_true rfl) dJ5_charAt_5068e_18 ?_
  refine vs_nm (fun y1 hy1 => ?_)
  refine vs_istore X (lv' := [(4, .int y1), (3, .ref S.2.2.1.2.1), (2, .int (S.1 164 1)), (0, rf G 164), (1, .int p1)]) dJ5_charAt_5068e_21 (by decide) rfl ?_
  refine vs_iload_n X dJ5_charAt_5068e_23 4 rfl ?_
  refine vs_iload X dJ5_charAt_5068e_24 0 rfl ?_
  refine vs_checkIndex X hl0 (va_cwS 2 X.2.2.2.2.1 gJ5_charAt_5068e_J0_checkIndex_df160 rfl rfl rfl (by decide +kernel) ⟨Nat.le_of_ble_eq_true rfl, Nat.le_of_ble_eq_true rfl⟩) (Nat.le_of_ble_eq_true rfl) dJ5_charAt_5068e_26 ⟨Nat.le_of_ble_eq_true rfl, Nat.le_of_ble_eq_true rfl⟩ ?_
  refine vs_iload_n X dJ5_charAt_5068e_29 2 rfl ?_
  refine vs_if_ne X (tgt := 42) dJ5_charAt_5068e_30 (by decide) (fun _ => ?_) (fun _ => ?_)
  · refine vs_aload_n X dJ5_charAt_5068e_33 1 rfl ?_
    refine vs_iload_n X dJ5_charAt_5068e_34 4 rfl ?_
    refine vs_bald X dJ5_charAt_5068e_35 ?_
    refine vs_sipush X (v := 255) dJ5_charAt_5068e_36 (by decide) ?_
    refine vs_iand X dJ5_charAt_5068e_39 ?_
    refine vs_i2c X (v := (((((S.2.1 165 (ix p1)) &&& 255) : Int32).toUInt32 % 65536).toInt32)) dJ5_charAt_5068e_40 rfl ?_
    exact vs_cretp X dJ5_charAt_5068e_41 (by decide) (by decide)
  · refine vs_aload_n X dJ5_charAt_5068e_42 1 rfl ?_
    refine vs_iload_n X dJ5_charAt_5068e_43 4 rfl ?_
    exact vs_none rfl

def spJ4_append_cf468 (p1 : Int32) (S : Wo) : Option (Wo) :=
  (spJ5_append_3fe6f p1 S).bind (fun S1 => some S1)
set_option maxHeartbeats 4000000 in
set_option maxRecDepth 100000 in
theorem mtJ4_append_cf468 {l : Launch} (hl0 : l.stackTraces = false) {G : Gt} (p1 : Int32) {S : Wo} : ∀ rr, spJ4_append_cf468 p1 S = some rr → MO l yJ4_append_cf468 wsJ4_append_cf468 { frames := 2, cells := 0, slots := 0, locals := 43 } G S [rf G 164, .int p1] rr 0 0 := by
  refine MOF_of (cc := cJ4_append_cf468) (own := RJ4) (maxL := 2) (ret := (some (.object "java/lang/StringBuilder"))) (sp := spJ4_append_cf468 p1 S) (by decide +kernel) rfl rfl (Nat.le_of_ble_eq_true rfl) ?_
  intro p e s m args below meth c X
  show VS G p l e _ s m args below meth c 2 _ _ 0 0 S 0 [(0, rf G 164), (1, .int p1)] []
  unfold spJ4_append_cf468
  refine vs_aload_n X dJ4_append_cf468_0 0 rfl ?_
  refine vs_iload_n X dJ4_append_cf468_1 1 rfl ?_
  refine vs_callSUo_Sb X (As := [.int p1]) (st' := []) (mtJ5_append_3fe6f hl0 p1) (va_cwSU 1 X.2.2.2.2.1 gJ4_append_cf468_J5_append_3fe6f_s50 rfl rfl rfl (by decide +kernel) ⟨Nat.le_of_ble_eq_true rfl, Nat.le_of_ble_eq_true rfl⟩) rfl (Nat.le_of_ble_eq_true rfl) dJ4_append_cf468_2 ⟨Nat.le_of_ble_eq_true rfl, Nat.le_of_ble_eq_true rfl⟩ (fun S1 hS1 => ?_)
  refine vs_pop X dJ4_append_cf468_5 rfl ?_
  refine vs_aload_n X dJ4_append_cf468_6 0 rfl ?_
  exact vs_areto X dJ4_append_cf468_7 (by decide) (by decide)

def spJ4_append_bf812 (p1 : Int32) (S : Wo) : Option (Wo) :=
  (spJ5_append_c97b9 p1 S).bind (fun S1 => some S1)
set_option maxHeartbeats 4000000 in
set_option maxRecDepth 100000 in
theorem mtJ4_append_bf812 {l : Launch} (hl0 : l.stackTraces = false) {G : Gt} (p1 : Int32) {S : Wo} : ∀ rr, spJ4_append_bf812 p1 S = some rr → MO l yJ4_append_bf812 wsJ4_append_bf812 { frames := 2, cells := 0, slots := 0, locals := 49 } G S [rf G 164, .int p1] rr 0 0 := by
  refine MOF_of (cc := cJ4_append_bf812) (own := RJ4) (maxL := 2) (ret := (some (.object "java/lang/StringBuilder"))) (sp := spJ4_append_bf812 p1 S) (by decide +kernel) rfl rfl (Nat.le_of_ble_eq_true rfl) ?_
  intro p e s m args below meth c X
  show VS G p l e _ s m args below meth c 2 _ _ 0 0 S 0 [(0, rf G 164), (1, .int p1)] []
  unfold spJ4_append_bf812
  refine vs_aload_n X dJ4_append_bf812_0 0 rfl ?_
  refine vs_iload_n X dJ4_append_bf812_1 1 rfl ?_
  refine vs_callSUo_Sb X (As := [.int p1]) (st' := []) (mtJ5_append_c97b9 hl0 p1) (va_cwSU 1 X.2.2.2.2.1 gJ4_append_bf812_J5_append_c97b9_s53 rfl rfl rfl (by decide +kernel) ⟨Nat.le_of_ble_eq_true rfl, Nat.le_of_ble_eq_true rfl⟩) rfl (Nat.le_of_ble_eq_true rfl) dJ4_append_bf812_2 ⟨Nat.le_of_ble_eq_true rfl, Nat.le_of_ble_eq_true rfl⟩ (fun S1 hS1 => ?_)
  refine vs_pop X dJ4_append_bf812_5 rfl ?_
  refine vs_aload_n X dJ4_append_bf812_6 0 rfl ?_
  exact vs_areto X dJ4_append_bf812_7 (by decide) (by decide)

def spJ4_charAt_5068e (p1 : Int32) (S : Wo) : Option (Int32) :=
  (spJ5_charAt_5068e p1 S).bind (fun x1 => rcc x1 some)
set_option maxHeartbeats 4000000 in
set_option maxRecDepth 100000 in
theorem mtJ4_charAt_5068e {l : Launch} (hl0 : l.stackTraces = false) {G : Gt} (p1 : Int32) {S : Wo} : ∀ x, spJ4_charAt_5068e p1 S = some x → MI l yJ4_charAt_5068e wsJ4_charAt_5068e { frames := 3, cells := 0, slots := 0, locals := 67 } G S [rf G 164, .int p1] (x, S) 0 0 := by
  refine MIpF_of (cc := cJ4_charAt_5068e) (own := RJ4) (maxL := 2) (ret := (some .char)) (sp := spJ4_charAt_5068e p1 S) (by decide +kernel) rfl rfl (Nat.le_of_ble_eq_true rfl) ?_
  intro p e s m args below meth c X
  show VS G p l e _ s m args below meth c 2 _ _ 0 0 S 0 [(0, rf G 164), (1, .int p1)] []
  unfold spJ4_charAt_5068e
  refine vs_aload_n X dJ4_charAt_5068e_0 0 rfl ?_
  refine vs_iload_n X dJ4_charAt_5068e_1 1 rfl ?_
  refine vs_callSUp_Sb X (As := [.int p1]) (st' := []) (mtJ5_charAt_5068e hl0 p1) (va_cwSU 1 X.2.2.2.2.1 gJ4_charAt_5068e_J5_charAt_5068e_s329 rfl rfl rfl (by decide +kernel) ⟨Nat.le_of_ble_eq_true rfl, Nat.le_of_ble_eq_true rfl⟩) rfl (Nat.le_of_ble_eq_true rfl) dJ4_charAt_5068e_2 ⟨Nat.le_of_ble_eq_true rfl, Nat.le_of_ble_eq_true rfl⟩ (fun x1 hx1 => ?_)
  exact vs_cretp X dJ4_charAt_5068e_5 (by decide) (by decide)

def spJ4_length_8abf5  (S : Wo) : Option (Int32) :=
  (spJ5_length_8abf5  S).bind (fun x1 => some x1)
set_option maxHeartbeats 4000000 in
set_option maxRecDepth 100000 in
theorem mtJ4_length_8abf5 {l : Launch} (hl0 : l.stackTraces = false) {G : Gt}  {S : Wo} : ∀ x, spJ4_length_8abf5  S = some x → MI l yJ4_length_8abf5 wsJ4_length_8abf5 { frames := 1, cells := 0, slots := 0, locals := 20 } G S [rf G 164] (x, S) 0 0 := by
  refine MIpF_of (cc := cJ4_length_8abf5) (own := RJ4) (maxL := 1) (ret := (some .int)) (sp := spJ4_length_8abf5  S) (by decide +kernel) rfl rfl (Nat.le_of_ble_eq_true rfl) ?_
  intro p e s m args below meth c X
  show VS G p l e _ s m args below meth c 1 _ _ 0 0 S 0 [(0, rf G 164)] []
  unfold spJ4_length_8abf5
  refine vs_aload_n X dJ4_length_8abf5_0 0 rfl ?_
  refine vs_callSUp_Sb X (As := []) (st' := []) (mtJ5_length_8abf5 hl0 ) (va_cwSU 0 X.2.2.2.2.1 gJ4_length_8abf5_J5_length_8abf5_s343 rfl rfl rfl (by decide +kernel) ⟨Nat.le_of_ble_eq_true rfl, Nat.le_of_ble_eq_true rfl⟩) rfl (Nat.le_of_ble_eq_true rfl) dJ4_length_8abf5_1 ⟨Nat.le_of_ble_eq_true rfl, Nat.le_of_ble_eq_true rfl⟩ (fun x1 hx1 => ?_)
  exact vs_iretp X dJ4_length_8abf5_4 (by decide) (by decide)

def spJ4_setLength_d00df (p1 : Int32) (S : Wo) : Option (Wo) :=
  (spJ5_setLength_d00df p1 S).bind (fun S1 => some S1)
set_option maxHeartbeats 4000000 in
set_option maxRecDepth 100000 in
theorem mtJ4_setLength_d00df {l : Launch} (hl0 : l.stackTraces = false) {G : Gt} (p1 : Int32) {S : Wo} : ∀ rr, spJ4_setLength_d00df p1 S = some rr → MV l yJ4_setLength_d00df wsJ4_setLength_d00df { frames := 2, cells := 0, slots := 0, locals := 43 } G S [rf G 164, .int p1] rr 0 0 := by
  refine MVF_of (cc := cJ4_setLength_d00df) (own := RJ4) (maxL := 2) (ret := none) (sp := spJ4_setLength_d00df p1 S) (by decide +kernel) rfl rfl (Nat.le_of_ble_eq_true rfl) ?_
  intro p e s m args below meth c X
  show VS G p l e _ s m args below meth c 2 _ _ 0 0 S 0 [(0, rf G 164), (1, .int p1)] []
  unfold spJ4_setLength_d00df
  refine vs_aload_n X dJ4_setLength_d00df_0 0 rfl ?_
  refine vs_iload_n X dJ4_setLength_d00df_1 1 rfl ?_
  refine vs_callSUv_Sb X (As := [.int p1]) (st' := []) (mtJ5_setLength_d00df hl0 p1) (va_cwSU 1 X.2.2.2.2.1 gJ4_setLength_d00df_J5_setLength_d00df_s333 rfl rfl rfl (by decide +kernel) ⟨Nat.le_of_ble_eq_true rfl, Nat.le_of_ble_eq_true rfl⟩) rfl (Nat.le_of_ble_eq_true rfl) dJ4_setLength_d00df_2 ⟨Nat.le_of_ble_eq_true rfl, Nat.le_of_ble_eq_true rfl⟩ (fun S1 hS1 => ?_)
  exact vs_vret X dJ4_setLength_d00df_5 (by decide) (by decide)

def spX6_writeCertificate (p1 : Int32) (S : Wo) : Option (Nat × Int32 × Wo) :=
  bx (spX6_requireCertificate p1 S) (fun x1 S2 => (spJ4_setLength_d00df 0 S2).bind (fun S3 => (spX4_get 4 20 p1 S3).bind (fun x4 => jn (β := Wo → Option (Nat × Int32 × Wo)) (fun (S7 : Wo) => (spJ4_append_cf468 62 S7).bind (fun S9 => (spX4_get 6 20 p1 S9).bind (fun x10 => (spJ4_append_bf812 x10 S9).bind (fun S11 => (spJ4_append_cf468 64 S11).bind (fun S12 => (spX4_get 8 20 p1 S12).bind (fun x13 => (spJ4_append_bf812 x13 S12).bind (fun S14 => (spJ4_append_cf468 60 S14).bind (fun S15 => (spX4_get 10 20 p1 S15).bind (fun x16 => (spJ4_append_bf812 x16 S15).bind (fun S17 => (spX5_inForceNow 1 S17).bind (fun x18 => (spX6_has x18 p1 S17).bind (fun x19 => (if x19 = 0 then (spJ4_length_8abf5  S17).bind (fun x20 => some (0, x20, S17)) else (spJ4_append_cf468 33 S17).bind (fun S21 => (spJ4_length_8abf5  S21).bind (fun x22 => some (0, x22, S21)))))))))))))))) (fun k8 => (if x4 = (-1) then (spJ4_append_cf468 82 S3).bind (fun S5 => k8 S5) else (spJ4_append_bf812 x4 S3).bind (fun S6 => k8 S6))))))
set_option maxHeartbeats 4000000 in
set_option maxRecDepth 100000 in
theorem mtX6_writeCertificate {l : Launch} (hl0 : l.stackTraces = false) {G : Gt} (p1 : Int32) {S : Wo} : ∀ rr, spX6_writeCertificate p1 S = some rr → MXI l yX6_writeCertificate wsX6_writeCertificate { frames := 7, cells := 1, slots := 6, locals := 113 } G S [rf G 0, .int p1] rr 1 6 := by
  refine MXI_of (cc := cX6_writeCertificate) (own := RX6) (maxL := 3) (ret := (some .int)) (sp := spX6_writeCertificate p1 S) (by decide +kernel) rfl rfl (Nat.le_of_ble_eq_true rfl) ?_
  intro p e s m args below meth c X hT
  have hinX5 : ∀ w ∈ wsX50, w ∈ wsX6_writeCertificate := by decide +kernel
  have hinX6 : ∀ w ∈ wsX60, w ∈ wsX6_writeCertificate := by decide +kernel
  show VS G p l e _ s m args below meth c 3 _ _ 0 0 S 0 [(0, rf G 0), (1, .int p1)] []
  unfold spX6_writeCertificate
  refine vs_aload_n X dX6_writeCertificate_0 0 rfl ?_
  refine vs_iload_n X dX6_writeCertificate_1 1 rfl ?_
  refine vs_callVxvI X hT (As := [.int p1]) (st' := []) (mtX6_requireCertificate hl0 p1) (cwV 1 X.2.2.2.2.1 gX6_writeCertificate_X6_requireCertificate rfl rfl rfl (by decide +kernel) ⟨Nat.le_of_ble_eq_true rfl, Nat.le_of_ble_eq_true rfl⟩) (by decide) (by decide) rfl rfl rfl (Nat.le_of_ble_eq_true rfl) dX6_writeCertificate_2 ⟨Nat.le_of_ble_eq_true rfl, Nat.le_of_ble_eq_true rfl⟩ (by decide) (by decide) (fun x1 S2 hS2 => ?_)
  refine vs_aload_n X dX6_writeCertificate_5 0 rfl ?_
  refine g_Reg  X hinX6 7 (by decide) (by decide +kernel) rfl rfl dX6_writeCertificate_6 ?_
  refine vs_iconst X (v := 0) dX6_writeCertificate_9 (by decide) ?_
  refine vs_callVv X  (As := [.int 0]) (st' := []) (mtJ4_setLength_d00df hl0 0) (cwV 1 X.2.2.2.2.1 gX6_writeCertificate_J4_setLength_d00df rfl rfl rfl (by decide +kernel) ⟨Nat.le_of_ble_eq_true rfl, Nat.le_of_ble_eq_true rfl⟩) (by decide) (by decide) rfl rfl rfl (Nat.le_of_ble_eq_true rfl) dX6_writeCertificate_10 ⟨Nat.le_of_ble_eq_true rfl, Nat.le_of_ble_eq_true rfl⟩ (fun S3 hS3 => ?_)
  refine vs_aload_n X dX6_writeCertificate_13 0 rfl ?_
  refine g_Reg  X hinX6 0 (by decide) (by decide +kernel) rfl rfl dX6_writeCertificate_14 ?_
  refine gN_St (by decide) (host := "ScarecrowRegistry") X hinX5 3 (by decide) (by decide +kernel) rfl rfl dX6_writeCertificate_17 ?_
  refine vs_iload_n X dX6_writeCertificate_20 1 rfl ?_
  refine vs_callVp X  (As := [.int p1]) (st' := []) (mtX4_get hl0 (isRow_st (by decide)).2.1 p1) (cwV 1 X.2.2.2.2.1 gX6_writeCertificate_X4_get rfl rfl rfl (by decide +kernel) ⟨Nat.le_of_ble_eq_true rfl, Nat.le_of_ble_eq_true rfl⟩) (by decide) (by decide) rfl rfl rfl (Nat.le_of_ble_eq_true rfl) dX6_writeCertificate_21 ⟨Nat.le_of_ble_eq_true rfl, Nat.le_of_ble_eq_true rfl⟩ (fun x4 hx4 => ?_)
  refine vs_istore_n X (lv' := [(2, .int x4), (0, rf G 0), (1, .int p1)]) dX6_writeCertificate_24 (by decide) rfl ?_
  refine vs_iload_n X dX6_writeCertificate_25 0 rfl ?_
  refine vs_iconst X (v := (-1)) dX6_writeCertificate_26 (by decide) ?_
  refine vs_jn (β := Wo → Option (Nat × Int32 × Wo)) (P := fun k8 => ∀ (S7 : Wo), VS G p l e ({ frames := 7, cells := 1, slots := 6, locals := 113 } : Room) s m args below meth c 3 (fun r => vx_MQ below (QxI G r) (QxX G r) args s 1 6 (Af G)) (k8 S7) 1 6 S7 52 [(0, rf G 0), (1, .int p1), (2, .int x4)] []) (fun S7 => ?_) (fun k8 hk8 => ?_)
  · refine vs_aload_n X dX6_writeCertificate_52 0 rfl ?_
    refine g_Reg  X hinX6 7 (by decide) (by decide +kernel) rfl rfl dX6_writeCertificate_53 ?_
    refine vs_bipush X (v := 62) dX6_writeCertificate_56 (by decide) ?_
    refine vs_callVo_Sb X (As := [.int 62]) (st' := []) (mtJ4_append_cf468 hl0 62) (cwV 1 X.2.2.2.2.1 gX6_writeCertificate_J4_append_cf468 rfl rfl rfl (by decide +kernel) ⟨Nat.le_of_ble_eq_true rfl, Nat.le_of_ble_eq_true rfl⟩) rfl (Nat.le_of_ble_eq_true rfl) dX6_writeCertificate_58 ⟨Nat.le_of_ble_eq_true rfl, Nat.le_of_ble_eq_true rfl⟩ (fun S9 hS9 => ?_)
    refine vs_pop X dX6_writeCertificate_61 rfl ?_
    refine vs_aload_n X dX6_writeCertificate_62 0 rfl ?_
    refine g_Reg  X hinX6 7 (by decide) (by decide +kernel) rfl rfl dX6_writeCertificate_63 ?_
    refine vs_aload_n X dX6_writeCertificate_66 0 rfl ?_
    refine g_Reg  X hinX6 0 (by decide) (by decide +kernel) rfl rfl dX6_writeCertificate_67 ?_
    refine gN_St (by decide) (host := "ScarecrowRegistry") X hinX5 4 (by decide) (by decide +kernel) rfl rfl dX6_writeCertificate_70 ?_
    refine vs_iload_n X dX6_writeCertificate_73 1 rfl ?_
    refine vs_callVp X  (As := [.int p1]) (st' := [rf G 164]) (mtX4_get hl0 (isRow_st (by decide)).2.2.1 p1) (cwV 1 X.2.2.2.2.1 gX6_writeCertificate_X4_get rfl rfl rfl (by decide +kernel) ⟨Nat.le_of_ble_eq_true rfl, Nat.le_of_ble_eq_true rfl⟩) (by decide) (by decide) rfl rfl rfl (Nat.le_of_ble_eq_true rfl) dX6_writeCertificate_74 ⟨Nat.le_of_ble_eq_true rfl, Nat.le_of_ble_eq_true rfl⟩ (fun x10 hx10 => ?_)
    refine vs_callVo_Sb X (As := [.int x10]) (st' := []) (mtJ4_append_bf812 hl0 x10) (cwV 1 X.2.2.2.2.1 gX6_writeCertificate_J4_append_bf812 rfl rfl rfl (by decide +kernel) ⟨Nat.le_of_ble_eq_true rfl, Nat.le_of_ble_eq_true rfl⟩) rfl (Nat.le_of_ble_eq_true rfl) dX6_writeCertificate_77 ⟨Nat.le_of_ble_eq_true rfl, Nat.le_of_ble_eq_true rfl⟩ (fun S11 hS11 => ?_)
    refine vs_pop X dX6_writeCertificate_80 rfl ?_
    refine vs_aload_n X dX6_writeCertificate_81 0 rfl ?_
    refine g_Reg  X hinX6 7 (by decide) (by decide +kernel) rfl rfl dX6_writeCertificate_82 ?_
    refine vs_bipush X (v := 64) dX6_writeCertificate_85 (by decide) ?_
    refine vs_callVo_Sb X (As := [.int 64]) (st' := []) (mtJ4_append_cf468 hl0 64) (cwV 1 X.2.2.2.2.1 gX6_writeCertificate_J4_append_cf468 rfl rfl rfl (by decide +kernel) ⟨Nat.le_of_ble_eq_true rfl, Nat.le_of_ble_eq_true rfl⟩) rfl (Nat.le_of_ble_eq_true rfl) dX6_writeCertificate_87 ⟨Nat.le_of_ble_eq_true rfl, Nat.le_of_ble_eq_true rfl⟩ (fun S12 hS12 => ?_)
    refine vs_pop X dX6_writeCertificate_90 rfl ?_
    refine vs_aload_n X dX6_writeCertificate_91 0 rfl ?_
    refine g_Reg  X hinX6 7 (by decide) (by decide +kernel) rfl rfl dX6_writeCertificate_92 ?_
    refine vs_aload_n X dX6_writeCertificate_95 0 rfl ?_
    refine g_Reg  X hinX6 0 (by decide) (by decide +kernel) rfl rfl dX6_writeCertificate_96 ?_
    refine gN_St (by decide) (host := "ScarecrowRegistry") X hinX5 5 (by decide) (by decide +kernel) rfl rfl dX6_writeCertificate_99 ?_
    refine vs_iload_n X dX6_writeCertificate_102 1 rfl ?_
    refine vs_callVp X  (As := [.int p1]) (st' := [rf G 164]) (mtX4_get hl0 (isRow_st (by decide)).2.2.2.1 p1) (cwV 1 X.2.2.2.2.1 gX6_writeCertificate_X4_get rfl rfl rfl (by decide +kernel) ⟨Nat.le_of_ble_eq_true rfl, Nat.le_of_ble_eq_true rfl⟩) (by decide) (by decide) rfl rfl rfl (Nat.le_of_ble_eq_true rfl) dX6_writeCertificate_103 ⟨Nat.le_of_ble_eq_true rfl, Nat.le_of_ble_eq_true rfl⟩ (fun x13 hx13 => ?_)
    refine vs_callVo_Sb X (As := [.int x13]) (st' := []) (mtJ4_append_bf812 hl0 x13) (cwV 1 X.2.2.2.2.1 gX6_writeCertificate_J4_append_bf812 rfl rfl rfl (by decide +kernel) ⟨Nat.le_of_ble_eq_true rfl, Nat.le_of_ble_eq_true rfl⟩) rfl (Nat.le_of_ble_eq_true rfl) dX6_writeCertificate_106 ⟨Nat.le_of_ble_eq_true rfl, Nat.le_of_ble_eq_true rfl⟩ (fun S14 hS14 => ?_)
    refine vs_pop X dX6_writeCertificate_109 rfl ?_
    refine vs_aload_n X dX6_writeCertificate_110 0 rfl ?_
    refine g_Reg  X hinX6 7 (by decide) (by decide +kernel) rfl rfl dX6_writeCertificate_111 ?_
    refine vs_bipush X (v := 60) dX6_writeCertificate_114 (by decide) ?_
    refine vs_callVo_Sb X (As := [.int 60]) (st' := []) (mtJ4_append_cf468 hl0 60) (cwV 1 X.2.2.2.2.1 gX6_writeCertificate_J4_append_cf468 rfl rfl rfl (by decide +kernel) ⟨Nat.le_of_ble_eq_true rfl, Nat.le_of_ble_eq_true rfl⟩) rfl (Nat.le_of_ble_eq_true rfl) dX6_writeCertificate_116 ⟨Nat.le_of_ble_eq_true rfl, Nat.le_of_ble_eq_true rfl⟩ (fun S15 hS15 => ?_)
    refine vs_pop X dX6_writeCertificate_119 rfl ?_
    refine vs_aload_n X dX6_writeCertificate_120 0 rfl ?_
    refine g_Reg  X hinX6 7 (by decide) (by decide +kernel) rfl rfl dX6_writeCertificate_121 ?_
    refine vs_aload_n X dX6_writeCertificate_124 0 rfl ?_
    refine g_Reg  X hinX6 0 (by decide) (by decide +kernel) rfl rfl dX6_writeCertificate_125 ?_
    refine gN_St (by decide) (host := "ScarecrowRegistry") X hinX5 6 (by decide) (by decide +kernel) rfl rfl dX6_writeCertificate_128 ?_
    refine vs_iload_n X dX6_writeCertificate_131 1 rfl ?_
    refine vs_callVp X  (As := [.int p1]) (st' := [rf G 164]) (mtX4_get hl0 (isRow_st (by decide)).2.2.2.2.1 p1) (cwV 1 X.2.2.2.2.1 gX6_writeCertificate_X4_get rfl rfl rfl (by decide +kernel) ⟨Nat.le_of_ble_eq_true rfl, Nat.le_of_ble_eq_true rfl⟩) (by decide) (by decide) rfl rfl rfl (Nat.le_of_ble_eq_true rfl) dX6_writeCertificate_132 ⟨Nat.le_of_ble_eq_true rfl, Nat.le_of_ble_eq_true rfl⟩ (fun x16 hx16 => ?_)
    refine vs_callVo_Sb X (As := [.int x16]) (st' := []) (mtJ4_append_bf812 hl0 x16) (cwV 1 X.2.2.2.2.1 gX6_writeCertificate_J4_append_bf812 rfl rfl rfl (by decide +kernel) ⟨Nat.le_of_ble_eq_true rfl, Nat.le_of_ble_eq_true rfl⟩) rfl (Nat.le_of_ble_eq_true rfl) dX6_writeCertificate_135 ⟨Nat.le_of_ble_eq_true rfl, Nat.le_of_ble_eq_true rfl⟩ (fun S17 hS17 => ?_)
    refine vs_pop X dX6_writeCertificate_138 rfl ?_
    refine vs_aload_n X dX6_writeCertificate_139 0 rfl ?_
    refine g_Reg  X hinX6 0 (by decide) (by decide +kernel) rfl rfl dX6_writeCertificate_140 ?_
    refine vs_callVp X  (As := []) (st' := []) (mtX5_inForceNow hl0 (by decide)) (cwV 0 X.2.2.2.2.1 gX6_writeCertificate_X5_inForceNow rfl rfl rfl (by decide +kernel) ⟨Nat.le_of_ble_eq_true rfl, Nat.le_of_ble_eq_true rfl⟩) (by decide) (by decide) rfl rfl rfl (Nat.le_of_ble_eq_true rfl) dX6_writeCertificate_143 ⟨Nat.le_of_ble_eq_true rfl, Nat.le_of_ble_eq_true rfl⟩ (fun x18 hx18 => ?_)
    refine vs_iload_n X dX6_writeCertificate_146 1 rfl ?_
    refine vs_callSp X  (As := [.int x18, .int p1]) (st' := []) (mtX6_has hl0 x18 p1) (va_cwS 2 X.2.2.2.2.1 gX6_writeCertificate_X6_has rfl rfl rfl (by decide +kernel) ⟨Nat.le_of_ble_eq_true rfl, Nat.le_of_ble_eq_true rfl⟩) rfl (Nat.le_of_ble_eq_true rfl) dX6_writeCertificate_147 ⟨Nat.le_of_ble_eq_true rfl, Nat.le_of_ble_eq_true rfl⟩ (fun x19 hx19 => ?_)
    refine vs_if_eq X (tgt := 163) dX6_writeCertificate_150 (by decide) (fun _ => ?_) (fun _ => ?_)
    · refine vs_aload_n X dX6_writeCertificate_163 0 rfl ?_
      refine g_Reg  X hinX6 7 (by decide) (by decide +kernel) rfl rfl dX6_writeCertificate_164 ?_
      refine vs_callVp X  (As := []) (st' := []) (mtJ4_length_8abf5 hl0 ) (cwV 0 X.2.2.2.2.1 gX6_writeCertificate_J4_length_8abf5 rfl rfl rfl (by decide +kernel) ⟨Nat.le_of_ble_eq_true rfl, Nat.le_of_ble_eq_true rfl⟩) (by decide) (by decide) rfl rfl rfl (Nat.le_of_ble_eq_true rfl) dX6_writeCertificate_167 ⟨Nat.le_of_ble_eq_true rfl, Nat.le_of_ble_eq_true rfl⟩ (fun x20 hx20 => ?_)
      exact vs_xiret X dX6_writeCertificate_170 (by decide) (by decide)
    · refine vs_aload_n X dX6_writeCertificate_153 0 rfl ?_
      refine g_Reg  X hinX6 7 (by decide) (by decide +kernel) rfl rfl dX6_writeCertificate_154 ?_
      refine vs_bipush X (v := 33) dX6_writeCertificate_157 (by decide) ?_
      refine vs_callVo_Sb X (As := [.int 33]) (st' := []) (mtJ4_append_cf468 hl0 33) (cwV 1 X.2.2.2.2.1 gX6_writeCertificate_J4_append_cf468 rfl rfl rfl (by decide +kernel) ⟨Nat.le_of_ble_eq_true rfl, Nat.le_of_ble_eq_true rfl⟩) rfl (Nat.le_of_ble_eq_true rfl) dX6_writeCertificate_159 ⟨Nat.le_of_ble_eq_true rfl, Nat.le_of_ble_eq_true rfl⟩ (fun S21 hS21 => ?_)
      refine vs_pop X dX6_writeCertificate_162 rfl ?_
      refine vs_aload_n X dX6_writeCertificate_163 0 rfl ?_
      refine g_Reg  X hinX6 7 (by decide) (by decide +kernel) rfl rfl dX6_writeCertificate_164 ?_
      refine vs_callVp X  (As := []) (st' := []) (mtJ4_length_8abf5 hl0 ) (cwV 0 X.2.2.2.2.1 gX6_writeCertificate_J4_length_8abf5 rfl rfl rfl (by decide +kernel) ⟨Nat.le_of_ble_eq_true rfl, Nat.le_of_ble_eq_true rfl⟩) (by decide) (by decide) rfl rfl rfl (Nat.le_of_ble_eq_true rfl) dX6_writeCertificate_167 ⟨Nat.le_of_ble_eq_true rfl, Nat.le_of_ble_eq_true rfl⟩ (fun x22 hx22 => ?_)
      exact vs_xiret X dX6_writeCertificate_170 (by decide) (by decide)
  · refine vs_icmp_ne X (tgt := 43) dX6_writeCertificate_27 (by decide) (fun _ => ?_) (fun _ => ?_)
    · refine vs_aload_n X dX6_writeCertificate_30 1 rfl ?_
      refine g_Reg  X hinX6 7 (by decide) (by decide +kernel) rfl rfl dX6_writeCertificate_31 ?_
      refine vs_bipush X (v := 82) dX6_writeCertificate_34 (by decide) ?_
      refine vs_callVo_Sb X (As := [.int 82]) (st' := []) (mtJ4_append_cf468 hl0 82) (cwV 1 X.2.2.2.2.1 gX6_writeCertificate_J4_append_cf468 rfl rfl rfl (by decide +kernel) ⟨Nat.le_of_ble_eq_true rfl, Nat.le_of_ble_eq_true rfl⟩) rfl (Nat.le_of_ble_eq_true rfl) dX6_writeCertificate_36 ⟨Nat.le_of_ble_eq_true rfl, Nat.le_of_ble_eq_true rfl⟩ (fun S5 hS5 => ?_)
      refine vs_pop X dX6_writeCertificate_39 rfl ?_
      refine vs_goto X (tgt := 52) dX6_writeCertificate_40 (by decide) ?_
      exact vs_join [1, 2, 0] (Nat.le_of_ble_eq_true rfl) (Nat.le_of_ble_eq_true rfl) rfl (hk8 S5)
    · refine vs_aload_n X dX6_writeCertificate_43 1 rfl ?_
      refine g_Reg  X hinX6 7 (by decide) (by decide +kernel) rfl rfl dX6_writeCertificate_44 ?_
      refine vs_iload_n X dX6_writeCertificate_47 0 rfl ?_
      refine vs_callVo_Sb X (As := [.int x4]) (st' := []) (mtJ4_append_bf812 hl0 x4) (cwV 1 X.2.2.2.2.1 gX6_writeCertificate_J4_append_bf812 rfl rfl rfl (by decide +kernel) ⟨Nat.le_of_ble_eq_true rfl, Nat.le_of_ble_eq_true rfl⟩) rfl (Nat.le_of_ble_eq_true rfl) dX6_writeCertificate_48 ⟨Nat.le_of_ble_eq_true rfl, Nat.le_of_ble_eq_true rfl⟩ (fun S6 hS6 => ?_)
      refine vs_pop X dX6_writeCertificate_51 rfl ?_
      exact vs_join [1, 2, 0] (Nat.le_of_ble_eq_true rfl) (Nat.le_of_ble_eq_true rfl) rfl (hk8 S6)

def spX6_lineCharacter (p1 : Int32) (S : Wo) : Option (Nat × Int32 × Wo) :=
  (if p1 < 0 then some (2, 0, S) else (spJ4_length_8abf5  S).bind (fun x1 => (if p1 < x1 then (spJ4_charAt_5068e p1 S).bind (fun x2 => rcc x2 (fun y => some (0, y, S))) else some (2, 0, S))))
set_option maxHeartbeats 4000000 in
set_option maxRecDepth 100000 in
theorem mtX6_lineCharacter {l : Launch} (hl0 : l.stackTraces = false) {G : Gt} (p1 : Int32) {S : Wo} : ∀ rr, spX6_lineCharacter p1 S = some rr → MXI l yX6_lineCharacter wsX6_lineCharacter { frames := 6, cells := 1, slots := 6, locals := 88 } G S [rf G 0, .int p1] rr 1 6 := by
  refine MXI_of (cc := cX6_lineCharacter) (own := RX6) (maxL := 2) (ret := (some .char)) (sp := spX6_lineCharacter p1 S) (by decide +kernel) rfl rfl (Nat.le_of_ble_eq_true rfl) ?_
  intro p e s m args below meth c X hT
  have hinX6 : ∀ w ∈ wsX60, w ∈ wsX6_lineCharacter := by decide +kernel
  show VS G p l e _ s m args below meth c 2 _ _ 0 0 S 0 [(0, rf G 0), (1, .int p1)] []
  unfold spX6_lineCharacter
  refine vs_iload_n X dX6_lineCharacter_0 1 rfl ?_
  refine vs_if_lt X (tgt := 15) dX6_lineCharacter_1 (by decide) (fun _ => ?_) (fun _ => ?_)
  · exact vs_throwIW (names := ["java/lang/RuntimeException", "java/lang/Exception"]) (si := 34) X hl0 hT (by decide) (by decide) (by decide +kernel) (by decide +kernel) (by decide) rfl (fun w h => List.mem_cons_of_mem _ (List.mem_append_right _ h)) (by decide +kernel) (X.2.2.2.2.2.2.2.2.2.2.2.2.1.2.1 _ (by decide)) (by decide +kernel) ⟨by decide, rfl⟩ dX6_lineCharacter_15 dX6_lineCharacter_18 dX6_lineCharacter_19 dX6_lineCharacter_22 dX6_lineCharacter_25 (by decide) (by decide) (by decide) (by decide) (by decide) (by decide)
  · refine vs_iload_n X dX6_lineCharacter_4 1 rfl ?_
    refine vs_aload_n X dX6_lineCharacter_5 0 rfl ?_
    refine g_Reg  X hinX6 7 (by decide) (by decide +kernel) rfl rfl dX6_lineCharacter_6 ?_
    refine vs_callVp X  (As := []) (st' := [.int p1]) (mtJ4_length_8abf5 hl0 ) (cwV 0 X.2.2.2.2.1 gX6_lineCharacter_J4_length_8abf5 rfl rfl rfl (by decide +kernel) ⟨Nat.le_of_ble_eq_true rfl, Nat.le_of_ble_eq_true rfl⟩) (by decide) (by decide) rfl rfl rfl (Nat.le_of_ble_eq_true rfl) dX6_lineCharacter_9 ⟨Nat.le_of_ble_eq_true rfl, Nat.le_of_ble_eq_true rfl⟩ (fun x1 hx1 => ?_)
    refine vs_icmp_lt X (tgt := 26) dX6_lineCharacter_12 (by decide) (fun _ => ?_) (fun _ => ?_)
    · refine vs_aload_n X dX6_lineCharacter_26 0 rfl ?_
      refine g_Reg  X hinX6 7 (by decide) (by decide +kernel) rfl rfl dX6_lineCharacter_27 ?_
      refine vs_iload_n X dX6_lineCharacter_30 1 rfl ?_
      refine vs_callVp X  (As := [.int p1]) (st' := []) (mtJ4_charAt_5068e hl0 p1) (cwV 1 X.2.2.2.2.1 gX6_lineCharacter_J4_charAt_5068e rfl rfl rfl (by decide +kernel) ⟨Nat.le_of_ble_eq_true rfl, Nat.le_of_ble_eq_true rfl⟩) (by decide) (by decide) rfl rfl rfl (Nat.le_of_ble_eq_true rfl) dX6_lineCharacter_31 ⟨Nat.le_of_ble_eq_true rfl, Nat.le_of_ble_eq_true rfl⟩ (fun x2 hx2 => ?_)
      exact vs_xcret X dX6_lineCharacter_34 (by decide) (by decide)
    · exact vs_throwIW (names := ["java/lang/RuntimeException", "java/lang/Exception"]) (si := 34) X hl0 hT (by decide) (by decide) (by decide +kernel) (by decide +kernel) (by decide) rfl (fun w h => List.mem_cons_of_mem _ (List.mem_append_right _ h)) (by decide +kernel) (X.2.2.2.2.2.2.2.2.2.2.2.2.1.2.1 _ (by decide)) (by decide +kernel) ⟨by decide, rfl⟩ dX6_lineCharacter_15 dX6_lineCharacter_18 dX6_lineCharacter_19 dX6_lineCharacter_22 dX6_lineCharacter_25 (by decide) (by decide) (by decide) (by decide) (by decide) (by decide)

def lpX6_execute_54  (w1 : Int32)  : Nat → Int32 → Wo → Option (Nat × Int32 × Wo)
  | 0, _, _ => none
  | f + 1, v2, S8 => (if w1 ≤ v2 then (spX1_clear  S8).bind (fun S9 => (spX2_remember 14 S9).bind (fun S10 => some (0, w1, S10))) else bd2 (spX1_readCommand  S8) (fun x11 S12 => (if x11 = 0 then (spX1_clear  S12).bind (fun S13 => (spX5_copyFrom 1 14 S13).bind (fun S14 => (spX6_denyText v2 (-2) S14).bind (fun S15 => some (4, 0, S15)))) else bd2 (spX6_runCommand  S12) (fun x16 S17 => (if (0 : Int32) ≤ x16 then lpX6_execute_54  w1 f (v2 + 1) S17 else (spX1_clear  S17).bind (fun S18 => (spX5_copyFrom 1 14 S18).bind (fun S19 => (spX6_denyText v2 x16 S19).bind (fun S20 => some (4, 0, S20)))))))))
def spX6_execute  (S : Wo) : Option (Nat × Int32 × Wo) :=
  bd2 (spX1_countCommands  S) (fun x1 S2 => (if x1 = (-1) then wr (pI S2 0 8 (S2.1 159 2)) (fun S3 => (spX1_clear  S3).bind (fun S4 => some (1, 0, S4))) else (spX6_beginChange  S2).bind (fun S5 => (spX1_rewind  S5).bind (fun S6 => lpX6_execute_54  x1 200 0 S6))))
set_option maxHeartbeats 4000000 in
set_option maxRecDepth 100000 in
theorem mtX6_execute {l : Launch} (hl0 : l.stackTraces = false) {G : Gt}  {S : Wo} : ∀ rr, spX6_execute  S = some rr → MXI l yX6_execute wsX6_execute { frames := 8, cells := 1, slots := 6, locals := 172 } G S [rf G 0] rr 1 6 := by
  refine MXI_of (cc := cX6_execute) (own := RX6) (maxL := 4) (ret := (some .int)) (sp := spX6_execute  S) (by decide +kernel) rfl rfl (Nat.le_of_ble_eq_true rfl) ?_
  intro p e s m args below meth c X hT
  have hinX1 : ∀ w ∈ wsX10, w ∈ wsX6_execute := by decide +kernel
  have hinX6 : ∀ w ∈ wsX60, w ∈ wsX6_execute := by decide +kernel
  show VS G p l e _ s m args below meth c 4 _ _ 0 0 S 0 [(0, rf G 0)] []
  unfold spX6_execute
  refine vs_aload_n X dX6_execute_0 0 rfl ?_
  refine g_Reg  X hinX6 6 (by decide) (by decide +kernel) rfl rfl dX6_execute_1 ?_
  refine vs_callVi X  (As := []) (st' := []) (mtX1_countCommands hl0 ) (cwV 0 X.2.2.2.2.1 gX6_execute_X1_countCommands rfl rfl rfl (by decide +kernel) ⟨Nat.le_of_ble_eq_true rfl, Nat.le_of_ble_eq_true rfl⟩) (by decide) (by decide) rfl rfl rfl (Nat.le_of_ble_eq_true rfl) dX6_execute_4 ⟨Nat.le_of_ble_eq_true rfl, Nat.le_of_ble_eq_true rfl⟩ (fun x1 S2 hx1 => ?_)
  refine vs_istore_n X (lv' := [(1, .int x1), (0, rf G 0)]) dX6_execute_7 (by decide) rfl ?_
  refine vs_iload_n X dX6_execute_8 0 rfl ?_
  refine vs_iconst X (v := (-1)) dX6_execute_9 (by decide) ?_
  refine vs_icmp_ne X (tgt := 41) dX6_execute_10 (by decide) (fun _ => ?_) (fun _ => ?_)
  · refine vs_aload_n X dX6_execute_13 1 rfl ?_
    refine vs_aload_n X dX6_execute_14 1 rfl ?_
    refine g_Reg  X hinX6 6 (by decide) (by decide +kernel) rfl rfl dX6_execute_15 ?_
    refine gN_Txt  (host := "ScarecrowRegistry") X hinX1 2 (by decide) (by decide +kernel) rfl rfl dX6_execute_18 ?_
    refine p_Reg  X hinX6 8 (by decide) (by decide +kernel) rfl rfl rfl rfl rfl rfl dX6_execute_21 (fun S3 hS3 => ?_)
    refine vs_aload_n X dX6_execute_24 1 rfl ?_
    refine g_Reg  X hinX6 6 (by decide) (by decide +kernel) rfl rfl dX6_execute_25 ?_
    refine vs_callVv X  (As := []) (st' := []) (mtX1_clear hl0 ) (cwV 0 X.2.2.2.2.1 gX6_execute_X1_clear rfl rfl rfl (by decide +kernel) ⟨Nat.le_of_ble_eq_true rfl, Nat.le_of_ble_eq_true rfl⟩) (by decide) (by decide) rfl rfl rfl (Nat.le_of_ble_eq_true rfl) dX6_execute_28 ⟨Nat.le_of_ble_eq_true rfl, Nat.le_of_ble_eq_true rfl⟩ (fun S4 hS4 => ?_)
    exact vs_throwI (names := ["java/lang/RuntimeException", "java/lang/Exception"]) (si := 31) X hl0 hT (by decide) (by decide) (by decide +kernel) (by decide +kernel) (by decide) rfl (fun w h => List.mem_cons_of_mem _ (List.mem_append_left _ (List.mem_append_left _ (List.mem_append_right _ h)))) (by decide +kernel) (X.2.2.2.2.2.2.2.2.2.2.2.2.1.2.1 _ (by decide)) (by decide +kernel) ⟨by decide, rfl⟩ dX6_execute_31 dX6_execute_34 dX6_execute_35 dX6_execute_37 dX6_execute_40 (by decide) (by decide) (by decide) (by decide) (by decide) (by decide)
  · refine vs_aload_n X dX6_execute_41 1 rfl ?_
    refine vs_callVv X  (As := []) (st' := []) (mtX6_beginChange hl0 ) (cwV 0 X.2.2.2.2.1 gX6_execute_X6_beginChange rfl rfl rfl (by decide +kernel) ⟨Nat.le_of_ble_eq_true rfl, Nat.le_of_ble_eq_true rfl⟩) (by decide) (by decide) rfl rfl rfl (Nat.le_of_ble_eq_true rfl) dX6_execute_42 ⟨Nat.le_of_ble_eq_true rfl, Nat.le_of_ble_eq_true rfl⟩ (fun S5 hS5 => ?_)
    refine vs_aload_n X dX6_execute_45 1 rfl ?_
    refine g_Reg  X hinX6 6 (by decide) (by decide +kernel) rfl rfl dX6_execute_46 ?_
    refine vs_callVv X  (As := []) (st' := []) (mtX1_rewind hl0 ) (cwV 0 X.2.2.2.2.1 gX6_execute_X1_rewind rfl rfl rfl (by decide +kernel) ⟨Nat.le_of_ble_eq_true rfl, Nat.le_of_ble_eq_true rfl⟩) (by decide) (by decide) rfl rfl rfl (Nat.le_of_ble_eq_true rfl) dX6_execute_49 ⟨Nat.le_of_ble_eq_true rfl, Nat.le_of_ble_eq_true rfl⟩ (fun S6 hS6 => ?_)
    refine vs_iconst X (v := 0) dX6_execute_52 (by decide) ?_
    refine vs_istore_n X (lv' := [(2, .int 0), (1, .int x1), (0, rf G 0)]) dX6_execute_53 (by decide) rfl ?_
    have L7 : ∀ (w1 : Int32) (f : Nat) (v2 : Int32) (S8 : Wo), VS G p l e ({ frames := 8, cells := 1, slots := 6, locals := 172 } : Room) s m args below meth c 4 (fun r => vx_MQ below (QxI G r) (QxX G r) args s 1 6 (Af G)) (lpX6_execute_54  w1 f v2 S8) 0 0 S8 54 [(0, rf G 0), (1, .int w1), (2, .int v2)] [] := by
      intro w1 f
      induction f with
      | zero => intro v2 S8; exact vs_none rfl
      | succ f ih =>
          intro v2 S8
          rw [lpX6_execute_54]
          refine vs_iload_n X dX6_execute_54 2 rfl ?_
          refine vs_iload_n X dX6_execute_55 1 rfl ?_
          refine vs_icmp_ge X (tgt := 123) dX6_execute_56 (by decide) (fun _ => ?_) (fun _ => ?_)
          · refine vs_aload_n X dX6_execute_123 0 rfl ?_
            refine g_Reg  X hinX6 6 (by decide) (by decide +kernel) rfl rfl dX6_execute_124 ?_
            refine vs_callVv X  (As := []) (st' := []) (mtX1_clear hl0 ) (cwV 0 X.2.2.2.2.1 gX6_execute_X1_clear rfl rfl rfl (by decide +kernel) ⟨Nat.le_of_ble_eq_true rfl, Nat.le_of_ble_eq_true rfl⟩) (by decide) (by decide) rfl rfl rfl (Nat.le_of_ble_eq_true rfl) dX6_execute_127 ⟨Nat.le_of_ble_eq_true rfl, Nat.le_of_ble_eq_true rfl⟩ (fun S9 hS9 => ?_)
            refine vs_aload_n X dX6_execute_130 0 rfl ?_
            refine g_Reg  X hinX6 5 (by decide) (by decide +kernel) rfl rfl dX6_execute_131 ?_
            refine vs_aload_n X dX6_execute_134 0 rfl ?_
            refine g_Reg  X hinX6 1 (by decide) (by decide +kernel) rfl rfl dX6_execute_135 ?_
            refine vs_callVv X  (As := [rf G 14]) (st' := []) (mtX2_remember hl0 (by decide)) (cwV 1 X.2.2.2.2.1 gX6_execute_X2_remember rfl rfl rfl (by decide +kernel) ⟨Nat.le_of_ble_eq_true rfl, Nat.le_of_ble_eq_true rfl⟩) (by decide) (by decide) rfl rfl rfl (Nat.le_of_ble_eq_true rfl) dX6_execute_138 ⟨Nat.le_of_ble_eq_true rfl, Nat.le_of_ble_eq_true rfl⟩ (fun S10 hS10 => ?_)
            refine vs_iload_n X dX6_execute_141 1 rfl ?_
            exact vs_xiret X dX6_execute_142 (by decide) (by decide)
          · refine vs_aload_n X dX6_execute_59 0 rfl ?_
            refine g_Reg  X hinX6 6 (by decide) (by decide +kernel) rfl rfl dX6_execute_60 ?_
            refine vs_callVi X  (As := []) (st' := []) (mtX1_readCommand hl0 ) (cwV 0 X.2.2.2.2.1 gX6_execute_X1_readCommand rfl rfl rfl (by decide +kernel) ⟨Nat.le_of_ble_eq_true rfl, Nat.le_of_ble_eq_true rfl⟩) (by decide) (by decide) rfl rfl rfl (Nat.le_of_ble_eq_true rfl) dX6_execute_63 ⟨Nat.le_of_ble_eq_true rfl, Nat.le_of_ble_eq_true rfl⟩ (fun x11 S12 hx11 => ?_)
            refine vs_if_eq X (tgt := 76) dX6_execute_66 (by decide) (fun _ => ?_) (fun _ => ?_)
            · refine vs_bipush X (v := (-2)) dX6_execute_76 (by decide) ?_
              refine vs_istore_n X (lv' := [(3, .int (-2)), (0, rf G 0), (1, .int w1), (2, .int v2)]) dX6_execute_78 (by decide) rfl ?_
              refine vs_iload_n X dX6_execute_79 0 rfl ?_
              refine vs_eq (if_neg (c := ((0 : Int32) ≤ (-2) : Prop)) (t := none) (by decide)).symm (vs_if_ge X (tgt := 117) dX6_execute_80 (by decide) (fun h => absurd h (by decide)) (fun _ => ?_))
              refine vs_aload_n X dX6_execute_83 1 rfl ?_
              refine g_Reg  X hinX6 6 (by decide) (by decide +kernel) rfl rfl dX6_execute_84 ?_
              refine vs_callVv X  (As := []) (st' := []) (mtX1_clear hl0 ) (cwV 0 X.2.2.2.2.1 gX6_execute_X1_clear rfl rfl rfl (by decide +kernel) ⟨Nat.le_of_ble_eq_true rfl, Nat.le_of_ble_eq_true rfl⟩) (by decide) (by decide) rfl rfl rfl (Nat.le_of_ble_eq_true rfl) dX6_execute_87 ⟨Nat.le_of_ble_eq_true rfl, Nat.le_of_ble_eq_true rfl⟩ (fun S13 hS13 => ?_)
              refine vs_aload_n X dX6_execute_90 1 rfl ?_
              refine g_Reg  X hinX6 0 (by decide) (by decide +kernel) rfl rfl dX6_execute_91 ?_
              refine vs_aload_n X dX6_execute_94 1 rfl ?_
              refine g_Reg  X hinX6 1 (by decide) (by decide +kernel) rfl rfl dX6_execute_95 ?_
              refine vs_callVv X  (As := [rf G 14]) (st' := []) (mtX5_copyFrom hl0 (by decide) (by decide)) (cwV 1 X.2.2.2.2.1 gX6_execute_X5_copyFrom rfl rfl rfl (by decide +kernel) ⟨Nat.le_of_ble_eq_true rfl, Nat.le_of_ble_eq_true rfl⟩) (by decide) (by decide) rfl rfl rfl (Nat.le_of_ble_eq_true rfl) dX6_execute_98 ⟨Nat.le_of_ble_eq_true rfl, Nat.le_of_ble_eq_true rfl⟩ (fun S14 hS14 => ?_)
              refine vs_aload_n X dX6_execute_101 1 rfl ?_
              refine vs_iload_n X dX6_execute_102 3 rfl ?_
              refine vs_iload_n X dX6_execute_103 0 rfl ?_
              refine vs_callVv X  (As := [.int v2, .int (-2)]) (st' := []) (mtX6_denyText hl0 v2 (-2)) (cwV 2 X.2.2.2.2.1 gX6_execute_X6_denyText rfl rfl rfl (by decide +kernel) ⟨Nat.le_of_ble_eq_true rfl, Nat.le_of_ble_eq_true rfl⟩) (by decide) (by decide) rfl rfl rfl (Nat.le_of_ble_eq_true rfl) dX6_execute_104 ⟨Nat.le_of_ble_eq_true rfl, Nat.le_of_ble_eq_true rfl⟩ (fun S15 hS15 => ?_)
              exact vs_throwI (names := ["java/lang/RuntimeException", "java/lang/Exception"]) (si := 32) X hl0 hT (by decide) (by decide) (by decide +kernel) (by decide +kernel) (by decide) rfl (fun w h => List.mem_cons_of_mem _ (List.mem_append_left _ (List.mem_append_right _ h))) (by decide +kernel) (X.2.2.2.2.2.2.2.2.2.2.2.2.1.2.1 _ (by decide)) (by decide +kernel) ⟨by decide, rfl⟩ dX6_execute_107 dX6_execute_110 dX6_execute_111 dX6_execute_113 dX6_execute_116 (by decide) (by decide) (by decide) (by decide) (by decide) (by decide)
            · refine vs_aload_n X dX6_execute_69 0 rfl ?_
              refine vs_callVi X  (As := []) (st' := []) (mtX6_runCommand hl0 ) (cwV 0 X.2.2.2.2.1 gX6_execute_X6_runCommand rfl rfl rfl (by decide +kernel) ⟨Nat.le_of_ble_eq_true rfl, Nat.le_of_ble_eq_true rfl⟩) (by decide) (by decide) rfl rfl rfl (Nat.le_of_ble_eq_true rfl) dX6_execute_70 ⟨Nat.le_of_ble_eq_true rfl, Nat.le_of_ble_eq_true rfl⟩ (fun x16 S17 hx16 => ?_)
              refine vs_goto X (tgt := 78) dX6_execute_73 (by decide) ?_
              refine vs_istore_n X (lv' := [(3, .int x16), (0, rf G 0), (1, .int w1), (2, .int v2)]) dX6_execute_78 (by decide) rfl ?_
              refine vs_iload_n X dX6_execute_79 0 rfl ?_
              refine vs_if_ge X (tgt := 117) dX6_execute_80 (by decide) (fun _ => ?_) (fun _ => ?_)
              · refine vs_iinc X (v := (v2 + 1)) (lv' := [(2, .int (v2 + 1)), (3, .int x16), (0, rf G 0), (1, .int w1)]) dX6_execute_117 3 rfl rfl (by decide) rfl ?_
                refine vs_goto X (tgt := 54) dX6_execute_120 (by decide) ?_
                refine vs_sub [2, 3, 0] (lv' := [(0, rf G 0), (1, .int w1), (2, .int (v2 + 1))]) rfl ?_
                exact ih (v2 + 1) S17
              · refine vs_aload_n X dX6_execute_83 1 rfl ?_
                refine g_Reg  X hinX6 6 (by decide) (by decide +kernel) rfl rfl dX6_execute_84 ?_
                refine vs_callVv X  (As := []) (st' := []) (mtX1_clear hl0 ) (cwV 0 X.2.2.2.2.1 gX6_execute_X1_clear rfl rfl rfl (by decide +kernel) ⟨Nat.le_of_ble_eq_true rfl, Nat.le_of_ble_eq_true rfl⟩) (by decide) (by decide) rfl rfl rfl (Nat.le_of_ble_eq_true rfl) dX6_execute_87 ⟨Nat.le_of_ble_eq_true rfl, Nat.le_of_ble_eq_true rfl⟩ (fun S18 hS18 => ?_)
                refine vs_aload_n X dX6_execute_90 1 rfl ?_
                refine g_Reg  X hinX6 0 (by decide) (by decide +kernel) rfl rfl dX6_execute_91 ?_
                refine vs_aload_n X dX6_execute_94 1 rfl ?_
                refine g_Reg  X hinX6 1 (by decide) (by decide +kernel) rfl rfl dX6_execute_95 ?_
                refine vs_callVv X  (As := [rf G 14]) (st' := []) (mtX5_copyFrom hl0 (by decide) (by decide)) (cwV 1 X.2.2.2.2.1 gX6_execute_X5_copyFrom rfl rfl rfl (by decide +kernel) ⟨Nat.le_of_ble_eq_true rfl, Nat.le_of_ble_eq_true rfl⟩) (by decide) (by decide) rfl rfl rfl (Nat.le_of_ble_eq_true rfl) dX6_execute_98 ⟨Nat.le_of_ble_eq_true rfl, Nat.le_of_ble_eq_true rfl⟩ (fun S19 hS19 => ?_)
                refine vs_aload_n X dX6_execute_101 1 rfl ?_
                refine vs_iload_n X dX6_execute_102 3 rfl ?_
                refine vs_iload_n X dX6_execute_103 0 rfl ?_
                refine vs_callVv X  (As := [.int v2, .int x16]) (st' := []) (mtX6_denyText hl0 v2 x16) (cwV 2 X.2.2.2.2.1 gX6_execute_X6_denyText rfl rfl rfl (by decide +kernel) ⟨Nat.le_of_ble_eq_true rfl, Nat.le_of_ble_eq_true rfl⟩) (by decide) (by decide) rfl rfl rfl (Nat.le_of_ble_eq_true rfl) dX6_execute_104 ⟨Nat.le_of_ble_eq_true rfl, Nat.le_of_ble_eq_true rfl⟩ (fun S20 hS20 => ?_)
                exact vs_throwI (names := ["java/lang/RuntimeException", "java/lang/Exception"]) (si := 32) X hl0 hT (by decide) (by decide) (by decide +kernel) (by decide +kernel) (by decide) rfl (fun w h => List.mem_cons_of_mem _ (List.mem_append_left _ (List.mem_append_right _ h))) (by decide +kernel) (X.2.2.2.2.2.2.2.2.2.2.2.2.1.2.1 _ (by decide)) (by decide +kernel) ⟨by decide, rfl⟩ dX6_execute_107 dX6_execute_110 dX6_execute_111 dX6_execute_113 dX6_execute_116 (by decide) (by decide) (by decide) (by decide) (by decide) (by decide)
    refine vs_sub [2, 1, 0] (lv' := [(0, rf G 0), (1, .int x1), (2, .int 0)]) rfl ?_
    exact L7 x1 200 0 S6

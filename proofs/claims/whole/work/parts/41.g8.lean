noncomputable def spJ5_ensureCapacityInternal_d00df_g (p1 : Int32) (S : Wo) : Option (Nat → Wo) :=
  (if S.2.2.1.2.1 = S.2.2.1.2.1 then nm ((Int32.ofNat S.2.2.1.2.2) >>> (S.1 164 1 &&& 31)) (fun y1 => (if (p1 - y1) ≤ 0 then none else (spJ5_newCapacity_0f7a4 p1 S).bind (fun x2 => (if (x2 <<< (S.1 164 1 &&& 31)) = 34 ∧ S.2.2.1.2.1 = S.2.2.1.2.1 ∧ S.2.2.1.2.2 = 16 ∧ byt16 (S.2.1 165) = true then allz (fun q3 => wr (pB S q3 34 (gF S)) (fun S4 => some S4)) else none)))) else none)
set_option maxHeartbeats 4000000 in
set_option maxRecDepth 100000 in
theorem mtJ5_ensureCapacityInternal_d00df_g {l : Launch} (hl0 : l.stackTraces = false) {G : Gt} (p1 : Int32) {S : Wo} : ∀ rr, spJ5_ensureCapacityInternal_d00df_g p1 S = some rr → MVz l yJ5_ensureCapacityInternal_d00df wsJ5_ensureCapacityInternal_d00df { frames := 3, cells := 1, slots := 34, locals := 82 } G S [rf G 164, .int p1] rr 1 34 := by
  refine MVzF_of (cc := cJ5_ensureCapacityInternal_d00df) (own := RJ5) (maxL := 3) (ret := none) (sp := spJ5_ensureCapacityInternal_d00df_g p1 S) (by decide +kernel) rfl rfl (Nat.le_of_ble_eq_true rfl) ?_
  intro p e s m args below meth c X
  have hinJ4 : ∀ w ∈ wsJ40, w ∈ wsJ5_ensureCapacityInternal_d00df := by decide +kernel
  show VS G p l e _ s m args below meth c 3 _ _ 0 0 S 0 [(0, rf G 164), (1, .int p1)] []
  unfold spJ5_ensureCapacityInternal_d00df_g
  refine vs_aload_n X dJ5_ensureCapacityInternal_d00df_0 0 rfl ?_
  refine g_Sb X hinJ4 0 (by decide) (by decide +kernel) rfl rfl dJ5_ensureCapacityInternal_d00df_1 ?_
  refine vs_blen X dJ5_ensureCapacityInternal_d00df_4 ?_
  refine vs_aload_n X dJ5_ensureCapacityInternal_d00df_5 0 rfl ?_
  refine g_Sb X hinJ4 1 (by decide) (by decide +kernel) rfl rfl dJ5_ensureCapacityInternal_d00df_6 ?_
  refine vs_ishr X dJ5_ensureCapacityInternal_d00df_9 ?_
  refine vs_nm (fun y1 hy1 => ?_)
  refine vs_istore_n X (lv' := [(2, .int y1), (0, rf G 164), (1, .int p1)]) dJ5_ensureCapacityInternal_d00df_10 (by decide) rfl ?_
  refine vs_iload_n X dJ5_ensureCapacityInternal_d00df_11 2 rfl ?_
  refine vs_iload_n X dJ5_ensureCapacityInternal_d00df_12 0 rfl ?_
  refine vs_isub X dJ5_ensureCapacityInternal_d00df_13 ?_
  refine vs_if_le X (tgt := 38) dJ5_ensureCapacityInternal_d00df_14 (by decide) (fun _ => ?_) (fun _ => ?_)
  · exact vs_none rfl
  · refine vs_aload_n X dJ5_ensureCapacityInternal_d00df_17 1 rfl ?_
    refine vs_aload_n X dJ5_ensureCapacityInternal_d00df_18 1 rfl ?_
    refine g_Sb X hinJ4 0 (by decide) (by decide +kernel) rfl rfl dJ5_ensureCapacityInternal_d00df_19 ?_
    refine vs_aload_n X dJ5_ensureCapacityInternal_d00df_22 1 rfl ?_
    refine vs_iload_n X dJ5_ensureCapacityInternal_d00df_23 2 rfl ?_
    refine vs_callUp_Sb X (As := [.int p1]) (st' := [.ref S.2.2.1.2.1, rf G 164]) (mtJ5_newCapacity_0f7a4 hl0 p1) (va_cwU 1 X.2.2.2.2.1 gJ5_ensureCapacityInternal_d00df_J5_newCapacity_0f7a4_u104J4 rfl rfl rfl rfl (by decide +kernel) ⟨Nat.le_of_ble_eq_true rfl, Nat.le_of_ble_eq_true rfl⟩) rfl (Nat.le_of_ble_eq_true rfl) dJ5_ensureCapacityInternal_d00df_24 ⟨Nat.le_of_ble_eq_true rfl, Nat.le_of_ble_eq_true rfl⟩ (fun x2 hx2 => ?_)
    refine vs_aload_n X dJ5_ensureCapacityInternal_d00df_27 1 rfl ?_
    refine g_Sb X hinJ4 1 (by decide) (by decide +kernel) rfl rfl dJ5_ensureCapacityInternal_d00df_28 ?_
    refine vs_ishl X dJ5_ensureCapacityInternal_d00df_31 ?_
    refine vs_grow (Qf := (fun r => MQ below (QV G r) args s 1 34 (Af G))) X rfl hinJ4 (va_cwS 2 X.2.2.2.2.1 gJ5_ensureCapacityInternal_d00df_J7_copyOf_9075b rfl rfl rfl (by decide +kernel) ⟨Nat.le_of_ble_eq_true rfl, Nat.le_of_ble_eq_true rfl⟩) (by decide +kernel) dJ5_ensureCapacityInternal_d00df_32 dJ5_ensureCapacityInternal_d00df_35 ⟨Nat.le_of_ble_eq_true rfl, Nat.le_of_ble_eq_true rfl⟩ (Nat.le_of_ble_eq_true rfl) (fun r z t h => MQ_mono (QV_z (r := r) (z := z)) t h) (fun q3 => ?_)
    refine vs_wr (fun S4 hS4 => ?_) rfl
    exact vs_vret X dJ5_ensureCapacityInternal_d00df_38 (by decide) (by decide)

noncomputable def spJ5_append_3fe6f_g (p1 : Int32) (S : Wo) : Option (Nat → Wo) :=
  bz (spJ5_ensureCapacityInternal_d00df_g (S.1 164 3 + 1) S) (fun S1 => (spJ5_isLatin1_aae02  S1).bind (fun x2 => (if x2 = 0 then (spJ5_isLatin1_aae02  S1).bind (fun x3 => jn (β := Option (Wo)) (wr (pI S1 164 3 (S1.1 164 3 + 1)) (fun S5 => none)) (fun k4 => (if x3 = 0 then k4 else none))) else (spJ1_canEncode_fc78d p1 S1).bind (fun x6 => (if x6 = 0 then (spJ5_isLatin1_aae02  S1).bind (fun x7 => jn (β := Option (Wo)) (wr (pI S1 164 3 (S1.1 164 3 + 1)) (fun S9 => none)) (fun k8 => (if x7 = 0 then k8 else none))) else wr (pI S1 164 3 (S1.1 164 3 + 1)) (fun S10 => (if S1.2.2.1.2.1 = S10.2.2.1.2.1 then (if inb (S1.1 164 3) S10.2.2.1.2.2 = true then wr (pF S10 165 (upd (S10.2.1 165) (ix (S1.1 164 3)) (vp_nar .byte ((p1 : Int32).toInt8.toInt32)))) (fun S11 => some S11) else none) else none)))))))
set_option maxHeartbeats 4000000 in
set_option maxRecDepth 100000 in
theorem mtJ5_append_3fe6f_g {l : Launch} (hl0 : l.stackTraces = false) {G : Gt} (p1 : Int32) {S : Wo} : ∀ rr, spJ5_append_3fe6f_g p1 S = some rr → MOz l yJ5_append_3fe6f wsJ5_append_3fe6f { frames := 4, cells := 1, slots := 34, locals := 104 } G S [rf G 164, .int p1] rr 1 34 := by
  refine MOzF_of (cc := cJ5_append_3fe6f) (own := RJ5) (maxL := 2) (ret := (some (.object "java/lang/AbstractStringBuilder"))) (sp := spJ5_append_3fe6f_g p1 S) (by decide +kernel) rfl rfl (Nat.le_of_ble_eq_true rfl) ?_
  intro p e s m args below meth c X
  have hinJ4 : ∀ w ∈ wsJ40, w ∈ wsJ5_append_3fe6f := by decide +kernel
  show VS G p l e _ s m args below meth c 2 _ _ 0 0 S 0 [(0, rf G 164), (1, .int p1)] []
  unfold spJ5_append_3fe6f_g
  refine vs_aload_n X dJ5_append_3fe6f_0 0 rfl ?_
  refine vs_aload_n X dJ5_append_3fe6f_1 0 rfl ?_
  refine g_Sb X hinJ4 3 (by decide) (by decide +kernel) rfl rfl dJ5_append_3fe6f_2 ?_
  refine vs_iconst X (v := 1) dJ5_append_3fe6f_5 (by decide) ?_
  refine vs_iadd X dJ5_append_3fe6f_6 ?_
  refine vs_callUvz_Sb (Qf := (fun r => MQ below (QO G r) args s 1 34 (Af G))) X (As := [.int (S.1 164 3 + 1)]) (st' := []) (mtJ5_ensureCapacityInternal_d00df_g hl0 (S.1 164 3 + 1)) (va_cwU 1 X.2.2.2.2.1 gJ5_append_3fe6f_J5_ensureCapacityInternal_d00df_u100J4 rfl rfl rfl rfl (by decide +kernel) ⟨Nat.le_of_ble_eq_true rfl, Nat.le_of_ble_eq_true rfl⟩) rfl (Nat.le_of_ble_eq_true rfl) dJ5_append_3fe6f_7 ⟨Nat.le_of_ble_eq_true rfl, Nat.le_of_ble_eq_true rfl⟩ (fun r z t h => MQ_mono (QO_z (r := r) (z := z)) t h) (fun S1 => ?_)
  refine vs_aload_n X dJ5_append_3fe6f_10 0 rfl ?_
  refine vs_callUp_Sb X (As := []) (st' := []) (mtJ5_isLatin1_aae02 hl0 ) (va_cwU 0 X.2.2.2.2.1 gJ5_append_3fe6f_J5_isLatin1_aae02_u83J4 rfl rfl rfl rfl (by decide +kernel) ⟨Nat.le_of_ble_eq_true rfl, Nat.le_of_ble_eq_true rfl⟩) rfl (Nat.le_of_ble_eq_true rfl) dJ5_append_3fe6f_11 ⟨Nat.le_of_ble_eq_true rfl, Nat.le_of_ble_eq_true rfl⟩ (fun x2 hx2 => ?_)
  refine vs_if_eq X (tgt := 45) dJ5_append_3fe6f_14 (by decide) (fun _ => ?_) (fun _ => ?_)
  · refine vs_aload_n X dJ5_append_3fe6f_45 0 rfl ?_
    refine vs_callUp_Sb X (As := []) (st' := []) (mtJ5_isLatin1_aae02 hl0 ) (va_cwU 0 X.2.2.2.2.1 gJ5_append_3fe6f_J5_isLatin1_aae02_u83J4 rfl rfl rfl rfl (by decide +kernel) ⟨Nat.le_of_ble_eq_true rfl, Nat.le_of_ble_eq_true rfl⟩) rfl (Nat.le_of_ble_eq_true rfl) dJ5_append_3fe6f_46 ⟨Nat.le_of_ble_eq_true rfl, Nat.le_of_ble_eq_true rfl⟩ (fun x3 hx3 => ?_)
    refine vs_jn (β := Option (Wo)) (P := fun k4 => VS G p l e ({ frames := 4, cells := 1, slots := 34, locals := 104 } : Room) s m args below meth c 2 (fun r => MQ below (QO G r) args s 1 34 (Af G)) (k4) 1 34 S1 56 [(0, rf G 164), (1, .int p1)] []) ?_ (fun k4 hk4 => ?_)
    · refine vs_aload_n X dJ5_append_3fe6f_56 0 rfl ?_
      refine g_Sb X hinJ4 0 (by decide) (by decide +kernel) rfl rfl dJ5_append_3fe6f_57 ?_
      refine vs_aload_n X dJ5_append_3fe6f_60 0 rfl ?_
      refine vs_dup X dJ5_append_3fe6f_61 rfl ?_
      refine g_Sb X hinJ4 3 (by decide) (by decide +kernel) rfl rfl dJ5_append_3fe6f_62 ?_
      refine vs_dup_x1 X dJ5_append_3fe6f_65 rfl rfl ?_
      refine vs_iconst X (v := 1) dJ5_append_3fe6f_66 (by decide) ?_
      refine vs_iadd X dJ5_append_3fe6f_67 ?_
      refine p_Sb X hinJ4 3 (by decide) (by decide +kernel) rfl rfl rfl rfl rfl rfl dJ5_append_3fe6f_68 (fun S5 hS5 => ?_)
      refine vs_iload_n X dJ5_append_3fe6f_71 1 rfl ?_
      exact vs_none rfl
    · refine vs_if_eq X (tgt := 56) dJ5_append_3fe6f_49 (by decide) (fun _ => ?_) (fun _ => ?_)
      · exact vs_join [0, 1] (Nat.le_of_ble_eq_true rfl) (Nat.le_of_ble_eq_true rfl) rfl (hk4)
      · refine vs_aload_n X dJ5_append_3fe6f_52 0 rfl ?_
        exact vs_none rfl
  · refine vs_iload_n X dJ5_append_3fe6f_17 1 rfl ?_
    refine vs_callSp X  (As := [.int p1]) (st' := []) (mtJ1_canEncode_fc78d hl0 p1) (va_cwS 1 X.2.2.2.2.1 gJ5_append_3fe6f_J1_canEncode_fc78d rfl rfl rfl (by decide +kernel) ⟨Nat.le_of_ble_eq_true rfl, Nat.le_of_ble_eq_true rfl⟩) rfl (Nat.le_of_ble_eq_true rfl) dJ5_append_3fe6f_18 ⟨Nat.le_of_ble_eq_true rfl, Nat.le_of_ble_eq_true rfl⟩ (fun x6 hx6 => ?_)
    refine vs_if_eq X (tgt := 45) dJ5_append_3fe6f_21 (by decide) (fun _ => ?_) (fun _ => ?_)
    · refine vs_aload_n X dJ5_append_3fe6f_45 0 rfl ?_
      refine vs_callUp_Sb X (As := []) (st' := []) (mtJ5_isLatin1_aae02 hl0 ) (va_cwU 0 X.2.2.2.2.1 gJ5_append_3fe6f_J5_isLatin1_aae02_u83J4 rfl rfl rfl rfl (by decide +kernel) ⟨Nat.le_of_ble_eq_true rfl, Nat.le_of_ble_eq_true rfl⟩) rfl (Nat.le_of_ble_eq_true rfl) dJ5_append_3fe6f_46 ⟨Nat.le_of_ble_eq_true rfl, Nat.le_of_ble_eq_true rfl⟩ (fun x7 hx7 => ?_)
      refine vs_jn (β := Option (Wo)) (P := fun k8 => VS G p l e ({ frames := 4, cells := 1, slots := 34, locals := 104 } : Room) s m args below meth c 2 (fun r => MQ below (QO G r) args s 1 34 (Af G)) (k8) 1 34 S1 56 [(0, rf G 164), (1, .int p1)] []) ?_ (fun k8 hk8 => ?_)
      · refine vs_aload_n X dJ5_append_3fe6f_56 0 rfl ?_
        refine g_Sb X hinJ4 0 (by decide) (by decide +kernel) rfl rfl dJ5_append_3fe6f_57 ?_
        refine vs_aload_n X dJ5_append_3fe6f_60 0 rfl ?_
        refine vs_dup X dJ5_append_3fe6f_61 rfl ?_
        refine g_Sb X hinJ4 3 (by decide) (by decide +kernel) rfl rfl dJ5_append_3fe6f_62 ?_
        refine vs_dup_x1 X dJ5_append_3fe6f_65 rfl rfl ?_
        refine vs_iconst X (v := 1) dJ5_append_3fe6f_66 (by decide) ?_
        refine vs_iadd X dJ5_append_3fe6f_67 ?_
        refine p_Sb X hinJ4 3 (by decide) (by decide +kernel) rfl rfl rfl rfl rfl rfl dJ5_append_3fe6f_68 (fun S9 hS9 => ?_)
        refine vs_iload_n X dJ5_append_3fe6f_71 1 rfl ?_
        exact vs_none rfl
      · refine vs_if_eq X (tgt := 56) dJ5_append_3fe6f_49 (by decide) (fun _ => ?_) (fun _ => ?_)
        · exact vs_join [0, 1] (Nat.le_of_ble_eq_true rfl) (Nat.le_of_ble_eq_true rfl) rfl (hk8)
        · refine vs_aload_n X dJ5_append_3fe6f_52 0 rfl ?_
          exact vs_none rfl
    · refine vs_aload_n X dJ5_append_3fe6f_24 0 rfl ?_
      refine g_Sb X hinJ4 0 (by decide) (by decide +kernel) rfl rfl dJ5_append_3fe6f_25 ?_
      refine vs_aload_n X dJ5_append_3fe6f_28 0 rfl ?_
      refine vs_dup X dJ5_append_3fe6f_29 rfl ?_
      refine g_Sb X hinJ4 3 (by decide) (by decide +kernel) rfl rfl dJ5_append_3fe6f_30 ?_
      refine vs_dup_x1 X dJ5_append_3fe6f_33 rfl rfl ?_
      refine vs_iconst X (v := 1) dJ5_append_3fe6f_34 (by decide) ?_
      refine vs_iadd X dJ5_append_3fe6f_35 ?_
      refine p_Sb X hinJ4 3 (by decide) (by decide +kernel) rfl rfl rfl rfl rfl rfl dJ5_append_3fe6f_36 (fun S10 hS10 => ?_)
      refine vs_iload_n X dJ5_append_3fe6f_39 1 rfl ?_
      refine vs_i2b X (v := ((p1 : Int32).toInt8.toInt32)) dJ5_append_3fe6f_40 rfl ?_
      refine vs_bast X dJ5_append_3fe6f_41 (fun S11 hS11 => ?_)
      refine vs_goto X (tgt := 75) dJ5_append_3fe6f_42 (by decide) ?_
      refine vs_aload_n X dJ5_append_3fe6f_75 0 rfl ?_
      exact vs_areto X dJ5_append_3fe6f_76 (by decide) (by decide)

noncomputable def spJ4_append_cf468_g (p1 : Int32) (S : Wo) : Option (Nat → Wo) :=
  bz (spJ5_append_3fe6f_g p1 S) (fun S1 => some S1)
set_option maxHeartbeats 4000000 in
set_option maxRecDepth 100000 in
theorem mtJ4_append_cf468_g {l : Launch} (hl0 : l.stackTraces = false) {G : Gt} (p1 : Int32) {S : Wo} : ∀ rr, spJ4_append_cf468_g p1 S = some rr → MOz l yJ4_append_cf468 wsJ4_append_cf468 { frames := 5, cells := 1, slots := 34, locals := 125 } G S [rf G 164, .int p1] rr 1 34 := by
  refine MOzF_of (cc := cJ4_append_cf468) (own := RJ4) (maxL := 2) (ret := (some (.object "java/lang/StringBuilder"))) (sp := spJ4_append_cf468_g p1 S) (by decide +kernel) rfl rfl (Nat.le_of_ble_eq_true rfl) ?_
  intro p e s m args below meth c X
  show VS G p l e _ s m args below meth c 2 _ _ 0 0 S 0 [(0, rf G 164), (1, .int p1)] []
  unfold spJ4_append_cf468_g
  refine vs_aload_n X dJ4_append_cf468_0 0 rfl ?_
  refine vs_iload_n X dJ4_append_cf468_1 1 rfl ?_
  refine vs_callSUoz_Sb (Qf := (fun r => MQ below (QO G r) args s 1 34 (Af G))) X (As := [.int p1]) (st' := []) (mtJ5_append_3fe6f_g hl0 p1) (va_cwSU 1 X.2.2.2.2.1 gJ4_append_cf468_J5_append_3fe6f_s50 rfl rfl rfl (by decide +kernel) ⟨Nat.le_of_ble_eq_true rfl, Nat.le_of_ble_eq_true rfl⟩) rfl (Nat.le_of_ble_eq_true rfl) dJ4_append_cf468_2 ⟨Nat.le_of_ble_eq_true rfl, Nat.le_of_ble_eq_true rfl⟩ (fun r z t h => MQ_mono (QO_z (r := r) (z := z)) t h) (fun S1 => ?_)
  refine vs_pop X dJ4_append_cf468_5 rfl ?_
  refine vs_aload_n X dJ4_append_cf468_6 0 rfl ?_
  exact vs_areto X dJ4_append_cf468_7 (by decide) (by decide)

def lpX6_writeFields_18  (w1 : Int32)  : Nat → Int32 → Wo → Option (Int32 × Wo)
  | 0, _, _ => none
  | f + 1, v2, S4 => (if (16 : Int32) ≤ v2 then (spJ4_length_8abf5  S4).bind (fun x5 => some (x5, S4)) else (if v2 ≤ 0 then (spX5_signOf 1 v2 w1 S4).bind (fun x6 => (spJ4_append_cf468 x6 S4).bind (fun S7 => lpX6_writeFields_18  w1 f (v2 + 1) S7)) else (if (v2 - v2 / 4 * 4) = 0 then (spJ4_append_cf468 47 S4).bind (fun S8 => (spX5_signOf 1 v2 w1 S8).bind (fun x9 => (spJ4_append_cf468 x9 S8).bind (fun S10 => lpX6_writeFields_18  w1 f (v2 + 1) S10))) else (spX5_signOf 1 v2 w1 S4).bind (fun x11 => (spJ4_append_cf468 x11 S4).bind (fun S12 => lpX6_writeFields_18  w1 f (v2 + 1) S12)))))
noncomputable def lpX6_writeFields_18z  (w1 : Int32)  : Nat → Int32 → Wo → Option (Nat → Int32 × Wo)
  | 0, _, _ => none
  | f + 1, v2, S14 => (if (16 : Int32) ≤ v2 then (spJ4_length_8abf5  S14).bind (fun x15 => some (fun _ => (x15, S14))) else (if v2 ≤ 0 then (spX5_signOf 1 v2 w1 S14).bind (fun x16 => apz (spJ4_append_cf468 x16 S14) (spJ4_append_cf468_g x16 S14) (fun S17 => lpX6_writeFields_18z  w1 f (v2 + 1) S17) (fun S18 => lpX6_writeFields_18  w1 200 (v2 + 1) S18)) else (if (v2 - v2 / 4 * 4) = 0 then apz (spJ4_append_cf468 47 S14) (spJ4_append_cf468_g 47 S14) (fun S19 => (spX5_signOf 1 v2 w1 S19).bind (fun x21 => apz (spJ4_append_cf468 x21 S19) (spJ4_append_cf468_g x21 S19) (fun S22 => lpX6_writeFields_18z  w1 f (v2 + 1) S22) (fun S23 => lpX6_writeFields_18  w1 200 (v2 + 1) S23))) (fun S20 => (spX5_signOf 1 v2 w1 S20).bind (fun x24 => (spJ4_append_cf468 x24 S20).bind (fun S25 => lpX6_writeFields_18  w1 200 (v2 + 1) S25))) else (spX5_signOf 1 v2 w1 S14).bind (fun x26 => apz (spJ4_append_cf468 x26 S14) (spJ4_append_cf468_g x26 S14) (fun S27 => lpX6_writeFields_18z  w1 f (v2 + 1) S27) (fun S28 => lpX6_writeFields_18  w1 200 (v2 + 1) S28)))))
noncomputable def spX6_writeFields  (S : Wo) : Option (Nat → Int32 × Wo) :=
  (spX5_certifiedNow 1 S).bind (fun x1 => (spJ4_setLength_d00df 0 S).bind (fun S2 => lpX6_writeFields_18z  x1 200 0 S2))
set_option maxHeartbeats 4000000 in
set_option maxRecDepth 100000 in
theorem mtX6_writeFields {l : Launch} (hl0 : l.stackTraces = false) {G : Gt}  {S : Wo} : ∀ rr, spX6_writeFields  S = some rr → MIz l yX6_writeFields wsX6_writeFields { frames := 6, cells := 1, slots := 34, locals := 146 } G S [rf G 0] rr 1 34 := by
  refine MIz_of (cc := cX6_writeFields) (own := RX6) (maxL := 3) (ret := (some .int)) (sp := spX6_writeFields  S) (by decide +kernel) rfl rfl (Nat.le_of_ble_eq_true rfl) ?_
  intro p e s m args below meth c X
  have hinX6 : ∀ w ∈ wsX60, w ∈ wsX6_writeFields := by decide +kernel
  show VS G p l e _ s m args below meth c 3 _ _ 0 0 S 0 [(0, rf G 0)] []
  unfold spX6_writeFields
  refine vs_aload_n X dX6_writeFields_0 0 rfl ?_
  refine g_Reg  X hinX6 0 (by decide) (by decide +kernel) rfl rfl dX6_writeFields_1 ?_
  refine vs_callVp X  (As := []) (st' := []) (mtX5_certifiedNow hl0 (by decide)) (cwV 0 X.2.2.2.2.1 gX6_writeFields_X5_certifiedNow rfl rfl rfl (by decide +kernel) ⟨Nat.le_of_ble_eq_true rfl, Nat.le_of_ble_eq_true rfl⟩) (by decide) (by decide) rfl rfl rfl (Nat.le_of_ble_eq_true rfl) dX6_writeFields_4 ⟨Nat.le_of_ble_eq_true rfl, Nat.le_of_ble_eq_true rfl⟩ (fun x1 hx1 => ?_)
  refine vs_istore_n X (lv' := [(1, .int x1), (0, rf G 0)]) dX6_writeFields_7 (by decide) rfl ?_
  refine vs_aload_n X dX6_writeFields_8 1 rfl ?_
  refine g_Reg  X hinX6 7 (by decide) (by decide +kernel) rfl rfl dX6_writeFields_9 ?_
  refine vs_iconst X (v := 0) dX6_writeFields_12 (by decide) ?_
  refine vs_callVv X  (As := [.int 0]) (st' := []) (mtJ4_setLength_d00df hl0 0) (cwV 1 X.2.2.2.2.1 gX6_writeFields_J4_setLength_d00df rfl rfl rfl (by decide +kernel) ⟨Nat.le_of_ble_eq_true rfl, Nat.le_of_ble_eq_true rfl⟩) (by decide) (by decide) rfl rfl rfl (Nat.le_of_ble_eq_true rfl) dX6_writeFields_13 ⟨Nat.le_of_ble_eq_true rfl, Nat.le_of_ble_eq_true rfl⟩ (fun S2 hS2 => ?_)
  refine vs_iconst X (v := 0) dX6_writeFields_16 (by decide) ?_
  refine vs_istore_n X (lv' := [(2, .int 0), (1, .int x1), (0, rf G 0)]) dX6_writeFields_17 (by decide) rfl ?_
  have L3 : ∀ (w1 : Int32) (f : Nat) (v2 : Int32) (S4 : Wo), VS G p l e ({ frames := 6, cells := 1, slots := 34, locals := 146 } : Room) s m args below meth c 3 (fun r => MQ below (QI G r) args s 1 34 (Af G)) (lpX6_writeFields_18  w1 f v2 S4) 1 34 S4 18 [(0, rf G 0), (1, .int w1), (2, .int v2)] [] := by
    intro w1 f
    induction f with
    | zero => intro v2 S4; exact vs_none rfl
    | succ f ih =>
        intro v2 S4
        rw [lpX6_writeFields_18]
        refine vs_iload_n X dX6_writeFields_18 2 rfl ?_
        refine vs_bipush X (v := 16) dX6_writeFields_19 (by decide) ?_
        refine vs_icmp_ge X (tgt := 67) dX6_writeFields_21 (by decide) (fun _ => ?_) (fun _ => ?_)
        · refine vs_aload_n X dX6_writeFields_67 0 rfl ?_
          refine g_Reg  X hinX6 7 (by decide) (by decide +kernel) rfl rfl dX6_writeFields_68 ?_
          refine vs_callVp X  (As := []) (st' := []) (mtJ4_length_8abf5 hl0 ) (cwV 0 X.2.2.2.2.1 gX6_writeFields_J4_length_8abf5 rfl rfl rfl (by decide +kernel) ⟨Nat.le_of_ble_eq_true rfl, Nat.le_of_ble_eq_true rfl⟩) (by decide) (by decide) rfl rfl rfl (Nat.le_of_ble_eq_true rfl) dX6_writeFields_71 ⟨Nat.le_of_ble_eq_true rfl, Nat.le_of_ble_eq_true rfl⟩ (fun x5 hx5 => ?_)
          exact vs_iret X dX6_writeFields_74 (by decide) (by decide)
        · refine vs_iload_n X dX6_writeFields_24 2 rfl ?_
          refine vs_if_le X (tgt := 44) dX6_writeFields_25 (by decide) (fun _ => ?_) (fun _ => ?_)
          · refine vs_aload_n X dX6_writeFields_44 0 rfl ?_
            refine g_Reg  X hinX6 7 (by decide) (by decide +kernel) rfl rfl dX6_writeFields_45 ?_
            refine vs_aload_n X dX6_writeFields_48 0 rfl ?_
            refine g_Reg  X hinX6 0 (by decide) (by decide +kernel) rfl rfl dX6_writeFields_49 ?_
            refine vs_iload_n X dX6_writeFields_52 2 rfl ?_
            refine vs_iload_n X dX6_writeFields_53 1 rfl ?_
            refine vs_callVp X  (As := [.int v2, .int w1]) (st' := [rf G 164]) (mtX5_signOf hl0 (by decide) v2 w1) (cwV 2 X.2.2.2.2.1 gX6_writeFields_X5_signOf rfl rfl rfl (by decide +kernel) ⟨Nat.le_of_ble_eq_true rfl, Nat.le_of_ble_eq_true rfl⟩) (by decide) (by decide) rfl rfl rfl (Nat.le_of_ble_eq_true rfl) dX6_writeFields_54 ⟨Nat.le_of_ble_eq_true rfl, Nat.le_of_ble_eq_true rfl⟩ (fun x6 hx6 => ?_)
            refine vs_callVo_Sb X (As := [.int x6]) (st' := []) (mtJ4_append_cf468 hl0 x6) (cwV 1 X.2.2.2.2.1 gX6_writeFields_J4_append_cf468 rfl rfl rfl (by decide +kernel) ⟨Nat.le_of_ble_eq_true rfl, Nat.le_of_ble_eq_true rfl⟩) rfl (Nat.le_of_ble_eq_true rfl) dX6_writeFields_57 ⟨Nat.le_of_ble_eq_true rfl, Nat.le_of_ble_eq_true rfl⟩ (fun S7 hS7 => ?_)
            refine vs_pop X dX6_writeFields_60 rfl ?_
            refine vs_iinc X (v := (v2 + 1)) (lv' := [(2, .int (v2 + 1)), (0, rf G 0), (1, .int w1)]) dX6_writeFields_61 2 rfl rfl (by decide) rfl ?_
            refine vs_goto X (tgt := 18) dX6_writeFields_64 (by decide) ?_
            refine vs_sub [1, 2, 0] (lv' := [(0, rf G 0), (1, .int w1), (2, .int (v2 + 1))]) rfl ?_
            exact ih (v2 + 1) S7
          · refine vs_iload_n X dX6_writeFields_28 2 rfl ?_
            refine vs_iconst X (v := 4) dX6_writeFields_29 (by decide) ?_
            refine vs_irem X dX6_writeFields_30 (by decide) ?_
            refine vs_if_ne X (tgt := 44) dX6_writeFields_31 (by decide) (fun _ => ?_) (fun _ => ?_)
            · refine vs_aload_n X dX6_writeFields_34 0 rfl ?_
              refine g_Reg  X hinX6 7 (by decide) (by decide +kernel) rfl rfl dX6_writeFields_35 ?_
              refine vs_bipush X (v := 47) dX6_writeFields_38 (by decide) ?_
              refine vs_callVo_Sb X (As := [.int 47]) (st' := []) (mtJ4_append_cf468 hl0 47) (cwV 1 X.2.2.2.2.1 gX6_writeFields_J4_append_cf468 rfl rfl rfl (by decide +kernel) ⟨Nat.le_of_ble_eq_true rfl, Nat.le_of_ble_eq_true rfl⟩) rfl (Nat.le_of_ble_eq_true rfl) dX6_writeFields_40 ⟨Nat.le_of_ble_eq_true rfl, Nat.le_of_ble_eq_true rfl⟩ (fun S8 hS8 => ?_)
              refine vs_pop X dX6_writeFields_43 rfl ?_
              refine vs_aload_n X dX6_writeFields_44 0 rfl ?_
              refine g_Reg  X hinX6 7 (by decide) (by decide +kernel) rfl rfl dX6_writeFields_45 ?_
              refine vs_aload_n X dX6_writeFields_48 0 rfl ?_
              refine g_Reg  X hinX6 0 (by decide) (by decide +kernel) rfl rfl dX6_writeFields_49 ?_
              refine vs_iload_n X dX6_writeFields_52 2 rfl ?_
              refine vs_iload_n X dX6_writeFields_53 1 rfl ?_
              refine vs_callVp X  (As := [.int v2, .int w1]) (st' := [rf G 164]) (mtX5_signOf hl0 (by decide) v2 w1) (cwV 2 X.2.2.2.2.1 gX6_writeFields_X5_signOf rfl rfl rfl (by decide +kernel) ⟨Nat.le_of_ble_eq_true rfl, Nat.le_of_ble_eq_true rfl⟩) (by decide) (by decide) rfl rfl rfl (Nat.le_of_ble_eq_true rfl) dX6_writeFields_54 ⟨Nat.le_of_ble_eq_true rfl, Nat.le_of_ble_eq_true rfl⟩ (fun x9 hx9 => ?_)
              refine vs_callVo_Sb X (As := [.int x9]) (st' := []) (mtJ4_append_cf468 hl0 x9) (cwV 1 X.2.2.2.2.1 gX6_writeFields_J4_append_cf468 rfl rfl rfl (by decide +kernel) ⟨Nat.le_of_ble_eq_true rfl, Nat.le_of_ble_eq_true rfl⟩) rfl (Nat.le_of_ble_eq_true rfl) dX6_writeFields_57 ⟨Nat.le_of_ble_eq_true rfl, Nat.le_of_ble_eq_true rfl⟩ (fun S10 hS10 => ?_)
              refine vs_pop X dX6_writeFields_60 rfl ?_
              refine vs_iinc X (v := (v2 + 1)) (lv' := [(2, .int (v2 + 1)), (0, rf G 0), (1, .int w1)]) dX6_writeFields_61 2 rfl rfl (by decide) rfl ?_
              refine vs_goto X (tgt := 18) dX6_writeFields_64 (by decide) ?_
              refine vs_sub [1, 2, 0] (lv' := [(0, rf G 0), (1, .int w1), (2, .int (v2 + 1))]) rfl ?_
              exact ih (v2 + 1) S10
            · refine vs_aload_n X dX6_writeFields_44 0 rfl ?_
              refine g_Reg  X hinX6 7 (by decide) (by decide +kernel) rfl rfl dX6_writeFields_45 ?_
              refine vs_aload_n X dX6_writeFields_48 0 rfl ?_
              refine g_Reg  X hinX6 0 (by decide) (by decide +kernel) rfl rfl dX6_writeFields_49 ?_
              refine vs_iload_n X dX6_writeFields_52 2 rfl ?_
              refine vs_iload_n X dX6_writeFields_53 1 rfl ?_
              refine vs_callVp X  (As := [.int v2, .int w1]) (st' := [rf G 164]) (mtX5_signOf hl0 (by decide) v2 w1) (cwV 2 X.2.2.2.2.1 gX6_writeFields_X5_signOf rfl rfl rfl (by decide +kernel) ⟨Nat.le_of_ble_eq_true rfl, Nat.le_of_ble_eq_true rfl⟩) (by decide) (by decide) rfl rfl rfl (Nat.le_of_ble_eq_true rfl) dX6_writeFields_54 ⟨Nat.le_of_ble_eq_true rfl, Nat.le_of_ble_eq_true rfl⟩ (fun x11 hx11 => ?_)
              refine vs_callVo_Sb X (As := [.int x11]) (st' := []) (mtJ4_append_cf468 hl0 x11) (cwV 1 X.2.2.2.2.1 gX6_writeFields_J4_append_cf468 rfl rfl rfl (by decide +kernel) ⟨Nat.le_of_ble_eq_true rfl, Nat.le_of_ble_eq_true rfl⟩) rfl (Nat.le_of_ble_eq_true rfl) dX6_writeFields_57 ⟨Nat.le_of_ble_eq_true rfl, Nat.le_of_ble_eq_true rfl⟩ (fun S12 hS12 => ?_)
              refine vs_pop X dX6_writeFields_60 rfl ?_
              refine vs_iinc X (v := (v2 + 1)) (lv' := [(2, .int (v2 + 1)), (0, rf G 0), (1, .int w1)]) dX6_writeFields_61 2 rfl rfl (by decide) rfl ?_
              refine vs_goto X (tgt := 18) dX6_writeFields_64 (by decide) ?_
              refine vs_sub [1, 2, 0] (lv' := [(0, rf G 0), (1, .int w1), (2, .int (v2 + 1))]) rfl ?_
              exact ih (v2 + 1) S12
  have L13 : ∀ (w1 : Int32) (f : Nat) (v2 : Int32) (S14 : Wo), VS G p l e ({ frames := 6, cells := 1, slots := 34, locals := 146 } : Room) s m args below meth c 3 (fun r => MQ below (QIz G r) args s 1 34 (Af G)) (lpX6_writeFields_18z  w1 f v2 S14) 0 0 S14 18 [(0, rf G 0), (1, .int w1), (2, .int v2)] [] := by
    intro w1 f
    induction f with
    | zero => intro v2 S14; exact vs_none rfl
    | succ f ih =>
        intro v2 S14
        rw [lpX6_writeFields_18z]
        refine vs_iload_n X dX6_writeFields_18 2 rfl ?_
        refine vs_bipush X (v := 16) dX6_writeFields_19 (by decide) ?_
        refine vs_icmp_ge X (tgt := 67) dX6_writeFields_21 (by decide) (fun _ => ?_) (fun _ => ?_)
        · refine vs_aload_n X dX6_writeFields_67 0 rfl ?_
          refine g_Reg  X hinX6 7 (by decide) (by decide +kernel) rfl rfl dX6_writeFields_68 ?_
          refine vs_callVp X  (As := []) (st' := []) (mtJ4_length_8abf5 hl0 ) (cwV 0 X.2.2.2.2.1 gX6_writeFields_J4_length_8abf5 rfl rfl rfl (by decide +kernel) ⟨Nat.le_of_ble_eq_true rfl, Nat.le_of_ble_eq_true rfl⟩) (by decide) (by decide) rfl rfl rfl (Nat.le_of_ble_eq_true rfl) dX6_writeFields_71 ⟨Nat.le_of_ble_eq_true rfl, Nat.le_of_ble_eq_true rfl⟩ (fun x15 hx15 => ?_)
          exact vs_iretz X dX6_writeFields_74 (by decide) (by decide)
        · refine vs_iload_n X dX6_writeFields_24 2 rfl ?_
          refine vs_if_le X (tgt := 44) dX6_writeFields_25 (by decide) (fun _ => ?_) (fun _ => ?_)
          · refine vs_aload_n X dX6_writeFields_44 0 rfl ?_
            refine g_Reg  X hinX6 7 (by decide) (by decide +kernel) rfl rfl dX6_writeFields_45 ?_
            refine vs_aload_n X dX6_writeFields_48 0 rfl ?_
            refine g_Reg  X hinX6 0 (by decide) (by decide +kernel) rfl rfl dX6_writeFields_49 ?_
            refine vs_iload_n X dX6_writeFields_52 2 rfl ?_
            refine vs_iload_n X dX6_writeFields_53 1 rfl ?_
            refine vs_callVp X  (As := [.int v2, .int w1]) (st' := [rf G 164]) (mtX5_signOf hl0 (by decide) v2 w1) (cwV 2 X.2.2.2.2.1 gX6_writeFields_X5_signOf rfl rfl rfl (by decide +kernel) ⟨Nat.le_of_ble_eq_true rfl, Nat.le_of_ble_eq_true rfl⟩) (by decide) (by decide) rfl rfl rfl (Nat.le_of_ble_eq_true rfl) dX6_writeFields_54 ⟨Nat.le_of_ble_eq_true rfl, Nat.le_of_ble_eq_true rfl⟩ (fun x16 hx16 => ?_)
            refine vs_callApz (Qf := (fun r => MQ below (QI G r) args s 1 34 (Af G))) X (As := [.int x16]) (st' := []) (mtJ4_append_cf468 hl0 x16) (mtJ4_append_cf468_g hl0 x16) (cwV 1 X.2.2.2.2.1 gX6_writeFields_J4_append_cf468 rfl rfl rfl (by decide +kernel) ⟨Nat.le_of_ble_eq_true rfl, Nat.le_of_ble_eq_true rfl⟩) (cwV 1 X.2.2.2.2.1 gX6_writeFields_J4_append_cf468 rfl rfl rfl (by decide +kernel) ⟨Nat.le_of_ble_eq_true rfl, Nat.le_of_ble_eq_true rfl⟩) rfl (Nat.le_of_ble_eq_true rfl) dX6_writeFields_57 ⟨Nat.le_of_ble_eq_true rfl, Nat.le_of_ble_eq_true rfl⟩ (fun r z t h => MQ_mono (QI_z (r := r) (z := z)) t h) (fun S17 => ?_) (fun S18 => ?_)
            · refine vs_pop X dX6_writeFields_60 rfl ?_
              refine vs_iinc X (v := (v2 + 1)) (lv' := [(2, .int (v2 + 1)), (0, rf G 0), (1, .int w1)]) dX6_writeFields_61 2 rfl rfl (by decide) rfl ?_
              refine vs_goto X (tgt := 18) dX6_writeFields_64 (by decide) ?_
              refine vs_sub [1, 2, 0] (lv' := [(0, rf G 0), (1, .int w1), (2, .int (v2 + 1))]) rfl ?_
              exact ih (v2 + 1) S17
            · refine vs_pop X dX6_writeFields_60 rfl ?_
              refine vs_iinc X (v := (v2 + 1)) (lv' := [(2, .int (v2 + 1)), (0, rf G 0), (1, .int w1)]) dX6_writeFields_61 2 rfl rfl (by decide) rfl ?_
              refine vs_goto X (tgt := 18) dX6_writeFields_64 (by decide) ?_
              refine vs_sub [1, 2, 0] (lv' := [(0, rf G 0), (1, .int w1), (2, .int (v2 + 1))]) rfl ?_
              exact L3 w1 200 (v2 + 1) S18
          · refine vs_iload_n X dX6_writeFields_28 2 rfl ?_
            refine vs_iconst X (v := 4) dX6_writeFields_29 (by decide) ?_
            refine vs_irem X dX6_writeFields_30 (by decide) ?_
            refine vs_if_ne X (tgt := 44) dX6_writeFields_31 (by decide) (fun _ => ?_) (fun _ => ?_)
            · refine vs_aload_n X dX6_writeFields_34 0 rfl ?_
              refine g_Reg  X hinX6 7 (by decide) (by decide +kernel) rfl rfl dX6_writeFields_35 ?_
              refine vs_bipush X (v := 47) dX6_writeFields_38 (by decide) ?_
              refine vs_callApz (Qf := (fun r => MQ below (QI G r) args s 1 34 (Af G))) X (As := [.int 47]) (st' := []) (mtJ4_append_cf468 hl0 47) (mtJ4_append_cf468_g hl0 47) (cwV 1 X.2.2.2.2.1 gX6_writeFields_J4_append_cf468 rfl rfl rfl (by decide +kernel) ⟨Nat.le_of_ble_eq_true rfl, Nat.le_of_ble_eq_true rfl⟩) (cwV 1 X.2.2.2.2.1 gX6_writeFields_J4_append_cf468 rfl rfl rfl (by decide +kernel) ⟨Nat.le_of_ble_eq_true rfl, Nat.le_of_ble_eq_true rfl⟩) rfl (Nat.le_of_ble_eq_true rfl) dX6_writeFields_40 ⟨Nat.le_of_ble_eq_true rfl, Nat.le_of_ble_eq_true rfl⟩ (fun r z t h => MQ_mono (QI_z (r := r) (z := z)) t h) (fun S19 => ?_) (fun S20 => ?_)
              · refine vs_pop X dX6_writeFields_43 rfl ?_
                refine vs_aload_n X dX6_writeFields_44 0 rfl ?_
                refine g_Reg  X hinX6 7 (by decide) (by decide +kernel) rfl rfl dX6_writeFields_45 ?_
                refine vs_aload_n X dX6_writeFields_48 0 rfl ?_
                refine g_Reg  X hinX6 0 (by decide) (by decide +kernel) rfl rfl dX6_writeFields_49 ?_
                refine vs_iload_n X dX6_writeFields_52 2 rfl ?_
                refine vs_iload_n X dX6_writeFields_53 1 rfl ?_
                refine vs_callVp X  (As := [.int v2, .int w1]) (st' := [rf G 164]) (mtX5_signOf hl0 (by decide) v2 w1) (cwV 2 X.2.2.2.2.1 gX6_writeFields_X5_signOf rfl rfl rfl (by decide +kernel) ⟨Nat.le_of_ble_eq_true rfl, Nat.le_of_ble_eq_true rfl⟩) (by decide) (by decide) rfl rfl rfl (Nat.le_of_ble_eq_true rfl) dX6_writeFields_54 ⟨Nat.le_of_ble_eq_true rfl, Nat.le_of_ble_eq_true rfl⟩ (fun x21 hx21 => ?_)
                refine vs_callApz (Qf := (fun r => MQ below (QI G r) args s 1 34 (Af G))) X (As := [.int x21]) (st' := []) (mtJ4_append_cf468 hl0 x21) (mtJ4_append_cf468_g hl0 x21) (cwV 1 X.2.2.2.2.1 gX6_writeFields_J4_append_cf468 rfl rfl rfl (by decide +kernel) ⟨Nat.le_of_ble_eq_true rfl, Nat.le_of_ble_eq_true rfl⟩) (cwV 1 X.2.2.2.2.1 gX6_writeFields_J4_append_cf468 rfl rfl rfl (by decide +kernel) ⟨Nat.le_of_ble_eq_true rfl, Nat.le_of_ble_eq_true rfl⟩) rfl (Nat.le_of_ble_eq_true rfl) dX6_writeFields_57 ⟨Nat.le_of_ble_eq_true rfl, Nat.le_of_ble_eq_true rfl⟩ (fun r z t h => MQ_mono (QI_z (r := r) (z := z)) t h) (fun S22 => ?_) (fun S23 => ?_)
                · refine vs_pop X dX6_writeFields_60 rfl ?_
                  refine vs_iinc X (v := (v2 + 1)) (lv' := [(2, .int (v2 + 1)), (0, rf G 0), (1, .int w1)]) dX6_writeFields_61 2 rfl rfl (by decide) rfl ?_
                  refine vs_goto X (tgt := 18) dX6_writeFields_64 (by decide) ?_
                  refine vs_sub [1, 2, 0] (lv' := [(0, rf G 0), (1, .int w1), (2, .int (v2 + 1))]) rfl ?_
                  exact ih (v2 + 1) S22
                · refine vs_pop X dX6_writeFields_60 rfl ?_
                  refine vs_iinc X (v := (v2 + 1)) (lv' := [(2, .int (v2 + 1)), (0, rf G 0), (1, .int w1)]) dX6_writeFields_61 2 rfl rfl (by decide) rfl ?_
                  refine vs_goto X (tgt := 18) dX6_writeFields_64 (by decide) ?_
                  refine vs_sub [1, 2, 0] (lv' := [(0, rf G 0), (1, .int w1), (2, .int (v2 + 1))]) rfl ?_
                  exact L3 w1 200 (v2 + 1) S23
              · refine vs_pop X dX6_writeFields_43 rfl ?_
                refine vs_aload_n X dX6_writeFields_44 0 rfl ?_
                refine g_Reg  X hinX6 7 (by decide) (by decide +kernel) rfl rfl dX6_writeFields_45 ?_
                refine vs_aload_n X dX6_writeFields_48 0 rfl ?_
                refine g_Reg  X hinX6 0 (by decide) (by decide +kernel) rfl rfl dX6_writeFields_49 ?_
                refine vs_iload_n X dX6_writeFields_52 2 rfl ?_
                refine vs_iload_n X dX6_writeFields_53 1 rfl ?_
                refine vs_callVp X  (As := [.int v2, .int w1]) (st' := [rf G 164]) (mtX5_signOf hl0 (by decide) v2 w1) (cwV 2 X.2.2.2.2.1 gX6_writeFields_X5_signOf rfl rfl rfl (by decide +kernel) ⟨Nat.le_of_ble_eq_true rfl, Nat.le_of_ble_eq_true rfl⟩) (by decide) (by decide) rfl rfl rfl (Nat.le_of_ble_eq_true rfl) dX6_writeFields_54 ⟨Nat.le_of_ble_eq_true rfl, Nat.le_of_ble_eq_true rfl⟩ (fun x24 hx24 => ?_)
                refine vs_callVo_Sb X (As := [.int x24]) (st' := []) (mtJ4_append_cf468 hl0 x24) (cwV 1 X.2.2.2.2.1 gX6_writeFields_J4_append_cf468 rfl rfl rfl (by decide +kernel) ⟨Nat.le_of_ble_eq_true rfl, Nat.le_of_ble_eq_true rfl⟩) rfl (Nat.le_of_ble_eq_true rfl) dX6_writeFields_57 ⟨Nat.le_of_ble_eq_true rfl, Nat.le_of_ble_eq_true rfl⟩ (fun S25 hS25 => ?_)
                refine vs_pop X dX6_writeFields_60 rfl ?_
                refine vs_iinc X (v := (v2 + 1)) (lv' := [(2, .int (v2 + 1)), (0, rf G 0), (1, .int w1)]) dX6_writeFields_61 2 rfl rfl (by decide) rfl ?_
                refine vs_goto X (tgt := 18) dX6_writeFields_64 (by decide) ?_
                refine vs_sub [1, 2, 0] (lv' := [(0, rf G 0), (1, .int w1), (2, .int (v2 + 1))]) rfl ?_
                exact L3 w1 200 (v2 + 1) S25
            · refine vs_aload_n X dX6_writeFields_44 0 rfl ?_
              refine g_Reg  X hinX6 7 (by decide) (by decide +kernel) rfl rfl dX6_writeFields_45 ?_
              refine vs_aload_n X dX6_writeFields_48 0 rfl ?_
              refine g_Reg  X hinX6 0 (by decide) (by decide +kernel) rfl rfl dX6_writeFields_49 ?_
              refine vs_iload_n X dX6_writeFields_52 2 rfl ?_
              refine vs_iload_n X dX6_writeFields_53 1 rfl ?_
              refine vs_callVp X  (As := [.int v2, .int w1]) (st' := [rf G 164]) (mtX5_signOf hl0 (by decide) v2 w1) (cwV 2 X.2.2.2.2.1 gX6_writeFields_X5_signOf rfl rfl rfl (by decide +kernel) ⟨Nat.le_of_ble_eq_true rfl, Nat.le_of_ble_eq_true rfl⟩) (by decide) (by decide) rfl rfl rfl (Nat.le_of_ble_eq_true rfl) dX6_writeFields_54 ⟨Nat.le_of_ble_eq_true rfl, Nat.le_of_ble_eq_true rfl⟩ (fun x26 hx26 => ?_)
              refine vs_callApz (Qf := (fun r => MQ below (QI G r) args s 1 34 (Af G))) X (As := [.int x26]) (st' := []) (mtJ4_append_cf468 hl0 x26) (mtJ4_append_cf468_g hl0 x26) (cwV 1 X.2.2.2.2.1 gX6_writeFields_J4_append_cf468 rfl rfl rfl (by decide +kernel) ⟨Nat.le_of_ble_eq_true rfl, Nat.le_of_ble_eq_true rfl⟩) (cwV 1 X.2.2.2.2.1 gX6_writeFields_J4_append_cf468 rfl rfl rfl (by decide +kernel) ⟨Nat.le_of_ble_eq_true rfl, Nat.le_of_ble_eq_true rfl⟩) rfl (Nat.le_of_ble_eq_true rfl) dX6_writeFields_57 ⟨Nat.le_of_ble_eq_true rfl, Nat.le_of_ble_eq_true rfl⟩ (fun r z t h => MQ_mono (QI_z (r := r) (z := z)) t h) (fun S27 => ?_) (fun S28 => ?_)
              · refine vs_pop X dX6_writeFields_60 rfl ?_
                refine vs_iinc X (v := (v2 + 1)) (lv' := [(2, .int (v2 + 1)), (0, rf G 0), (1, .int w1)]) dX6_writeFields_61 2 rfl rfl (by decide) rfl ?_
                refine vs_goto X (tgt := 18) dX6_writeFields_64 (by decide) ?_
                refine vs_sub [1, 2, 0] (lv' := [(0, rf G 0), (1, .int w1), (2, .int (v2 + 1))]) rfl ?_
                exact ih (v2 + 1) S27
              · refine vs_pop X dX6_writeFields_60 rfl ?_
                refine vs_iinc X (v := (v2 + 1)) (lv' := [(2, .int (v2 + 1)), (0, rf G 0), (1, .int w1)]) dX6_writeFields_61 2 rfl rfl (by decide) rfl ?_
                refine vs_goto X (tgt := 18) dX6_writeFields_64 (by decide) ?_
                refine vs_sub [1, 2, 0] (lv' := [(0, rf G 0), (1, .int w1), (2, .int (v2 + 1))]) rfl ?_
                exact L3 w1 200 (v2 + 1) S28
  refine vs_sub [2, 1, 0] (lv' := [(0, rf G 0), (1, .int x1), (2, .int 0)]) rfl ?_
  exact L13 x1 200 0 S2

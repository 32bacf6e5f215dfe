def spX6_scarecrowCount  (S : Wo) : Option (Int32) :=
  some (S.1 1 1)
set_option maxHeartbeats 4000000 in
set_option maxRecDepth 100000 in
theorem mtX6_scarecrowCount {l : Launch} (hl0 : l.stackTraces = false) {G : Gt}  {S : Wo} : ∀ x, spX6_scarecrowCount  S = some x → MI l yX6_scarecrowCount wsX6_scarecrowCount { frames := 0, cells := 0, slots := 0, locals := 0 } G S [rf G 0] (x, S) 0 0 := by
  refine MIp_of (cc := cX6_scarecrowCount) (own := RX6) (maxL := 1) (ret := (some .int)) (sp := spX6_scarecrowCount  S) (by decide +kernel) rfl rfl (Nat.le_of_ble_eq_true rfl) ?_
  intro p e s m args below meth c X
  have hinX5 : ∀ w ∈ wsX50, w ∈ wsX6_scarecrowCount := by decide +kernel
  have hinX6 : ∀ w ∈ wsX60, w ∈ wsX6_scarecrowCount := by decide +kernel
  show VS G p l e _ s m args below meth c 1 _ _ 0 0 S 0 [(0, rf G 0)] []
  unfold spX6_scarecrowCount
  refine vs_aload_n X dX6_scarecrowCount_0 0 rfl ?_
  refine g_Reg  X hinX6 0 (by decide) (by decide +kernel) rfl rfl dX6_scarecrowCount_1 ?_
  refine gN_St (by decide) (host := "ScarecrowRegistry") X hinX5 1 (by decide) (by decide +kernel) rfl rfl dX6_scarecrowCount_4 ?_
  exact vs_iretp X dX6_scarecrowCount_7 (by decide) (by decide)

def spX6_requireScarecrow (p1 : Int32) (S : Wo) : Option (Nat × Int32 × Wo) :=
  (spX5_hasScarecrow 1 p1 S).bind (fun x1 => (if x1 = 0 then some (2, 0, S) else some (0, 0, S)))
set_option maxHeartbeats 4000000 in
set_option maxRecDepth 100000 in
theorem mtX6_requireScarecrow {l : Launch} (hl0 : l.stackTraces = false) {G : Gt} (p1 : Int32) {S : Wo} : ∀ rr, spX6_requireScarecrow p1 S = some rr → MXV l yX6_requireScarecrow wsX6_requireScarecrow { frames := 6, cells := 1, slots := 6, locals := 82 } G S [rf G 0, .int p1] rr 1 6 := by
  refine MXV_of (cc := cX6_requireScarecrow) (own := RX6) (maxL := 2) (ret := none) (sp := spX6_requireScarecrow p1 S) (by decide +kernel) rfl rfl (Nat.le_of_ble_eq_true rfl) ?_
  intro p e s m args below meth c X hT
  have hinX6 : ∀ w ∈ wsX60, w ∈ wsX6_requireScarecrow := by decide +kernel
  show VS G p l e _ s m args below meth c 2 _ _ 0 0 S 0 [(0, rf G 0), (1, .int p1)] []
  unfold spX6_requireScarecrow
  refine vs_aload_n X dX6_requireScarecrow_0 0 rfl ?_
  refine g_Reg  X hinX6 0 (by decide) (by decide +kernel) rfl rfl dX6_requireScarecrow_1 ?_
  refine vs_iload_n X dX6_requireScarecrow_4 1 rfl ?_
  refine vs_callVp X  (As := [.int p1]) (st' := []) (mtX5_hasScarecrow hl0 (by decide) p1) (cwV 1 X.2.2.2.2.1 gX6_requireScarecrow_X5_hasScarecrow rfl rfl rfl (by decide +kernel) ⟨Nat.le_of_ble_eq_true rfl, Nat.le_of_ble_eq_true rfl⟩) (by decide) (by decide) rfl rfl rfl (Nat.le_of_ble_eq_true rfl) dX6_requireScarecrow_5 ⟨Nat.le_of_ble_eq_true rfl, Nat.le_of_ble_eq_true rfl⟩ (fun x1 hx1 => ?_)
  refine vs_if_ne X (tgt := 22) dX6_requireScarecrow_8 (by decide) (fun _ => ?_) (fun _ => ?_)
  · exact vs_throwVW (names := ["java/lang/RuntimeException", "java/lang/Exception"]) (si := 38) X hl0 hT (by decide) (by decide) (by decide +kernel) (by decide +kernel) (by decide) rfl (fun w h => List.mem_cons_of_mem _ (List.mem_append_right _ h)) (by decide +kernel) (X.2.2.2.2.2.2.2.2.2.2.2.2.1.2.1 _ (by decide)) (by decide +kernel) ⟨by decide, rfl⟩ dX6_requireScarecrow_11 dX6_requireScarecrow_14 dX6_requireScarecrow_15 dX6_requireScarecrow_18 dX6_requireScarecrow_21 (by decide) (by decide) (by decide) (by decide) (by decide) (by decide)
  · exact vs_xvret X dX6_requireScarecrow_22 (by decide) (by decide)

def spX6_requireCertificate (p1 : Int32) (S : Wo) : Option (Nat × Int32 × Wo) :=
  (spX5_hasCertificate 1 p1 S).bind (fun x1 => (if x1 = 0 then some (2, 0, S) else some (0, 0, S)))
set_option maxHeartbeats 4000000 in
set_option maxRecDepth 100000 in
theorem mtX6_requireCertificate {l : Launch} (hl0 : l.stackTraces = false) {G : Gt} (p1 : Int32) {S : Wo} : ∀ rr, spX6_requireCertificate p1 S = some rr → MXV l yX6_requireCertificate wsX6_requireCertificate { frames := 6, cells := 1, slots := 6, locals := 82 } G S [rf G 0, .int p1] rr 1 6 := by
  refine MXV_of (cc := cX6_requireCertificate) (own := RX6) (maxL := 2) (ret := none) (sp := spX6_requireCertificate p1 S) (by decide +kernel) rfl rfl (Nat.le_of_ble_eq_true rfl) ?_
  intro p e s m args below meth c X hT
  have hinX6 : ∀ w ∈ wsX60, w ∈ wsX6_requireCertificate := by decide +kernel
  show VS G p l e _ s m args below meth c 2 _ _ 0 0 S 0 [(0, rf G 0), (1, .int p1)] []
  unfold spX6_requireCertificate
  refine vs_aload_n X dX6_requireCertificate_0 0 rfl ?_
  refine g_Reg  X hinX6 0 (by decide) (by decide +kernel) rfl rfl dX6_requireCertificate_1 ?_
  refine vs_iload_n X dX6_requireCertificate_4 1 rfl ?_
  refine vs_callVp X  (As := [.int p1]) (st' := []) (mtX5_hasCertificate hl0 (by decide) p1) (cwV 1 X.2.2.2.2.1 gX6_requireCertificate_X5_hasCertificate rfl rfl rfl (by decide +kernel) ⟨Nat.le_of_ble_eq_true rfl, Nat.le_of_ble_eq_true rfl⟩) (by decide) (by decide) rfl rfl rfl (Nat.le_of_ble_eq_true rfl) dX6_requireCertificate_5 ⟨Nat.le_of_ble_eq_true rfl, Nat.le_of_ble_eq_true rfl⟩ (fun x1 hx1 => ?_)
  refine vs_if_ne X (tgt := 22) dX6_requireCertificate_8 (by decide) (fun _ => ?_) (fun _ => ?_)
  · exact vs_throwVW (names := ["java/lang/RuntimeException", "java/lang/Exception"]) (si := 39) X hl0 hT (by decide) (by decide) (by decide +kernel) (by decide +kernel) (by decide) rfl (fun w h => List.mem_cons_of_mem _ (List.mem_append_right _ h)) (by decide +kernel) (X.2.2.2.2.2.2.2.2.2.2.2.2.1.2.1 _ (by decide)) (by decide +kernel) ⟨by decide, rfl⟩ dX6_requireCertificate_11 dX6_requireCertificate_14 dX6_requireCertificate_15 dX6_requireCertificate_18 dX6_requireCertificate_21 (by decide) (by decide) (by decide) (by decide) (by decide) (by decide)
  · exact vs_xvret X dX6_requireCertificate_22 (by decide) (by decide)

def spX6_requireField (p1 : Int32) (S : Wo) : Option (Nat × Int32 × Wo) :=
  (spX6_isField p1 S).bind (fun x1 => (if x1 = 0 then some (1, 0, S) else some (0, 0, S)))
set_option maxHeartbeats 4000000 in
set_option maxRecDepth 100000 in
theorem mtX6_requireField {l : Launch} (hl0 : l.stackTraces = false) {G : Gt} (p1 : Int32) {S : Wo} : ∀ rr, spX6_requireField p1 S = some rr → MXV l yX6_requireField wsX6_requireField { frames := 6, cells := 1, slots := 6, locals := 82 } G S [.int p1] rr 1 6 := by
  refine MXV_of (cc := cX6_requireField) (own := RX6) (maxL := 1) (ret := none) (sp := spX6_requireField p1 S) (by decide +kernel) rfl rfl (Nat.le_of_ble_eq_true rfl) ?_
  intro p e s m args below meth c X hT
  show VS G p l e _ s m args below meth c 1 _ _ 0 0 S 0 [(0, .int p1)] []
  unfold spX6_requireField
  refine vs_iload_n X dX6_requireField_0 0 rfl ?_
  refine vs_callSp X  (As := [.int p1]) (st' := []) (mtX6_isField hl0 p1) (va_cwS 1 X.2.2.2.2.1 gX6_requireField_X6_isField rfl rfl rfl (by decide +kernel) ⟨Nat.le_of_ble_eq_true rfl, Nat.le_of_ble_eq_true rfl⟩) rfl (Nat.le_of_ble_eq_true rfl) dX6_requireField_1 ⟨Nat.le_of_ble_eq_true rfl, Nat.le_of_ble_eq_true rfl⟩ (fun x1 hx1 => ?_)
  refine vs_if_ne X (tgt := 18) dX6_requireField_4 (by decide) (fun _ => ?_) (fun _ => ?_)
  · exact vs_throwVW (names := ["java/lang/RuntimeException", "java/lang/Exception"]) (si := 40) X hl0 hT (by decide) (by decide) (by decide +kernel) (by decide +kernel) (by decide) rfl (fun w h => List.mem_cons_of_mem _ (List.mem_append_right _ h)) (by decide +kernel) (X.2.2.2.2.2.2.2.2.2.2.2.2.1.2.1 _ (by decide)) (by decide +kernel) ⟨by decide, rfl⟩ dX6_requireField_7 dX6_requireField_10 dX6_requireField_11 dX6_requireField_14 dX6_requireField_17 (by decide) (by decide) (by decide) (by decide) (by decide) (by decide)
  · exact vs_xvret X dX6_requireField_18 (by decide) (by decide)

def spX6_requireDenial  (S : Wo) : Option (Nat × Int32 × Wo) :=
  (if S.1 0 9 = 0 then some (3, 0, S) else some (0, 0, S))
set_option maxHeartbeats 4000000 in
set_option maxRecDepth 100000 in
theorem mtX6_requireDenial {l : Launch} (hl0 : l.stackTraces = false) {G : Gt}  {S : Wo} : ∀ rr, spX6_requireDenial  S = some rr → MXV l yX6_requireDenial wsX6_requireDenial { frames := 6, cells := 1, slots := 6, locals := 82 } G S [rf G 0] rr 1 6 := by
  refine MXV_of (cc := cX6_requireDenial) (own := RX6) (maxL := 1) (ret := none) (sp := spX6_requireDenial  S) (by decide +kernel) rfl rfl (Nat.le_of_ble_eq_true rfl) ?_
  intro p e s m args below meth c X hT
  have hinX6 : ∀ w ∈ wsX60, w ∈ wsX6_requireDenial := by decide +kernel
  show VS G p l e _ s m args below meth c 1 _ _ 0 0 S 0 [(0, rf G 0)] []
  unfold spX6_requireDenial
  refine vs_aload_n X dX6_requireDenial_0 0 rfl ?_
  refine g_Reg  X hinX6 9 (by decide) (by decide +kernel) rfl rfl dX6_requireDenial_1 ?_
  refine vs_if_ne X (tgt := 18) dX6_requireDenial_4 (by decide) (fun _ => ?_) (fun _ => ?_)
  · exact vs_throwVW (names := ["java/lang/RuntimeException", "java/lang/Exception"]) (si := 41) X hl0 hT (by decide) (by decide) (by decide +kernel) (by decide +kernel) (by decide) rfl (fun w h => List.mem_cons_of_mem _ (List.mem_append_right _ h)) (by decide +kernel) (X.2.2.2.2.2.2.2.2.2.2.2.2.1.2.1 _ (by decide)) (by decide +kernel) ⟨by decide, rfl⟩ dX6_requireDenial_7 dX6_requireDenial_10 dX6_requireDenial_11 dX6_requireDenial_14 dX6_requireDenial_17 (by decide) (by decide) (by decide) (by decide) (by decide) (by decide)
  · exact vs_xvret X dX6_requireDenial_18 (by decide) (by decide)

def spX6_beginChange  (S : Wo) : Option (Wo) :=
  (spX5_copyFrom 14 1 S).bind (fun S1 => some S1)
set_option maxHeartbeats 4000000 in
set_option maxRecDepth 100000 in
theorem mtX6_beginChange {l : Launch} (hl0 : l.stackTraces = false) {G : Gt}  {S : Wo} : ∀ rr, spX6_beginChange  S = some rr → MV l yX6_beginChange wsX6_beginChange { frames := 3, cells := 0, slots := 0, locals := 63 } G S [rf G 0] rr 0 0 := by
  refine MV_of (cc := cX6_beginChange) (own := RX6) (maxL := 1) (ret := none) (sp := spX6_beginChange  S) (by decide +kernel) rfl rfl (Nat.le_of_ble_eq_true rfl) ?_
  intro p e s m args below meth c X
  have hinX6 : ∀ w ∈ wsX60, w ∈ wsX6_beginChange := by decide +kernel
  show VS G p l e _ s m args below meth c 1 _ _ 0 0 S 0 [(0, rf G 0)] []
  unfold spX6_beginChange
  refine vs_aload_n X dX6_beginChange_0 0 rfl ?_
  refine g_Reg  X hinX6 1 (by decide) (by decide +kernel) rfl rfl dX6_beginChange_1 ?_
  refine vs_aload_n X dX6_beginChange_4 0 rfl ?_
  refine g_Reg  X hinX6 0 (by decide) (by decide +kernel) rfl rfl dX6_beginChange_5 ?_
  refine vs_callVv X  (As := [rf G 1]) (st' := []) (mtX5_copyFrom hl0 (by decide) (by decide)) (cwV 1 X.2.2.2.2.1 gX6_beginChange_X5_copyFrom rfl rfl rfl (by decide +kernel) ⟨Nat.le_of_ble_eq_true rfl, Nat.le_of_ble_eq_true rfl⟩) (by decide) (by decide) rfl rfl rfl (Nat.le_of_ble_eq_true rfl) dX6_beginChange_8 ⟨Nat.le_of_ble_eq_true rfl, Nat.le_of_ble_eq_true rfl⟩ (fun S1 hS1 => ?_)
  exact vs_vret X dX6_beginChange_11 (by decide) (by decide)

def spX6_endChange (p1 : Int32) (S : Wo) : Option (Nat × Int32 × Wo) :=
  (if p1 = (-1) then some (2, 0, S) else (if p1 = (-2) then some (1, 0, S) else (if p1 = (-3) then some (4, 0, S) else (spX2_remember 14 S).bind (fun S1 => some (0, p1, S1)))))
set_option maxHeartbeats 4000000 in
set_option maxRecDepth 100000 in
theorem mtX6_endChange {l : Launch} (hl0 : l.stackTraces = false) {G : Gt} (p1 : Int32) {S : Wo} : ∀ rr, spX6_endChange p1 S = some rr → MXI l yX6_endChange wsX6_endChange { frames := 6, cells := 1, slots := 6, locals := 85 } G S [rf G 0, .int p1] rr 1 6 := by
  refine MXI_of (cc := cX6_endChange) (own := RX6) (maxL := 2) (ret := (some .int)) (sp := spX6_endChange p1 S) (by decide +kernel) rfl rfl (Nat.le_of_ble_eq_true rfl) ?_
  intro p e s m args below meth c X hT
  have hinX6 : ∀ w ∈ wsX60, w ∈ wsX6_endChange := by decide +kernel
  show VS G p l e _ s m args below meth c 2 _ _ 0 0 S 0 [(0, rf G 0), (1, .int p1)] []
  unfold spX6_endChange
  refine vs_iload_n X dX6_endChange_0 1 rfl ?_
  refine vs_iconst X (v := (-1)) dX6_endChange_1 (by decide) ?_
  refine vs_icmp_ne X (tgt := 16) dX6_endChange_2 (by decide) (fun _ => ?_) (fun _ => ?_)
  · exact vs_throwIW (names := ["java/lang/RuntimeException", "java/lang/Exception"]) (si := 42) X hl0 hT (by decide) (by decide) (by decide +kernel) (by decide +kernel) (by decide) rfl (fun w h => List.mem_cons_of_mem _ (List.mem_append_left _ (List.mem_append_left _ (List.mem_append_right _ h)))) (by decide +kernel) (X.2.2.2.2.2.2.2.2.2.2.2.2.1.2.1 _ (by decide)) (by decide +kernel) ⟨by decide, rfl⟩ dX6_endChange_5 dX6_endChange_8 dX6_endChange_9 dX6_endChange_12 dX6_endChange_15 (by decide) (by decide) (by decide) (by decide) (by decide) (by decide)
  · refine vs_iload_n X dX6_endChange_16 1 rfl ?_
    refine vs_bipush X (v := (-2)) dX6_endChange_17 (by decide) ?_
    refine vs_icmp_ne X (tgt := 33) dX6_endChange_19 (by decide) (fun _ => ?_) (fun _ => ?_)
    · exact vs_throwIW (names := ["java/lang/RuntimeException", "java/lang/Exception"]) (si := 43) X hl0 hT (by decide) (by decide) (by decide +kernel) (by decide +kernel) (by decide) rfl (fun w h => List.mem_cons_of_mem _ (List.mem_append_left _ (List.mem_append_right _ h))) (by decide +kernel) (X.2.2.2.2.2.2.2.2.2.2.2.2.1.2.1 _ (by decide)) (by decide +kernel) ⟨by decide, rfl⟩ dX6_endChange_22 dX6_endChange_25 dX6_endChange_26 dX6_endChange_29 dX6_endChange_32 (by decide) (by decide) (by decide) (by decide) (by decide) (by decide)
    · refine vs_iload_n X dX6_endChange_33 1 rfl ?_
      refine vs_bipush X (v := (-3)) dX6_endChange_34 (by decide) ?_
      refine vs_icmp_ne X (tgt := 50) dX6_endChange_36 (by decide) (fun _ => ?_) (fun _ => ?_)
      · exact vs_throwIW (names := ["java/lang/RuntimeException", "java/lang/Exception"]) (si := 44) X hl0 hT (by decide) (by decide) (by decide +kernel) (by decide +kernel) (by decide) rfl (fun w h => List.mem_cons_of_mem _ (List.mem_append_right _ h)) (by decide +kernel) (X.2.2.2.2.2.2.2.2.2.2.2.2.1.2.1 _ (by decide)) (by decide +kernel) ⟨by decide, rfl⟩ dX6_endChange_39 dX6_endChange_42 dX6_endChange_43 dX6_endChange_46 dX6_endChange_49 (by decide) (by decide) (by decide) (by decide) (by decide) (by decide)
      · refine vs_aload_n X dX6_endChange_50 0 rfl ?_
        refine g_Reg  X hinX6 5 (by decide) (by decide +kernel) rfl rfl dX6_endChange_51 ?_
        refine vs_aload_n X dX6_endChange_54 0 rfl ?_
        refine g_Reg  X hinX6 1 (by decide) (by decide +kernel) rfl rfl dX6_endChange_55 ?_
        refine vs_callVv X  (As := [rf G 14]) (st' := []) (mtX2_remember hl0 (by decide)) (cwV 1 X.2.2.2.2.1 gX6_endChange_X2_remember rfl rfl rfl (by decide +kernel) ⟨Nat.le_of_ble_eq_true rfl, Nat.le_of_ble_eq_true rfl⟩) (by decide) (by decide) rfl rfl rfl (Nat.le_of_ble_eq_true rfl) dX6_endChange_58 ⟨Nat.le_of_ble_eq_true rfl, Nat.le_of_ble_eq_true rfl⟩ (fun S1 hS1 => ?_)
        refine vs_iload_n X dX6_endChange_61 1 rfl ?_
        exact vs_xiret X dX6_endChange_62 (by decide) (by decide)

def spX6_deny (p1 : Int32) (p2 : Int32) (S : Wo) : Option (Int32 × Wo) :=
  wr (pI S 0 9 p1) (fun S1 => wr (pI S1 0 10 p2) (fun S2 => wr (pI S2 0 11 0) (fun S3 => some ((-3), S3))))
set_option maxHeartbeats 4000000 in
set_option maxRecDepth 100000 in
theorem mtX6_deny {l : Launch} (hl0 : l.stackTraces = false) {G : Gt} (p1 : Int32) (p2 : Int32) {S : Wo} : ∀ rr, spX6_deny p1 p2 S = some rr → MI l yX6_deny wsX6_deny { frames := 0, cells := 0, slots := 0, locals := 0 } G S [rf G 0, .int p1, .int p2] rr 0 0 := by
  refine MI_of (cc := cX6_deny) (own := RX6) (maxL := 3) (ret := (some .int)) (sp := spX6_deny p1 p2 S) (by decide +kernel) rfl rfl (Nat.le_of_ble_eq_true rfl) ?_
  intro p e s m args below meth c X
  have hinX6 : ∀ w ∈ wsX60, w ∈ wsX6_deny := by decide +kernel
  show VS G p l e _ s m args below meth c 3 _ _ 0 0 S 0 [(0, rf G 0), (1, .int p1), (2, .int p2)] []
  unfold spX6_deny
  refine vs_aload_n X dX6_deny_0 0 rfl ?_
  refine vs_iload_n X dX6_deny_1 1 rfl ?_
  refine p_Reg  X hinX6 9 (by decide) (by decide +kernel) rfl rfl rfl rfl rfl rfl dX6_deny_2 (fun S1 hS1 => ?_)
  refine vs_aload_n X dX6_deny_5 0 rfl ?_
  refine vs_iload_n X dX6_deny_6 2 rfl ?_
  refine p_Reg  X hinX6 10 (by decide) (by decide +kernel) rfl rfl rfl rfl rfl rfl dX6_deny_7 (fun S2 hS2 => ?_)
  refine vs_aload_n X dX6_deny_10 0 rfl ?_
  refine vs_iconst X (v := 0) dX6_deny_11 (by decide) ?_
  refine p_Reg  X hinX6 11 (by decide) (by decide +kernel) rfl rfl rfl rfl rfl rfl dX6_deny_12 (fun S3 hS3 => ?_)
  refine vs_bipush X (v := (-3)) dX6_deny_15 (by decide) ?_
  exact vs_iret X dX6_deny_17 (by decide) (by decide)

def spX6_denyText (p1 : Int32) (p2 : Int32) (S : Wo) : Option (Wo) :=
  jn (β := Int32 → Option (Wo)) (fun (x1 : Int32) => bd2 (spX6_deny 6 p1 S) (fun x3 S4 => wr (pI S4 0 11 x1) (fun S5 => some S5))) (fun k2 => (if p2 = (-3) then k2 (S.1 0 9) else k2 7))
set_option maxHeartbeats 4000000 in
set_option maxRecDepth 100000 in
theorem mtX6_denyText {l : Launch} (hl0 : l.stackTraces = false) {G : Gt} (p1 : Int32) (p2 : Int32) {S : Wo} : ∀ rr, spX6_denyText p1 p2 S = some rr → MV l yX6_denyText wsX6_denyText { frames := 1, cells := 0, slots := 0, locals := 22 } G S [rf G 0, .int p1, .int p2] rr 0 0 := by
  refine MV_of (cc := cX6_denyText) (own := RX6) (maxL := 4) (ret := none) (sp := spX6_denyText p1 p2 S) (by decide +kernel) rfl rfl (Nat.le_of_ble_eq_true rfl) ?_
  intro p e s m args below meth c X
  have hinX6 : ∀ w ∈ wsX60, w ∈ wsX6_denyText := by decide +kernel
  show VS G p l e _ s m args below meth c 4 _ _ 0 0 S 0 [(0, rf G 0), (1, .int p1), (2, .int p2)] []
  unfold spX6_denyText
  refine vs_iload_n X dX6_denyText_0 2 rfl ?_
  refine vs_bipush X (v := (-3)) dX6_denyText_1 (by decide) ?_
  refine vs_jn (β := Int32 → Option (Wo)) (P := fun k2 => ∀ (x1 : Int32), VS G p l e ({ frames := 1, cells := 0, slots := 0, locals := 22 } : Room) s m args below meth c 4 (fun r => MQ below (QV G r) args s 0 0 (Af G)) (k2 x1) 0 0 S 15 [(0, rf G 0), (1, .int p1), (2, .int p2)] [.int x1]) (fun x1 => ?_) (fun k2 hk2 => ?_)
  · refine vs_istore_n X (lv' := [(3, .int x1), (0, rf G 0), (1, .int p1), (2, .int p2)]) dX6_denyText_15 (by decide) rfl ?_
    refine vs_aload_n X dX6_denyText_16 1 rfl ?_
    refine vs_bipush X (v := 6) dX6_denyText_17 (by decide) ?_
    refine vs_iload_n X dX6_denyText_19 2 rfl ?_
    refine vs_callVi X  (As := [.int 6, .int p1]) (st' := []) (mtX6_deny hl0 6 p1) (cwV 2 X.2.2.2.2.1 gX6_denyText_X6_deny rfl rfl rfl (by decide +kernel) ⟨Nat.le_of_ble_eq_true rfl, Nat.le_of_ble_eq_true rfl⟩) (by decide) (by decide) rfl rfl rfl (Nat.le_of_ble_eq_true rfl) dX6_denyText_20 ⟨Nat.le_of_ble_eq_true rfl, Nat.le_of_ble_eq_true rfl⟩ (fun x3 S4 hx3 => ?_)
    refine vs_pop X dX6_denyText_23 rfl ?_
    refine vs_aload_n X dX6_denyText_24 1 rfl ?_
    refine vs_iload_n X dX6_denyText_25 0 rfl ?_
    refine p_Reg  X hinX6 11 (by decide) (by decide +kernel) rfl rfl rfl rfl rfl rfl dX6_denyText_26 (fun S5 hS5 => ?_)
    exact vs_vret X dX6_denyText_29 (by decide) (by decide)
  · refine vs_icmp_ne X (tgt := 13) dX6_denyText_3 (by decide) (fun _ => ?_) (fun _ => ?_)
    · refine vs_aload_n X dX6_denyText_6 0 rfl ?_
      refine g_Reg  X hinX6 9 (by decide) (by decide +kernel) rfl rfl dX6_denyText_7 ?_
      refine vs_goto X (tgt := 15) dX6_denyText_10 (by decide) ?_
      exact vs_join [0, 1, 2] (Nat.le_of_ble_eq_true rfl) (Nat.le_of_ble_eq_true rfl) rfl (hk2 (S.1 0 9))
    · refine vs_bipush X (v := 7) dX6_denyText_13 (by decide) ?_
      exact vs_join [0, 1, 2] (Nat.le_of_ble_eq_true rfl) (Nat.le_of_ble_eq_true rfl) rfl (hk2 7)

def spX6_putScarecrow (p1 : Int32) (S : Wo) : Option (Int32 × Wo) :=
  (spX6_isField p1 S).bind (fun x1 => (if x1 = 0 then some ((-2), S) else (if S.1 1 1 < 10 then (spX5_scarecrowAt 1 p1 S).bind (fun x2 => (if x2 = (-1) then bd2 (spX5_addScarecrow 1 p1 S) (fun x3 S4 => some (x3, S4)) else bd2 (spX6_deny 2 x2 S) (fun x5 S6 => some (x5, S6)))) else bd2 (spX6_deny 1 10 S) (fun x7 S8 => some (x7, S8)))))
set_option maxHeartbeats 4000000 in
set_option maxRecDepth 100000 in
theorem mtX6_putScarecrow {l : Launch} (hl0 : l.stackTraces = false) {G : Gt} (p1 : Int32) {S : Wo} : ∀ rr, spX6_putScarecrow p1 S = some rr → MI l yX6_putScarecrow wsX6_putScarecrow { frames := 2, cells := 0, slots := 0, locals := 44 } G S [rf G 0, .int p1] rr 0 0 := by
  refine MI_of (cc := cX6_putScarecrow) (own := RX6) (maxL := 3) (ret := (some .int)) (sp := spX6_putScarecrow p1 S) (by decide +kernel) rfl rfl (Nat.le_of_ble_eq_true rfl) ?_
  intro p e s m args below meth c X
  have hinX5 : ∀ w ∈ wsX50, w ∈ wsX6_putScarecrow := by decide +kernel
  have hinX6 : ∀ w ∈ wsX60, w ∈ wsX6_putScarecrow := by decide +kernel
  show VS G p l e _ s m args below meth c 3 _ _ 0 0 S 0 [(0, rf G 0), (1, .int p1)] []
  unfold spX6_putScarecrow
  refine vs_iload_n X dX6_putScarecrow_0 1 rfl ?_
  refine vs_callSp X  (As := [.int p1]) (st' := []) (mtX6_isField hl0 p1) (va_cwS 1 X.2.2.2.2.1 gX6_putScarecrow_X6_isField rfl rfl rfl (by decide +kernel) ⟨Nat.le_of_ble_eq_true rfl, Nat.le_of_ble_eq_true rfl⟩) rfl (Nat.le_of_ble_eq_true rfl) dX6_putScarecrow_1 ⟨Nat.le_of_ble_eq_true rfl, Nat.le_of_ble_eq_true rfl⟩ (fun x1 hx1 => ?_)
  refine vs_if_ne X (tgt := 10) dX6_putScarecrow_4 (by decide) (fun _ => ?_) (fun _ => ?_)
  · refine vs_bipush X (v := (-2)) dX6_putScarecrow_7 (by decide) ?_
    exact vs_iret X dX6_putScarecrow_9 (by decide) (by decide)
  · refine vs_aload_n X dX6_putScarecrow_10 0 rfl ?_
    refine g_Reg  X hinX6 0 (by decide) (by decide +kernel) rfl rfl dX6_putScarecrow_11 ?_
    refine gN_St (by decide) (host := "ScarecrowRegistry") X hinX5 1 (by decide) (by decide +kernel) rfl rfl dX6_putScarecrow_14 ?_
    refine vs_bipush X (v := 10) dX6_putScarecrow_17 (by decide) ?_
    refine vs_icmp_lt X (tgt := 30) dX6_putScarecrow_19 (by decide) (fun _ => ?_) (fun _ => ?_)
    · refine vs_aload_n X dX6_putScarecrow_30 0 rfl ?_
      refine g_Reg  X hinX6 0 (by decide) (by decide +kernel) rfl rfl dX6_putScarecrow_31 ?_
      refine vs_iload_n X dX6_putScarecrow_34 1 rfl ?_
      refine vs_callVp X  (As := [.int p1]) (st' := []) (mtX5_scarecrowAt hl0 (by decide) p1) (cwV 1 X.2.2.2.2.1 gX6_putScarecrow_X5_scarecrowAt rfl rfl rfl (by decide +kernel) ⟨Nat.le_of_ble_eq_true rfl, Nat.le_of_ble_eq_true rfl⟩) (by decide) (by decide) rfl rfl rfl (Nat.le_of_ble_eq_true rfl) dX6_putScarecrow_35 ⟨Nat.le_of_ble_eq_true rfl, Nat.le_of_ble_eq_true rfl⟩ (fun x2 hx2 => ?_)
      refine vs_istore_n X (lv' := [(2, .int x2), (0, rf G 0), (1, .int p1)]) dX6_putScarecrow_38 (by decide) rfl ?_
      refine vs_iload_n X dX6_putScarecrow_39 0 rfl ?_
      refine vs_iconst X (v := (-1)) dX6_putScarecrow_40 (by decide) ?_
      refine vs_icmp_eq X (tgt := 51) dX6_putScarecrow_41 (by decide) (fun _ => ?_) (fun _ => ?_)
      · refine vs_aload_n X dX6_putScarecrow_51 1 rfl ?_
        refine g_Reg  X hinX6 0 (by decide) (by decide +kernel) rfl rfl dX6_putScarecrow_52 ?_
        refine vs_iload_n X dX6_putScarecrow_55 2 rfl ?_
        refine vs_callVi X  (As := [.int p1]) (st' := []) (mtX5_addScarecrow hl0 (by decide) p1) (cwV 1 X.2.2.2.2.1 gX6_putScarecrow_X5_addScarecrow rfl rfl rfl (by decide +kernel) ⟨Nat.le_of_ble_eq_true rfl, Nat.le_of_ble_eq_true rfl⟩) (by decide) (by decide) rfl rfl rfl (Nat.le_of_ble_eq_true rfl) dX6_putScarecrow_56 ⟨Nat.le_of_ble_eq_true rfl, Nat.le_of_ble_eq_true rfl⟩ (fun x3 S4 hx3 => ?_)
        exact vs_iret X dX6_putScarecrow_59 (by decide) (by decide)
      · refine vs_aload_n X dX6_putScarecrow_44 1 rfl ?_
        refine vs_iconst X (v := 2) dX6_putScarecrow_45 (by decide) ?_
        refine vs_iload_n X dX6_putScarecrow_46 0 rfl ?_
        refine vs_callVi X  (As := [.int 2, .int x2]) (st' := []) (mtX6_deny hl0 2 x2) (cwV 2 X.2.2.2.2.1 gX6_putScarecrow_X6_deny rfl rfl rfl (by decide +kernel) ⟨Nat.le_of_ble_eq_true rfl, Nat.le_of_ble_eq_true rfl⟩) (by decide) (by decide) rfl rfl rfl (Nat.le_of_ble_eq_true rfl) dX6_putScarecrow_47 ⟨Nat.le_of_ble_eq_true rfl, Nat.le_of_ble_eq_true rfl⟩ (fun x5 S6 hx5 => ?_)
        exact vs_iret X dX6_putScarecrow_50 (by decide) (by decide)
    · refine vs_aload_n X dX6_putScarecrow_22 0 rfl ?_
      refine vs_iconst X (v := 1) dX6_putScarecrow_23 (by decide) ?_
      refine vs_bipush X (v := 10) dX6_putScarecrow_24 (by decide) ?_
      refine vs_callVi X  (As := [.int 1, .int 10]) (st' := []) (mtX6_deny hl0 1 10) (cwV 2 X.2.2.2.2.1 gX6_putScarecrow_X6_deny rfl rfl rfl (by decide +kernel) ⟨Nat.le_of_ble_eq_true rfl, Nat.le_of_ble_eq_true rfl⟩) (by decide) (by decide) rfl rfl rfl (Nat.le_of_ble_eq_true rfl) dX6_putScarecrow_26 ⟨Nat.le_of_ble_eq_true rfl, Nat.le_of_ble_eq_true rfl⟩ (fun x7 S8 hx7 => ?_)
      exact vs_iret X dX6_putScarecrow_29 (by decide) (by decide)

def spX6_moveScarecrow (p1 : Int32) (p2 : Int32) (S : Wo) : Option (Int32 × Wo) :=
  (spX5_hasScarecrow 1 p1 S).bind (fun x1 => (if x1 = 0 then some ((-1), S) else (spX6_isField p2 S).bind (fun x2 => (if x2 = 0 then some ((-2), S) else (spX5_scarecrowAt 1 p2 S).bind (fun x3 => (if x3 = (-1) then (spX4_get 2 10 p1 S).bind (fun x4 => (spX4_set 2 10 p1 p2 S).bind (fun S5 => some (x4, S5))) else bd2 (spX6_deny 2 x3 S) (fun x6 S7 => some (x6, S7))))))))
set_option maxHeartbeats 4000000 in
set_option maxRecDepth 100000 in
theorem mtX6_moveScarecrow {l : Launch} (hl0 : l.stackTraces = false) {G : Gt} (p1 : Int32) (p2 : Int32) {S : Wo} : ∀ rr, spX6_moveScarecrow p1 p2 S = some rr → MI l yX6_moveScarecrow wsX6_moveScarecrow { frames := 2, cells := 0, slots := 0, locals := 43 } G S [rf G 0, .int p1, .int p2] rr 0 0 := by
  refine MI_of (cc := cX6_moveScarecrow) (own := RX6) (maxL := 5) (ret := (some .int)) (sp := spX6_moveScarecrow p1 p2 S) (by decide +kernel) rfl rfl (Nat.le_of_ble_eq_true rfl) ?_
  intro p e s m args below meth c X
  have hinX5 : ∀ w ∈ wsX50, w ∈ wsX6_moveScarecrow := by decide +kernel
  have hinX6 : ∀ w ∈ wsX60, w ∈ wsX6_moveScarecrow := by decide +kernel
  show VS G p l e _ s m args below meth c 5 _ _ 0 0 S 0 [(0, rf G 0), (1, .int p1), (2, .int p2)] []
  unfold spX6_moveScarecrow
  refine vs_aload_n X dX6_moveScarecrow_0 0 rfl ?_
  refine g_Reg  X hinX6 0 (by decide) (by decide +kernel) rfl rfl dX6_moveScarecrow_1 ?_
  refine vs_iload_n X dX6_moveScarecrow_4 1 rfl ?_
  refine vs_callVp X  (As := [.int p1]) (st' := []) (mtX5_hasScarecrow hl0 (by decide) p1) (cwV 1 X.2.2.2.2.1 gX6_moveScarecrow_X5_hasScarecrow rfl rfl rfl (by decide +kernel) ⟨Nat.le_of_ble_eq_true rfl, Nat.le_of_ble_eq_true rfl⟩) (by decide) (by decide) rfl rfl rfl (Nat.le_of_ble_eq_true rfl) dX6_moveScarecrow_5 ⟨Nat.le_of_ble_eq_true rfl, Nat.le_of_ble_eq_true rfl⟩ (fun x1 hx1 => ?_)
  refine vs_if_ne X (tgt := 13) dX6_moveScarecrow_8 (by decide) (fun _ => ?_) (fun _ => ?_)
  · refine vs_iconst X (v := (-1)) dX6_moveScarecrow_11 (by decide) ?_
    exact vs_iret X dX6_moveScarecrow_12 (by decide) (by decide)
  · refine vs_iload_n X dX6_moveScarecrow_13 2 rfl ?_
    refine vs_callSp X  (As := [.int p2]) (st' := []) (mtX6_isField hl0 p2) (va_cwS 1 X.2.2.2.2.1 gX6_moveScarecrow_X6_isField rfl rfl rfl (by decide +kernel) ⟨Nat.le_of_ble_eq_true rfl, Nat.le_of_ble_eq_true rfl⟩) rfl (Nat.le_of_ble_eq_true rfl) dX6_moveScarecrow_14 ⟨Nat.le_of_ble_eq_true rfl, Nat.le_of_ble_eq_true rfl⟩ (fun x2 hx2 => ?_)
    refine vs_if_ne X (tgt := 23) dX6_moveScarecrow_17 (by decide) (fun _ => ?_) (fun _ => ?_)
    · refine vs_bipush X (v := (-2)) dX6_moveScarecrow_20 (by decide) ?_
      exact vs_iret X dX6_moveScarecrow_22 (by decide) (by decide)
    · refine vs_aload_n X dX6_moveScarecrow_23 0 rfl ?_
      refine g_Reg  X hinX6 0 (by decide) (by decide +kernel) rfl rfl dX6_moveScarecrow_24 ?_
      refine vs_iload_n X dX6_moveScarecrow_27 2 rfl ?_
      refine vs_callVp X  (As := [.int p2]) (st' := []) (mtX5_scarecrowAt hl0 (by decide) p2) (cwV 1 X.2.2.2.2.1 gX6_moveScarecrow_X5_scarecrowAt rfl rfl rfl (by decide +kernel) ⟨Nat.le_of_ble_eq_true rfl, Nat.le_of_ble_eq_true rfl⟩) (by decide) (by decide) rfl rfl rfl (Nat.le_of_ble_eq_true rfl) dX6_moveScarecrow_28 ⟨Nat.le_of_ble_eq_true rfl, Nat.le_of_ble_eq_true rfl⟩ (fun x3 hx3 => ?_)
      refine vs_istore_n X (lv' := [(3, .int x3), (0, rf G 0), (1, .int p1), (2, .int p2)]) dX6_moveScarecrow_31 (by decide) rfl ?_
      refine vs_iload_n X dX6_moveScarecrow_32 0 rfl ?_
      refine vs_iconst X (v := (-1)) dX6_moveScarecrow_33 (by decide) ?_
      refine vs_icmp_eq X (tgt := 44) dX6_moveScarecrow_34 (by decide) (fun _ => ?_) (fun _ => ?_)
      · refine vs_aload_n X dX6_moveScarecrow_44 1 rfl ?_
        refine g_Reg  X hinX6 0 (by decide) (by decide +kernel) rfl rfl dX6_moveScarecrow_45 ?_
        refine gN_St (by decide) (host := "ScarecrowRegistry") X hinX5 0 (by decide) (by decide +kernel) rfl rfl dX6_moveScarecrow_48 ?_
        refine vs_iload_n X dX6_moveScarecrow_51 2 rfl ?_
        refine vs_callVp X  (As := [.int p1]) (st' := []) (mtX4_get hl0 (isRow_st (by decide)).1 p1) (cwV 1 X.2.2.2.2.1 gX6_moveScarecrow_X4_get rfl rfl rfl (by decide +kernel) ⟨Nat.le_of_ble_eq_true rfl, Nat.le_of_ble_eq_true rfl⟩) (by decide) (by decide) rfl rfl rfl (Nat.le_of_ble_eq_true rfl) dX6_moveScarecrow_52 ⟨Nat.le_of_ble_eq_true rfl, Nat.le_of_ble_eq_true rfl⟩ (fun x4 hx4 => ?_)
        refine vs_istore X (lv' := [(4, .int x4), (3, .int x3), (0, rf G 0), (1, .int p1), (2, .int p2)]) dX6_moveScarecrow_55 (by decide) rfl ?_
        refine vs_aload_n X dX6_moveScarecrow_57 2 rfl ?_
        refine g_Reg  X hinX6 0 (by decide) (by decide +kernel) rfl rfl dX6_moveScarecrow_58 ?_
        refine gN_St (by decide) (host := "ScarecrowRegistry") X hinX5 0 (by decide) (by decide +kernel) rfl rfl dX6_moveScarecrow_61 ?_
        refine vs_iload_n X dX6_moveScarecrow_64 3 rfl ?_
        refine vs_iload_n X dX6_moveScarecrow_65 4 rfl ?_
        refine vs_callVv X  (As := [.int p1, .int p2]) (st' := []) (mtX4_set hl0 (isRow_st (by decide)).1 p1 p2) (cwV 2 X.2.2.2.2.1 gX6_moveScarecrow_X4_set rfl rfl rfl (by decide +kernel) ⟨Nat.le_of_ble_eq_true rfl, Nat.le_of_ble_eq_true rfl⟩) (by decide) (by decide) rfl rfl rfl (Nat.le_of_ble_eq_true rfl) dX6_moveScarecrow_66 ⟨Nat.le_of_ble_eq_true rfl, Nat.le_of_ble_eq_true rfl⟩ (fun S5 hS5 => ?_)
        refine vs_iload X dX6_moveScarecrow_69 0 rfl ?_
        exact vs_iret X dX6_moveScarecrow_71 (by decide) (by decide)
      · refine vs_aload_n X dX6_moveScarecrow_37 1 rfl ?_
        refine vs_iconst X (v := 2) dX6_moveScarecrow_38 (by decide) ?_
        refine vs_iload_n X dX6_moveScarecrow_39 0 rfl ?_
        refine vs_callVi X  (As := [.int 2, .int x3]) (st' := []) (mtX6_deny hl0 2 x3) (cwV 2 X.2.2.2.2.1 gX6_moveScarecrow_X6_deny rfl rfl rfl (by decide +kernel) ⟨Nat.le_of_ble_eq_true rfl, Nat.le_of_ble_eq_true rfl⟩) (by decide) (by decide) rfl rfl rfl (Nat.le_of_ble_eq_true rfl) dX6_moveScarecrow_40 ⟨Nat.le_of_ble_eq_true rfl, Nat.le_of_ble_eq_true rfl⟩ (fun x6 S7 hx6 => ?_)
        exact vs_iret X dX6_moveScarecrow_43 (by decide) (by decide)

def spX6_revokeOrRestore (p1 : Int32) (p2 : Int32) (S : Wo) : Option (Int32 × Wo) :=
  (spX5_hasScarecrow 1 p1 S).bind (fun x1 => (if x1 = 0 then some ((-1), S) else (spX6_has (S.1 1 2) p1 S).bind (fun x2 => (if x2 = p2 then (if p2 = 0 then bd2 (spX6_deny 5 0 S) (fun x3 S4 => some (x3, S4)) else bd2 (spX6_deny 5 1 S) (fun x5 S6 => some (x5, S6))) else wr (pI S 1 2 (S.1 1 2 ^^^ (1 <<< (p1 &&& 31)))) (fun S7 => (spX5_certifiedNow 1 S7).bind (fun x8 => (spJ6_bitCount_0f7a4 x8 S7).bind (fun x9 => some (x9, S7))))))))
set_option maxHeartbeats 4000000 in
set_option maxRecDepth 100000 in
theorem mtX6_revokeOrRestore {l : Launch} (hl0 : l.stackTraces = false) {G : Gt} (p1 : Int32) (p2 : Int32) {S : Wo} : ∀ rr, spX6_revokeOrRestore p1 p2 S = some rr → MI l yX6_revokeOrRestore wsX6_revokeOrRestore { frames := 4, cells := 0, slots := 0, locals := 93 } G S [rf G 0, .int p1, .int p2] rr 0 0 := by
  refine MI_of (cc := cX6_revokeOrRestore) (own := RX6) (maxL := 3) (ret := (some .int)) (sp := spX6_revokeOrRestore p1 p2 S) (by decide +kernel) rfl rfl (Nat.le_of_ble_eq_true rfl) ?_
  intro p e s m args below meth c X
  have hinX5 : ∀ w ∈ wsX50, w ∈ wsX6_revokeOrRestore := by decide +kernel
  have hinX6 : ∀ w ∈ wsX60, w ∈ wsX6_revokeOrRestore := by decide +kernel
  show VS G p l e _ s m args below meth c 3 _ _ 0 0 S 0 [(0, rf G 0), (1, .int p1), (2, .int p2)] []
  unfold spX6_revokeOrRestore
  refine vs_aload_n X dX6_revokeOrRestore_0 0 rfl ?_
  refine g_Reg  X hinX6 0 (by decide) (by decide +kernel) rfl rfl dX6_revokeOrRestore_1 ?_
  refine vs_iload_n X dX6_revokeOrRestore_4 1 rfl ?_
  refine vs_callVp X  (As := [.int p1]) (st' := []) (mtX5_hasScarecrow hl0 (by decide) p1) (cwV 1 X.2.2.2.2.1 gX6_revokeOrRestore_X5_hasScarecrow rfl rfl rfl (by decide +kernel) ⟨Nat.le_of_ble_eq_true rfl, Nat.le_of_ble_eq_true rfl⟩) (by decide) (by decide) rfl rfl rfl (Nat.le_of_ble_eq_true rfl) dX6_revokeOrRestore_5 ⟨Nat.le_of_ble_eq_true rfl, Nat.le_of_ble_eq_true rfl⟩ (fun x1 hx1 => ?_)
  refine vs_if_ne X (tgt := 13) dX6_revokeOrRestore_8 (by decide) (fun _ => ?_) (fun _ => ?_)
  · refine vs_iconst X (v := (-1)) dX6_revokeOrRestore_11 (by decide) ?_
    exact vs_iret X dX6_revokeOrRestore_12 (by decide) (by decide)
  · refine vs_aload_n X dX6_revokeOrRestore_13 0 rfl ?_
    refine g_Reg  X hinX6 0 (by decide) (by decide +kernel) rfl rfl dX6_revokeOrRestore_14 ?_
    refine gN_St (by decide) (host := "ScarecrowRegistry") X hinX5 2 (by decide) (by decide +kernel) rfl rfl dX6_revokeOrRestore_17 ?_
    refine vs_iload_n X dX6_revokeOrRestore_20 1 rfl ?_
    refine vs_callSp X  (As := [.int (S.1 1 2), .int p1]) (st' := []) (mtX6_has hl0 (S.1 1 2) p1) (va_cwS 2 X.2.2.2.2.1 gX6_revokeOrRestore_X6_has rfl rfl rfl (by decide +kernel) ⟨Nat.le_of_ble_eq_true rfl, Nat.le_of_ble_eq_true rfl⟩) rfl (Nat.le_of_ble_eq_true rfl) dX6_revokeOrRestore_21 ⟨Nat.le_of_ble_eq_true rfl, Nat.le_of_ble_eq_true rfl⟩ (fun x2 hx2 => ?_)
    refine vs_iload_n X dX6_revokeOrRestore_24 2 rfl ?_
    refine vs_icmp_ne X (tgt := 43) dX6_revokeOrRestore_25 (by decide) (fun _ => ?_) (fun _ => ?_)
    · refine vs_aload_n X dX6_revokeOrRestore_28 0 rfl ?_
      refine vs_iconst X (v := 5) dX6_revokeOrRestore_29 (by decide) ?_
      refine vs_iload_n X dX6_revokeOrRestore_30 2 rfl ?_
      refine vs_if_eq X (tgt := 38) dX6_revokeOrRestore_31 (by decide) (fun _ => ?_) (fun _ => ?_)
      · refine vs_iconst X (v := 0) dX6_revokeOrRestore_38 (by decide) ?_
        refine vs_callVi X  (As := [.int 5, .int 0]) (st' := []) (mtX6_deny hl0 5 0) (cwV 2 X.2.2.2.2.1 gX6_revokeOrRestore_X6_deny rfl rfl rfl (by decide +kernel) ⟨Nat.le_of_ble_eq_true rfl, Nat.le_of_ble_eq_true rfl⟩) (by decide) (by decide) rfl rfl rfl (Nat.le_of_ble_eq_true rfl) dX6_revokeOrRestore_39 ⟨Nat.le_of_ble_eq_true rfl, Nat.le_of_ble_eq_true rfl⟩ (fun x3 S4 hx3 => ?_)
        exact vs_iret X dX6_revokeOrRestore_42 (by decide) (by decide)
      · refine vs_iconst X (v := 1) dX6_revokeOrRestore_34 (by decide) ?_
        refine vs_goto X (tgt := 39) dX6_revokeOrRestore_35 (by decide) ?_
        refine vs_callVi X  (As := [.int 5, .int 1]) (st' := []) (mtX6_deny hl0 5 1) (cwV 2 X.2.2.2.2.1 gX6_revokeOrRestore_X6_deny rfl rfl rfl (by decide +kernel) ⟨Nat.le_of_ble_eq_true rfl, Nat.le_of_ble_eq_true rfl⟩) (by decide) (by decide) rfl rfl rfl (Nat.le_of_ble_eq_true rfl) dX6_revokeOrRestore_39 ⟨Nat.le_of_ble_eq_true rfl, Nat.le_of_ble_eq_true rfl⟩ (fun x5 S6 hx5 => ?_)
        exact vs_iret X dX6_revokeOrRestore_42 (by decide) (by decide)
    · refine vs_aload_n X dX6_revokeOrRestore_43 0 rfl ?_
      refine g_Reg  X hinX6 0 (by decide) (by decide +kernel) rfl rfl dX6_revokeOrRestore_44 ?_
      refine vs_dup X dX6_revokeOrRestore_47 rfl ?_
      refine gN_St (by decide) (host := "ScarecrowRegistry") X hinX5 2 (by decide) (by decide +kernel) rfl rfl dX6_revokeOrRestore_48 ?_
      refine vs_iconst X (v := 1) dX6_revokeOrRestore_51 (by decide) ?_
      refine vs_iload_n X dX6_revokeOrRestore_52 1 rfl ?_
      refine vs_ishl X dX6_revokeOrRestore_53 ?_
      refine vs_ixor X dX6_revokeOrRestore_54 ?_
      refine pN_St (by decide) (host := "ScarecrowRegistry") X hinX5 2 (by decide) (by decide +kernel) rfl rfl rfl rfl rfl (celw_2 (by decide)) dX6_revokeOrRestore_55 (fun S7 hS7 => ?_)
      refine vs_aload_n X dX6_revokeOrRestore_58 0 rfl ?_
      refine g_Reg  X hinX6 0 (by decide) (by decide +kernel) rfl rfl dX6_revokeOrRestore_59 ?_
      refine vs_callVp X  (As := []) (st' := []) (mtX5_certifiedNow hl0 (by decide)) (cwV 0 X.2.2.2.2.1 gX6_revokeOrRestore_X5_certifiedNow rfl rfl rfl (by decide +kernel) ⟨Nat.le_of_ble_eq_true rfl, Nat.le_of_ble_eq_true rfl⟩) (by decide) (by decide) rfl rfl rfl (Nat.le_of_ble_eq_true rfl) dX6_revokeOrRestore_62 ⟨Nat.le_of_ble_eq_true rfl, Nat.le_of_ble_eq_true rfl⟩ (fun x8 hx8 => ?_)
      refine vs_callSp X  (As := [.int x8]) (st' := []) (mtJ6_bitCount_0f7a4 hl0 x8) (va_cwS 1 X.2.2.2.2.1 gX6_revokeOrRestore_J6_bitCount_0f7a4 rfl rfl rfl (by decide +kernel) ⟨Nat.le_of_ble_eq_true rfl, Nat.le_of_ble_eq_true rfl⟩) rfl (Nat.le_of_ble_eq_true rfl) dX6_revokeOrRestore_65 ⟨Nat.le_of_ble_eq_true rfl, Nat.le_of_ble_eq_true rfl⟩ (fun x9 hx9 => ?_)
      exact vs_iret X dX6_revokeOrRestore_68 (by decide) (by decide)

def spX6_certifyByRegistry (p1 : Int32) (p2 : Int32) (S : Wo) : Option (Int32 × Wo) :=
  (spX5_hasScarecrow 1 p1 S).bind (fun x1 => (if x1 = 0 then some ((-1), S) else (spX6_canBeHeldFor p2 S).bind (fun x2 => (if x2 = 0 then some ((-2), S) else (if S.1 1 7 < 20 then bd2 (spX5_addCertificate 1 (-1) p1 p2 S) (fun x3 S4 => some (x3, S4)) else bd2 (spX6_deny 1 20 S) (fun x5 S6 => some (x5, S6)))))))
set_option maxHeartbeats 4000000 in
set_option maxRecDepth 100000 in
theorem mtX6_certifyByRegistry {l : Launch} (hl0 : l.stackTraces = false) {G : Gt} (p1 : Int32) (p2 : Int32) {S : Wo} : ∀ rr, spX6_certifyByRegistry p1 p2 S = some rr → MI l yX6_certifyByRegistry wsX6_certifyByRegistry { frames := 2, cells := 0, slots := 0, locals := 46 } G S [rf G 0, .int p1, .int p2] rr 0 0 := by
  refine MI_of (cc := cX6_certifyByRegistry) (own := RX6) (maxL := 3) (ret := (some .int)) (sp := spX6_certifyByRegistry p1 p2 S) (by decide +kernel) rfl rfl (Nat.le_of_ble_eq_true rfl) ?_
  intro p e s m args below meth c X
  have hinX5 : ∀ w ∈ wsX50, w ∈ wsX6_certifyByRegistry := by decide +kernel
  have hinX6 : ∀ w ∈ wsX60, w ∈ wsX6_certifyByRegistry := by decide +kernel
  show VS G p l e _ s m args below meth c 3 _ _ 0 0 S 0 [(0, rf G 0), (1, .int p1), (2, .int p2)] []
  unfold spX6_certifyByRegistry
  refine vs_aload_n X dX6_certifyByRegistry_0 0 rfl ?_
  refine g_Reg  X hinX6 0 (by decide) (by decide +kernel) rfl rfl dX6_certifyByRegistry_1 ?_
  refine vs_iload_n X dX6_certifyByRegistry_4 1 rfl ?_
  refine vs_callVp X  (As := [.int p1]) (st' := []) (mtX5_hasScarecrow hl0 (by decide) p1) (cwV 1 X.2.2.2.2.1 gX6_certifyByRegistry_X5_hasScarecrow rfl rfl rfl (by decide +kernel) ⟨Nat.le_of_ble_eq_true rfl, Nat.le_of_ble_eq_true rfl⟩) (by decide) (by decide) rfl rfl rfl (Nat.le_of_ble_eq_true rfl) dX6_certifyByRegistry_5 ⟨Nat.le_of_ble_eq_true rfl, Nat.le_of_ble_eq_true rfl⟩ (fun x1 hx1 => ?_)
  refine vs_if_ne X (tgt := 13) dX6_certifyByRegistry_8 (by decide) (fun _ => ?_) (fun _ => ?_)
  · refine vs_iconst X (v := (-1)) dX6_certifyByRegistry_11 (by decide) ?_
    exact vs_iret X dX6_certifyByRegistry_12 (by decide) (by decide)
  · refine vs_iload_n X dX6_certifyByRegistry_13 2 rfl ?_
    refine vs_callSp X  (As := [.int p2]) (st' := []) (mtX6_canBeHeldFor hl0 p2) (va_cwS 1 X.2.2.2.2.1 gX6_certifyByRegistry_X6_canBeHeldFor rfl rfl rfl (by decide +kernel) ⟨Nat.le_of_ble_eq_true rfl, Nat.le_of_ble_eq_true rfl⟩) rfl (Nat.le_of_ble_eq_true rfl) dX6_certifyByRegistry_14 ⟨Nat.le_of_ble_eq_true rfl, Nat.le_of_ble_eq_true rfl⟩ (fun x2 hx2 => ?_)
    refine vs_if_ne X (tgt := 23) dX6_certifyByRegistry_17 (by decide) (fun _ => ?_) (fun _ => ?_)
    · refine vs_bipush X (v := (-2)) dX6_certifyByRegistry_20 (by decide) ?_
      exact vs_iret X dX6_certifyByRegistry_22 (by decide) (by decide)
    · refine vs_aload_n X dX6_certifyByRegistry_23 0 rfl ?_
      refine g_Reg  X hinX6 0 (by decide) (by decide +kernel) rfl rfl dX6_certifyByRegistry_24 ?_
      refine gN_St (by decide) (host := "ScarecrowRegistry") X hinX5 7 (by decide) (by decide +kernel) rfl rfl dX6_certifyByRegistry_27 ?_
      refine vs_bipush X (v := 20) dX6_certifyByRegistry_30 (by decide) ?_
      refine vs_icmp_lt X (tgt := 43) dX6_certifyByRegistry_32 (by decide) (fun _ => ?_) (fun _ => ?_)
      · refine vs_aload_n X dX6_certifyByRegistry_43 0 rfl ?_
        refine g_Reg  X hinX6 0 (by decide) (by decide +kernel) rfl rfl dX6_certifyByRegistry_44 ?_
        refine vs_iconst X (v := (-1)) dX6_certifyByRegistry_47 (by decide) ?_
        refine vs_iload_n X dX6_certifyByRegistry_48 1 rfl ?_
        refine vs_iload_n X dX6_certifyByRegistry_49 2 rfl ?_
        refine vs_callVi X  (As := [.int (-1), .int p1, .int p2]) (st' := []) (mtX5_addCertificate hl0 (by decide) (-1) p1 p2) (cwV 3 X.2.2.2.2.1 gX6_certifyByRegistry_X5_addCertificate rfl rfl rfl (by decide +kernel) ⟨Nat.le_of_ble_eq_true rfl, Nat.le_of_ble_eq_true rfl⟩) (by decide) (by decide) rfl rfl rfl (Nat.le_of_ble_eq_true rfl) dX6_certifyByRegistry_50 ⟨Nat.le_of_ble_eq_true rfl, Nat.le_of_ble_eq_true rfl⟩ (fun x3 S4 hx3 => ?_)
        exact vs_iret X dX6_certifyByRegistry_53 (by decide) (by decide)
      · refine vs_aload_n X dX6_certifyByRegistry_35 0 rfl ?_
        refine vs_iconst X (v := 1) dX6_certifyByRegistry_36 (by decide) ?_
        refine vs_bipush X (v := 20) dX6_certifyByRegistry_37 (by decide) ?_
        refine vs_callVi X  (As := [.int 1, .int 20]) (st' := []) (mtX6_deny hl0 1 20) (cwV 2 X.2.2.2.2.1 gX6_certifyByRegistry_X6_deny rfl rfl rfl (by decide +kernel) ⟨Nat.le_of_ble_eq_true rfl, Nat.le_of_ble_eq_true rfl⟩) (by decide) (by decide) rfl rfl rfl (Nat.le_of_ble_eq_true rfl) dX6_certifyByRegistry_39 ⟨Nat.le_of_ble_eq_true rfl, Nat.le_of_ble_eq_true rfl⟩ (fun x5 S6 hx5 => ?_)
        exact vs_iret X dX6_certifyByRegistry_42 (by decide) (by decide)

def spX6_certifyByScarecrow (p1 : Int32) (p2 : Int32) (p3 : Int32) (S : Wo) : Option (Int32 × Wo) :=
  (spX5_hasScarecrow 1 p1 S).bind (fun x1 => (if x1 = 0 then some ((-1), S) else (spX5_hasScarecrow 1 p2 S).bind (fun x2 => (if x2 = 0 then some ((-1), S) else (spX6_canBeHeldFor p3 S).bind (fun x3 => (if x3 = 0 then some ((-2), S) else (if p1 = p2 then bd2 (spX6_deny 4 p1 S) (fun x4 S5 => some (x4, S5)) else (spX5_certifiedNow 1 S).bind (fun x6 => (spX6_has x6 p1 S).bind (fun x7 => (if x7 = 0 then bd2 (spX6_deny 3 p1 S) (fun x8 S9 => some (x8, S9)) else (if S.1 1 7 < 20 then bd2 (spX5_addCertificate 1 p1 p2 p3 S) (fun x10 S11 => some (x10, S11)) else bd2 (spX6_deny 1 20 S) (fun x12 S13 => some (x12, S13)))))))))))))
set_option maxHeartbeats 4000000 in
set_option maxRecDepth 100000 in
theorem mtX6_certifyByScarecrow {l : Launch} (hl0 : l.stackTraces = false) {G : Gt} (p1 : Int32) (p2 : Int32) (p3 : Int32) {S : Wo} : ∀ rr, spX6_certifyByScarecrow p1 p2 p3 S = some rr → MI l yX6_certifyByScarecrow wsX6_certifyByScarecrow { frames := 4, cells := 0, slots := 0, locals := 93 } G S [rf G 0, .int p1, .int p2, .int p3] rr 0 0 := by
  refine MI_of (cc := cX6_certifyByScarecrow) (own := RX6) (maxL := 4) (ret := (some .int)) (sp := spX6_certifyByScarecrow p1 p2 p3 S) (by decide +kernel) rfl rfl (Nat.le_of_ble_eq_true rfl) ?_
  intro p e s m args below meth c X
  have hinX5 : ∀ w ∈ wsX50, w ∈ wsX6_certifyByScarecrow := by decide +kernel
  have hinX6 : ∀ w ∈ wsX60, w ∈ wsX6_certifyByScarecrow := by decide +kernel
  show VS G p l e _ s m args below meth c 4 _ _ 0 0 S 0 [(0, rf G 0), (1, .int p1), (2, .int p2), (3, .int p3)] []
  unfold spX6_certifyByScarecrow
  refine vs_aload_n X dX6_certifyByScarecrow_0 0 rfl ?_
  refine g_Reg  X hinX6 0 (by decide) (by decide +kernel) rfl rfl dX6_certifyByScarecrow_1 ?_
  refine vs_iload_n X dX6_certifyByScarecrow_4 1 rfl ?_
  refine vs_callVp X  (As := [.int p1]) (st' := []) (mtX5_hasScarecrow hl0 (by decide) p1) (cwV 1 X.2.2.2.2.1 gX6_certifyByScarecrow_X5_hasScarecrow rfl rfl rfl (by decide +kernel) ⟨Nat.le_of_ble_eq_true rfl, Nat.le_of_ble_eq_true rfl⟩) (by decide) (by decide) rfl rfl rfl (Nat.le_of_ble_eq_true rfl) dX6_certifyByScarecrow_5 ⟨Nat.le_of_ble_eq_true rfl, Nat.le_of_ble_eq_true rfl⟩ (fun x1 hx1 => ?_)
  refine vs_if_eq X (tgt := 22) dX6_certifyByScarecrow_8 (by decide) (fun _ => ?_) (fun _ => ?_)
  · refine vs_iconst X (v := (-1)) dX6_certifyByScarecrow_22 (by decide) ?_
    exact vs_iret X dX6_certifyByScarecrow_23 (by decide) (by decide)
  · refine vs_aload_n X dX6_certifyByScarecrow_11 0 rfl ?_
    refine g_Reg  X hinX6 0 (by decide) (by decide +kernel) rfl rfl dX6_certifyByScarecrow_12 ?_
    refine vs_iload_n X dX6_certifyByScarecrow_15 2 rfl ?_
    refine vs_callVp X  (As := [.int p2]) (st' := []) (mtX5_hasScarecrow hl0 (by decide) p2) (cwV 1 X.2.2.2.2.1 gX6_certifyByScarecrow_X5_hasScarecrow rfl rfl rfl (by decide +kernel) ⟨Nat.le_of_ble_eq_true rfl, Nat.le_of_ble_eq_true rfl⟩) (by decide) (by decide) rfl rfl rfl (Nat.le_of_ble_eq_true rfl) dX6_certifyByScarecrow_16 ⟨Nat.le_of_ble_eq_true rfl, Nat.le_of_ble_eq_true rfl⟩ (fun x2 hx2 => ?_)
    refine vs_if_ne X (tgt := 24) dX6_certifyByScarecrow_19 (by decide) (fun _ => ?_) (fun _ => ?_)
    · refine vs_iconst X (v := (-1)) dX6_certifyByScarecrow_22 (by decide) ?_
      exact vs_iret X dX6_certifyByScarecrow_23 (by decide) (by decide)
    · refine vs_iload_n X dX6_certifyByScarecrow_24 3 rfl ?_
      refine vs_callSp X  (As := [.int p3]) (st' := []) (mtX6_canBeHeldFor hl0 p3) (va_cwS 1 X.2.2.2.2.1 gX6_certifyByScarecrow_X6_canBeHeldFor rfl rfl rfl (by decide +kernel) ⟨Nat.le_of_ble_eq_true rfl, Nat.le_of_ble_eq_true rfl⟩) rfl (Nat.le_of_ble_eq_true rfl) dX6_certifyByScarecrow_25 ⟨Nat.le_of_ble_eq_true rfl, Nat.le_of_ble_eq_true rfl⟩ (fun x3 hx3 => ?_)
      refine vs_if_ne X (tgt := 34) dX6_certifyByScarecrow_28 (by decide) (fun _ => ?_) (fun _ => ?_)
      · refine vs_bipush X (v := (-2)) dX6_certifyByScarecrow_31 (by decide) ?_
        exact vs_iret X dX6_certifyByScarecrow_33 (by decide) (by decide)
      · refine vs_iload_n X dX6_certifyByScarecrow_34 1 rfl ?_
        refine vs_iload_n X dX6_certifyByScarecrow_35 2 rfl ?_
        refine vs_icmp_ne X (tgt := 46) dX6_certifyByScarecrow_36 (by decide) (fun _ => ?_) (fun _ => ?_)
        · refine vs_aload_n X dX6_certifyByScarecrow_39 0 rfl ?_
          refine vs_iconst X (v := 4) dX6_certifyByScarecrow_40 (by decide) ?_
          refine vs_iload_n X dX6_certifyByScarecrow_41 1 rfl ?_
          refine vs_callVi X  (As := [.int 4, .int p1]) (st' := []) (mtX6_deny hl0 4 p1) (cwV 2 X.2.2.2.2.1 gX6_certifyByScarecrow_X6_deny rfl rfl rfl (by decide +kernel) ⟨Nat.le_of_ble_eq_true rfl, Nat.le_of_ble_eq_true rfl⟩) (by decide) (by decide) rfl rfl rfl (Nat.le_of_ble_eq_true rfl) dX6_certifyByScarecrow_42 ⟨Nat.le_of_ble_eq_true rfl, Nat.le_of_ble_eq_true rfl⟩ (fun x4 S5 hx4 => ?_)
          exact vs_iret X dX6_certifyByScarecrow_45 (by decide) (by decide)
        · refine vs_aload_n X dX6_certifyByScarecrow_46 0 rfl ?_
          refine g_Reg  X hinX6 0 (by decide) (by decide +kernel) rfl rfl dX6_certifyByScarecrow_47 ?_
          refine vs_callVp X  (As := []) (st' := []) (mtX5_certifiedNow hl0 (by decide)) (cwV 0 X.2.2.2.2.1 gX6_certifyByScarecrow_X5_certifiedNow rfl rfl rfl (by decide +kernel) ⟨Nat.le_of_ble_eq_true rfl, Nat.le_of_ble_eq_true rfl⟩) (by decide) (by decide) rfl rfl rfl (Nat.le_of_ble_eq_true rfl) dX6_certifyByScarecrow_50 ⟨Nat.le_of_ble_eq_true rfl, Nat.le_of_ble_eq_true rfl⟩ (fun x6 hx6 => ?_)
          refine vs_iload_n X dX6_certifyByScarecrow_53 1 rfl ?_
          refine vs_callSp X  (As := [.int x6, .int p1]) (st' := []) (mtX6_has hl0 x6 p1) (va_cwS 2 X.2.2.2.2.1 gX6_certifyByScarecrow_X6_has rfl rfl rfl (by decide +kernel) ⟨Nat.le_of_ble_eq_true rfl, Nat.le_of_ble_eq_true rfl⟩) rfl (Nat.le_of_ble_eq_true rfl) dX6_certifyByScarecrow_54 ⟨Nat.le_of_ble_eq_true rfl, Nat.le_of_ble_eq_true rfl⟩ (fun x7 hx7 => ?_)
          refine vs_if_ne X (tgt := 67) dX6_certifyByScarecrow_57 (by decide) (fun _ => ?_) (fun _ => ?_)
          · refine vs_aload_n X dX6_certifyByScarecrow_60 0 rfl ?_
            refine vs_iconst X (v := 3) dX6_certifyByScarecrow_61 (by decide) ?_
            refine vs_iload_n X dX6_certifyByScarecrow_62 1 rfl ?_
            refine vs_callVi X  (As := [.int 3, .int p1]) (st' := []) (mtX6_deny hl0 3 p1) (cwV 2 X.2.2.2.2.1 gX6_certifyByScarecrow_X6_deny rfl rfl rfl (by decide +kernel) ⟨Nat.le_of_ble_eq_true rfl, Nat.le_of_ble_eq_true rfl⟩) (by decide) (by decide) rfl rfl rfl (Nat.le_of_ble_eq_true rfl) dX6_certifyByScarecrow_63 ⟨Nat.le_of_ble_eq_true rfl, Nat.le_of_ble_eq_true rfl⟩ (fun x8 S9 hx8 => ?_)
            exact vs_iret X dX6_certifyByScarecrow_66 (by decide) (by decide)
          · refine vs_aload_n X dX6_certifyByScarecrow_67 0 rfl ?_
            refine g_Reg  X hinX6 0 (by decide) (by decide +kernel) rfl rfl dX6_certifyByScarecrow_68 ?_
            refine gN_St (by decide) (host := "ScarecrowRegistry") X hinX5 7 (by decide) (by decide +kernel) rfl rfl dX6_certifyByScarecrow_71 ?_
            refine vs_bipush X (v := 20) dX6_certifyByScarecrow_74 (by decide) ?_
            refine vs_icmp_lt X (tgt := 87) dX6_certifyByScarecrow_76 (by decide) (fun _ => ?_) (fun _ => ?_)
            · refine vs_aload_n X dX6_certifyByScarecrow_87 0 rfl ?_
              refine g_Reg  X hinX6 0 (by decide) (by decide +kernel) rfl rfl dX6_certifyByScarecrow_88 ?_
              refine vs_iload_n X dX6_certifyByScarecrow_91 1 rfl ?_
              refine vs_iload_n X dX6_certifyByScarecrow_92 2 rfl ?_
              refine vs_iload_n X dX6_certifyByScarecrow_93 3 rfl ?_
              refine vs_callVi X  (As := [.int p1, .int p2, .int p3]) (st' := []) (mtX5_addCertificate hl0 (by decide) p1 p2 p3) (cwV 3 X.2.2.2.2.1 gX6_certifyByScarecrow_X5_addCertificate rfl rfl rfl (by decide +kernel) ⟨Nat.le_of_ble_eq_true rfl, Nat.le_of_ble_eq_true rfl⟩) (by decide) (by decide) rfl rfl rfl (Nat.le_of_ble_eq_true rfl) dX6_certifyByScarecrow_94 ⟨Nat.le_of_ble_eq_true rfl, Nat.le_of_ble_eq_true rfl⟩ (fun x10 S11 hx10 => ?_)
              exact vs_iret X dX6_certifyByScarecrow_97 (by decide) (by decide)
            · refine vs_aload_n X dX6_certifyByScarecrow_79 0 rfl ?_
              refine vs_iconst X (v := 1) dX6_certifyByScarecrow_80 (by decide) ?_
              refine vs_bipush X (v := 20) dX6_certifyByScarecrow_81 (by decide) ?_
              refine vs_callVi X  (As := [.int 1, .int 20]) (st' := []) (mtX6_deny hl0 1 20) (cwV 2 X.2.2.2.2.1 gX6_certifyByScarecrow_X6_deny rfl rfl rfl (by decide +kernel) ⟨Nat.le_of_ble_eq_true rfl, Nat.le_of_ble_eq_true rfl⟩) (by decide) (by decide) rfl rfl rfl (Nat.le_of_ble_eq_true rfl) dX6_certifyByScarecrow_83 ⟨Nat.le_of_ble_eq_true rfl, Nat.le_of_ble_eq_true rfl⟩ (fun x12 S13 hx12 => ?_)
              exact vs_iret X dX6_certifyByScarecrow_86 (by decide) (by decide)

def spX6_dropCertificate (p1 : Int32) (S : Wo) : Option (Int32 × Wo) :=
  (spX5_hasCertificate 1 p1 S).bind (fun x1 => (if x1 = 0 then some ((-1), S) else (spX4_get 6 20 p1 S).bind (fun x2 => (spX5_removeCertificate 1 p1 S).bind (fun S3 => some (x2, S3)))))
set_option maxHeartbeats 4000000 in
set_option maxRecDepth 100000 in
theorem mtX6_dropCertificate {l : Launch} (hl0 : l.stackTraces = false) {G : Gt} (p1 : Int32) {S : Wo} : ∀ rr, spX6_dropCertificate p1 S = some rr → MI l yX6_dropCertificate wsX6_dropCertificate { frames := 2, cells := 0, slots := 0, locals := 43 } G S [rf G 0, .int p1] rr 0 0 := by
  refine MI_of (cc := cX6_dropCertificate) (own := RX6) (maxL := 3) (ret := (some .int)) (sp := spX6_dropCertificate p1 S) (by decide +kernel) rfl rfl (Nat.le_of_ble_eq_true rfl) ?_
  intro p e s m args below meth c X
  have hinX5 : ∀ w ∈ wsX50, w ∈ wsX6_dropCertificate := by decide +kernel
  have hinX6 : ∀ w ∈ wsX60, w ∈ wsX6_dropCertificate := by decide +kernel
  show VS G p l e _ s m args below meth c 3 _ _ 0 0 S 0 [(0, rf G 0), (1, .int p1)] []
  unfold spX6_dropCertificate
  refine vs_aload_n X dX6_dropCertificate_0 0 rfl ?_
  refine g_Reg  X hinX6 0 (by decide) (by decide +kernel) rfl rfl dX6_dropCertificate_1 ?_
  refine vs_iload_n X dX6_dropCertificate_4 1 rfl ?_
  refine vs_callVp X  (As := [.int p1]) (st' := []) (mtX5_hasCertificate hl0 (by decide) p1) (cwV 1 X.2.2.2.2.1 gX6_dropCertificate_X5_hasCertificate rfl rfl rfl (by decide +kernel) ⟨Nat.le_of_ble_eq_true rfl, Nat.le_of_ble_eq_true rfl⟩) (by decide) (by decide) rfl rfl rfl (Nat.le_of_ble_eq_true rfl) dX6_dropCertificate_5 ⟨Nat.le_of_ble_eq_true rfl, Nat.le_of_ble_eq_true rfl⟩ (fun x1 hx1 => ?_)
  refine vs_if_ne X (tgt := 13) dX6_dropCertificate_8 (by decide) (fun _ => ?_) (fun _ => ?_)
  · refine vs_iconst X (v := (-1)) dX6_dropCertificate_11 (by decide) ?_
    exact vs_iret X dX6_dropCertificate_12 (by decide) (by decide)
  · refine vs_aload_n X dX6_dropCertificate_13 0 rfl ?_
    refine g_Reg  X hinX6 0 (by decide) (by decide +kernel) rfl rfl dX6_dropCertificate_14 ?_
    refine gN_St (by decide) (host := "ScarecrowRegistry") X hinX5 4 (by decide) (by decide +kernel) rfl rfl dX6_dropCertificate_17 ?_
    refine vs_iload_n X dX6_dropCertificate_20 1 rfl ?_
    refine vs_callVp X  (As := [.int p1]) (st' := []) (mtX4_get hl0 (isRow_st (by decide)).2.2.1 p1) (cwV 1 X.2.2.2.2.1 gX6_dropCertificate_X4_get rfl rfl rfl (by decide +kernel) ⟨Nat.le_of_ble_eq_true rfl, Nat.le_of_ble_eq_true rfl⟩) (by decide) (by decide) rfl rfl rfl (Nat.le_of_ble_eq_true rfl) dX6_dropCertificate_21 ⟨Nat.le_of_ble_eq_true rfl, Nat.le_of_ble_eq_true rfl⟩ (fun x2 hx2 => ?_)
    refine vs_istore_n X (lv' := [(2, .int x2), (0, rf G 0), (1, .int p1)]) dX6_dropCertificate_24 (by decide) rfl ?_
    refine vs_aload_n X dX6_dropCertificate_25 1 rfl ?_
    refine g_Reg  X hinX6 0 (by decide) (by decide +kernel) rfl rfl dX6_dropCertificate_26 ?_
    refine vs_iload_n X dX6_dropCertificate_29 2 rfl ?_
    refine vs_callVv X  (As := [.int p1]) (st' := []) (mtX5_removeCertificate hl0 (by decide) p1) (cwV 1 X.2.2.2.2.1 gX6_dropCertificate_X5_removeCertificate rfl rfl rfl (by decide +kernel) ⟨Nat.le_of_ble_eq_true rfl, Nat.le_of_ble_eq_true rfl⟩) (by decide) (by decide) rfl rfl rfl (Nat.le_of_ble_eq_true rfl) dX6_dropCertificate_30 ⟨Nat.le_of_ble_eq_true rfl, Nat.le_of_ble_eq_true rfl⟩ (fun S3 hS3 => ?_)
    refine vs_iload_n X dX6_dropCertificate_33 0 rfl ?_
    exact vs_iret X dX6_dropCertificate_34 (by decide) (by decide)

def spX6_putGrains (p1 : Int32) (p2 : Int32) (S : Wo) : Option (Int32 × Wo) :=
  (spX6_isField p1 S).bind (fun x1 => (if x1 = 0 then some ((-2), S) else (if p2 < 1 then some ((-2), S) else (if p2 ≤ 99 then (spX4_get 12 16 p1 S).bind (fun x2 => (if (x2 + p2) ≤ 99 then (spX4_set 12 16 p1 (x2 + p2) S).bind (fun S3 => wr (pI S3 1 11 (S3.1 1 11 + p2)) (fun S4 => some ((x2 + p2), S4))) else bd2 (spX6_deny 1 99 S) (fun x5 S6 => some (x5, S6)))) else some ((-2), S)))))
set_option maxHeartbeats 4000000 in
set_option maxRecDepth 100000 in
theorem mtX6_putGrains {l : Launch} (hl0 : l.stackTraces = false) {G : Gt} (p1 : Int32) (p2 : Int32) {S : Wo} : ∀ rr, spX6_putGrains p1 p2 S = some rr → MI l yX6_putGrains wsX6_putGrains { frames := 1, cells := 0, slots := 0, locals := 22 } G S [rf G 0, .int p1, .int p2] rr 0 0 := by
  refine MI_of (cc := cX6_putGrains) (own := RX6) (maxL := 4) (ret := (some .int)) (sp := spX6_putGrains p1 p2 S) (by decide +kernel) rfl rfl (Nat.le_of_ble_eq_true rfl) ?_
  intro p e s m args below meth c X
  have hinX5 : ∀ w ∈ wsX50, w ∈ wsX6_putGrains := by decide +kernel
  have hinX6 : ∀ w ∈ wsX60, w ∈ wsX6_putGrains := by decide +kernel
  show VS G p l e _ s m args below meth c 4 _ _ 0 0 S 0 [(0, rf G 0), (1, .int p1), (2, .int p2)] []
  unfold spX6_putGrains
  refine vs_iload_n X dX6_putGrains_0 1 rfl ?_
  refine vs_callSp X  (As := [.int p1]) (st' := []) (mtX6_isField hl0 p1) (va_cwS 1 X.2.2.2.2.1 gX6_putGrains_X6_isField rfl rfl rfl (by decide +kernel) ⟨Nat.le_of_ble_eq_true rfl, Nat.le_of_ble_eq_true rfl⟩) rfl (Nat.le_of_ble_eq_true rfl) dX6_putGrains_1 ⟨Nat.le_of_ble_eq_true rfl, Nat.le_of_ble_eq_true rfl⟩ (fun x1 hx1 => ?_)
  refine vs_if_eq X (tgt := 18) dX6_putGrains_4 (by decide) (fun _ => ?_) (fun _ => ?_)
  · refine vs_bipush X (v := (-2)) dX6_putGrains_18 (by decide) ?_
    exact vs_iret X dX6_putGrains_20 (by decide) (by decide)
  · refine vs_iload_n X dX6_putGrains_7 2 rfl ?_
    refine vs_iconst X (v := 1) dX6_putGrains_8 (by decide) ?_
    refine vs_icmp_lt X (tgt := 18) dX6_putGrains_9 (by decide) (fun _ => ?_) (fun _ => ?_)
    · refine vs_bipush X (v := (-2)) dX6_putGrains_18 (by decide) ?_
      exact vs_iret X dX6_putGrains_20 (by decide) (by decide)
    · refine vs_iload_n X dX6_putGrains_12 2 rfl ?_
      refine vs_bipush X (v := 99) dX6_putGrains_13 (by decide) ?_
      refine vs_icmp_le X (tgt := 21) dX6_putGrains_15 (by decide) (fun _ => ?_) (fun _ => ?_)
      · refine vs_aload_n X dX6_putGrains_21 0 rfl ?_
        refine g_Reg  X hinX6 0 (by decide) (by decide +kernel) rfl rfl dX6_putGrains_22 ?_
        refine gN_St (by decide) (host := "ScarecrowRegistry") X hinX5 8 (by decide) (by decide +kernel) rfl rfl dX6_putGrains_25 ?_
        refine vs_iload_n X dX6_putGrains_28 1 rfl ?_
        refine vs_callVp X  (As := [.int p1]) (st' := []) (mtX4_get hl0 (isRow_st (by decide)).2.2.2.2.2 p1) (cwV 1 X.2.2.2.2.1 gX6_putGrains_X4_get rfl rfl rfl (by decide +kernel) ⟨Nat.le_of_ble_eq_true rfl, Nat.le_of_ble_eq_true rfl⟩) (by decide) (by decide) rfl rfl rfl (Nat.le_of_ble_eq_true rfl) dX6_putGrains_29 ⟨Nat.le_of_ble_eq_true rfl, Nat.le_of_ble_eq_true rfl⟩ (fun x2 hx2 => ?_)
        refine vs_iload_n X dX6_putGrains_32 2 rfl ?_
        refine vs_iadd X dX6_putGrains_33 ?_
        refine vs_istore_n X (lv' := [(3, .int (x2 + p2)), (0, rf G 0), (1, .int p1), (2, .int p2)]) dX6_putGrains_34 (by decide) rfl ?_
        refine vs_iload_n X dX6_putGrains_35 0 rfl ?_
        refine vs_bipush X (v := 99) dX6_putGrains_36 (by decide) ?_
        refine vs_icmp_le X (tgt := 49) dX6_putGrains_38 (by decide) (fun _ => ?_) (fun _ => ?_)
        · refine vs_aload_n X dX6_putGrains_49 1 rfl ?_
          refine g_Reg  X hinX6 0 (by decide) (by decide +kernel) rfl rfl dX6_putGrains_50 ?_
          refine gN_St (by decide) (host := "ScarecrowRegistry") X hinX5 8 (by decide) (by decide +kernel) rfl rfl dX6_putGrains_53 ?_
          refine vs_iload_n X dX6_putGrains_56 2 rfl ?_
          refine vs_iload_n X dX6_putGrains_57 0 rfl ?_
          refine vs_callVv X  (As := [.int p1, .int (x2 + p2)]) (st' := []) (mtX4_set hl0 (isRow_st (by decide)).2.2.2.2.2 p1 (x2 + p2)) (cwV 2 X.2.2.2.2.1 gX6_putGrains_X4_set rfl rfl rfl (by decide +kernel) ⟨Nat.le_of_ble_eq_true rfl, Nat.le_of_ble_eq_true rfl⟩) (by decide) (by decide) rfl rfl rfl (Nat.le_of_ble_eq_true rfl) dX6_putGrains_58 ⟨Nat.le_of_ble_eq_true rfl, Nat.le_of_ble_eq_true rfl⟩ (fun S3 hS3 => ?_)
          refine vs_aload_n X dX6_putGrains_61 1 rfl ?_
          refine g_Reg  X hinX6 0 (by decide) (by decide +kernel) rfl rfl dX6_putGrains_62 ?_
          refine vs_dup X dX6_putGrains_65 rfl ?_
          refine gN_St (by decide) (host := "ScarecrowRegistry") X hinX5 11 (by decide) (by decide +kernel) rfl rfl dX6_putGrains_66 ?_
          refine vs_iload_n X dX6_putGrains_69 3 rfl ?_
          refine vs_iadd X dX6_putGrains_70 ?_
          refine pN_St (by decide) (host := "ScarecrowRegistry") X hinX5 11 (by decide) (by decide +kernel) rfl rfl rfl rfl rfl (celw_11 (by decide)) dX6_putGrains_71 (fun S4 hS4 => ?_)
          refine vs_iload_n X dX6_putGrains_74 0 rfl ?_
          exact vs_iret X dX6_putGrains_75 (by decide) (by decide)
        · refine vs_aload_n X dX6_putGrains_41 1 rfl ?_
          refine vs_iconst X (v := 1) dX6_putGrains_42 (by decide) ?_
          refine vs_bipush X (v := 99) dX6_putGrains_43 (by decide) ?_
          refine vs_callVi X  (As := [.int 1, .int 99]) (st' := []) (mtX6_deny hl0 1 99) (cwV 2 X.2.2.2.2.1 gX6_putGrains_X6_deny rfl rfl rfl (by decide +kernel) ⟨Nat.le_of_ble_eq_true rfl, Nat.le_of_ble_eq_true rfl⟩) (by decide) (by decide) rfl rfl rfl (Nat.le_of_ble_eq_true rfl) dX6_putGrains_45 ⟨Nat.le_of_ble_eq_true rfl, Nat.le_of_ble_eq_true rfl⟩ (fun x5 S6 hx5 => ?_)
          exact vs_iret X dX6_putGrains_48 (by decide) (by decide)
      · refine vs_bipush X (v := (-2)) dX6_putGrains_18 (by decide) ?_
        exact vs_iret X dX6_putGrains_20 (by decide) (by decide)

def spX6_passDays (p1 : Int32) (S : Wo) : Option (Int32 × Wo) :=
  (if p1 < 1 then some ((-2), S) else (if p1 ≤ 60 then bd2 (spX5_letDaysPass 1 p1 S) (fun x1 S2 => some (x1, S2)) else some ((-2), S)))
set_option maxHeartbeats 4000000 in
set_option maxRecDepth 100000 in
theorem mtX6_passDays {l : Launch} (hl0 : l.stackTraces = false) {G : Gt} (p1 : Int32) {S : Wo} : ∀ rr, spX6_passDays p1 S = some rr → MI l yX6_passDays wsX6_passDays { frames := 4, cells := 0, slots := 0, locals := 98 } G S [rf G 0, .int p1] rr 0 0 := by
  refine MI_of (cc := cX6_passDays) (own := RX6) (maxL := 2) (ret := (some .int)) (sp := spX6_passDays p1 S) (by decide +kernel) rfl rfl (Nat.le_of_ble_eq_true rfl) ?_
  intro p e s m args below meth c X
  have hinX6 : ∀ w ∈ wsX60, w ∈ wsX6_passDays := by decide +kernel
  show VS G p l e _ s m args below meth c 2 _ _ 0 0 S 0 [(0, rf G 0), (1, .int p1)] []
  unfold spX6_passDays
  refine vs_iload_n X dX6_passDays_0 1 rfl ?_
  refine vs_iconst X (v := 1) dX6_passDays_1 (by decide) ?_
  refine vs_icmp_lt X (tgt := 11) dX6_passDays_2 (by decide) (fun _ => ?_) (fun _ => ?_)
  · refine vs_bipush X (v := (-2)) dX6_passDays_11 (by decide) ?_
    exact vs_iret X dX6_passDays_13 (by decide) (by decide)
  · refine vs_iload_n X dX6_passDays_5 1 rfl ?_
    refine vs_bipush X (v := 60) dX6_passDays_6 (by decide) ?_
    refine vs_icmp_le X (tgt := 14) dX6_passDays_8 (by decide) (fun _ => ?_) (fun _ => ?_)
    · refine vs_aload_n X dX6_passDays_14 0 rfl ?_
      refine g_Reg  X hinX6 0 (by decide) (by decide +kernel) rfl rfl dX6_passDays_15 ?_
      refine vs_iload_n X dX6_passDays_18 1 rfl ?_
      refine vs_callVi X  (As := [.int p1]) (st' := []) (mtX5_letDaysPass hl0 (by decide) p1) (cwV 1 X.2.2.2.2.1 gX6_passDays_X5_letDaysPass rfl rfl rfl (by decide +kernel) ⟨Nat.le_of_ble_eq_true rfl, Nat.le_of_ble_eq_true rfl⟩) (by decide) (by decide) rfl rfl rfl (Nat.le_of_ble_eq_true rfl) dX6_passDays_19 ⟨Nat.le_of_ble_eq_true rfl, Nat.le_of_ble_eq_true rfl⟩ (fun x1 S2 hx1 => ?_)
      exact vs_iret X dX6_passDays_22 (by decide) (by decide)
    · refine vs_bipush X (v := (-2)) dX6_passDays_11 (by decide) ?_
      exact vs_iret X dX6_passDays_13 (by decide) (by decide)

def spX6_register (p1 : Int32) (S : Wo) : Option (Nat × Int32 × Wo) :=
  (spX6_beginChange  S).bind (fun S1 => bd2 (spX6_putScarecrow p1 S1) (fun x2 S3 => bx (spX6_endChange x2 S3) (fun x4 S5 => some (0, x4, S5))))
set_option maxHeartbeats 4000000 in
set_option maxRecDepth 100000 in
theorem mtX6_register {l : Launch} (hl0 : l.stackTraces = false) {G : Gt} (p1 : Int32) {S : Wo} : ∀ rr, spX6_register p1 S = some rr → MXI l yX6_register wsX6_register { frames := 7, cells := 1, slots := 6, locals := 106 } G S [rf G 0, .int p1] rr 1 6 := by
  refine MXI_of (cc := cX6_register) (own := RX6) (maxL := 2) (ret := (some .int)) (sp := spX6_register p1 S) (by decide +kernel) rfl rfl (Nat.le_of_ble_eq_true rfl) ?_
  intro p e s m args below meth c X hT
  show VS G p l e _ s m args below meth c 2 _ _ 0 0 S 0 [(0, rf G 0), (1, .int p1)] []
  unfold spX6_register
  refine vs_aload_n X dX6_register_0 0 rfl ?_
  refine vs_callVv X  (As := []) (st' := []) (mtX6_beginChange hl0 ) (cwV 0 X.2.2.2.2.1 gX6_register_X6_beginChange rfl rfl rfl (by decide +kernel) ⟨Nat.le_of_ble_eq_true rfl, Nat.le_of_ble_eq_true rfl⟩) (by decide) (by decide) rfl rfl rfl (Nat.le_of_ble_eq_true rfl) dX6_register_1 ⟨Nat.le_of_ble_eq_true rfl, Nat.le_of_ble_eq_true rfl⟩ (fun S1 hS1 => ?_)
  refine vs_aload_n X dX6_register_4 0 rfl ?_
  refine vs_aload_n X dX6_register_5 0 rfl ?_
  refine vs_iload_n X dX6_register_6 1 rfl ?_
  refine vs_callVi X  (As := [.int p1]) (st' := [rf G 0]) (mtX6_putScarecrow hl0 p1) (cwV 1 X.2.2.2.2.1 gX6_register_X6_putScarecrow rfl rfl rfl (by decide +kernel) ⟨Nat.le_of_ble_eq_true rfl, Nat.le_of_ble_eq_true rfl⟩) (by decide) (by decide) rfl rfl rfl (Nat.le_of_ble_eq_true rfl) dX6_register_7 ⟨Nat.le_of_ble_eq_true rfl, Nat.le_of_ble_eq_true rfl⟩ (fun x2 S3 hx2 => ?_)
  refine vs_callVxiI X hT (As := [.int x2]) (st' := []) (mtX6_endChange hl0 x2) (cwV 1 X.2.2.2.2.1 gX6_register_X6_endChange rfl rfl rfl (by decide +kernel) ⟨Nat.le_of_ble_eq_true rfl, Nat.le_of_ble_eq_true rfl⟩) (by decide) (by decide) rfl rfl rfl (Nat.le_of_ble_eq_true rfl) dX6_register_10 ⟨Nat.le_of_ble_eq_true rfl, Nat.le_of_ble_eq_true rfl⟩ (by decide) (by decide) (fun x4 S5 hS5 => ?_)
  exact vs_xiret X dX6_register_13 (by decide) (by decide)

def spX6_move (p1 : Int32) (p2 : Int32) (S : Wo) : Option (Nat × Int32 × Wo) :=
  (spX6_beginChange  S).bind (fun S1 => bd2 (spX6_moveScarecrow p1 p2 S1) (fun x2 S3 => bx (spX6_endChange x2 S3) (fun x4 S5 => some (0, x4, S5))))
set_option maxHeartbeats 4000000 in
set_option maxRecDepth 100000 in
theorem mtX6_move {l : Launch} (hl0 : l.stackTraces = false) {G : Gt} (p1 : Int32) (p2 : Int32) {S : Wo} : ∀ rr, spX6_move p1 p2 S = some rr → MXI l yX6_move wsX6_move { frames := 7, cells := 1, slots := 6, locals := 106 } G S [rf G 0, .int p1, .int p2] rr 1 6 := by
  refine MXI_of (cc := cX6_move) (own := RX6) (maxL := 3) (ret := (some .int)) (sp := spX6_move p1 p2 S) (by decide +kernel) rfl rfl (Nat.le_of_ble_eq_true rfl) ?_
  intro p e s m args below meth c X hT
  show VS G p l e _ s m args below meth c 3 _ _ 0 0 S 0 [(0, rf G 0), (1, .int p1), (2, .int p2)] []
  unfold spX6_move
  refine vs_aload_n X dX6_move_0 0 rfl ?_
  refine vs_callVv X  (As := []) (st' := []) (mtX6_beginChange hl0 ) (cwV 0 X.2.2.2.2.1 gX6_move_X6_beginChange rfl rfl rfl (by decide +kernel) ⟨Nat.le_of_ble_eq_true rfl, Nat.le_of_ble_eq_true rfl⟩) (by decide) (by decide) rfl rfl rfl (Nat.le_of_ble_eq_true rfl) dX6_move_1 ⟨Nat.le_of_ble_eq_true rfl, Nat.le_of_ble_eq_true rfl⟩ (fun S1 hS1 => ?_)
  refine vs_aload_n X dX6_move_4 0 rfl ?_
  refine vs_aload_n X dX6_move_5 0 rfl ?_
  refine vs_iload_n X dX6_move_6 1 rfl ?_
  refine vs_iload_n X dX6_move_7 2 rfl ?_
  refine vs_callVi X  (As := [.int p1, .int p2]) (st' := [rf G 0]) (mtX6_moveScarecrow hl0 p1 p2) (cwV 2 X.2.2.2.2.1 gX6_move_X6_moveScarecrow rfl rfl rfl (by decide +kernel) ⟨Nat.le_of_ble_eq_true rfl, Nat.le_of_ble_eq_true rfl⟩) (by decide) (by decide) rfl rfl rfl (Nat.le_of_ble_eq_true rfl) dX6_move_8 ⟨Nat.le_of_ble_eq_true rfl, Nat.le_of_ble_eq_true rfl⟩ (fun x2 S3 hx2 => ?_)
  refine vs_callVxiI X hT (As := [.int x2]) (st' := []) (mtX6_endChange hl0 x2) (cwV 1 X.2.2.2.2.1 gX6_move_X6_endChange rfl rfl rfl (by decide +kernel) ⟨Nat.le_of_ble_eq_true rfl, Nat.le_of_ble_eq_true rfl⟩) (by decide) (by decide) rfl rfl rfl (Nat.le_of_ble_eq_true rfl) dX6_move_11 ⟨Nat.le_of_ble_eq_true rfl, Nat.le_of_ble_eq_true rfl⟩ (by decide) (by decide) (fun x4 S5 hS5 => ?_)
  exact vs_xiret X dX6_move_14 (by decide) (by decide)

def spX6_setRevoked (p1 : Int32) (p2 : Int32) (S : Wo) : Option (Nat × Int32 × Wo) :=
  (spX6_beginChange  S).bind (fun S1 => bd2 (spX6_revokeOrRestore p1 p2 S1) (fun x2 S3 => bx (spX6_endChange x2 S3) (fun x4 S5 => some (0, x4, S5))))
set_option maxHeartbeats 4000000 in
set_option maxRecDepth 100000 in
theorem mtX6_setRevoked {l : Launch} (hl0 : l.stackTraces = false) {G : Gt} (p1 : Int32) (p2 : Int32) {S : Wo} : ∀ rr, spX6_setRevoked p1 p2 S = some rr → MXI l yX6_setRevoked wsX6_setRevoked { frames := 7, cells := 1, slots := 6, locals := 115 } G S [rf G 0, .int p1, .int p2] rr 1 6 := by
  refine MXI_of (cc := cX6_setRevoked) (own := RX6) (maxL := 3) (ret := (some .int)) (sp := spX6_setRevoked p1 p2 S) (by decide +kernel) rfl rfl (Nat.le_of_ble_eq_true rfl) ?_
  intro p e s m args below meth c X hT
  show VS G p l e _ s m args below meth c 3 _ _ 0 0 S 0 [(0, rf G 0), (1, .int p1), (2, .int p2)] []
  unfold spX6_setRevoked
  refine vs_aload_n X dX6_setRevoked_0 0 rfl ?_
  refine vs_callVv X  (As := []) (st' := []) (mtX6_beginChange hl0 ) (cwV 0 X.2.2.2.2.1 gX6_setRevoked_X6_beginChange rfl rfl rfl (by decide +kernel) ⟨Nat.le_of_ble_eq_true rfl, Nat.le_of_ble_eq_true rfl⟩) (by decide) (by decide) rfl rfl rfl (Nat.le_of_ble_eq_true rfl) dX6_setRevoked_1 ⟨Nat.le_of_ble_eq_true rfl, Nat.le_of_ble_eq_true rfl⟩ (fun S1 hS1 => ?_)
  refine vs_aload_n X dX6_setRevoked_4 0 rfl ?_
  refine vs_aload_n X dX6_setRevoked_5 0 rfl ?_
  refine vs_iload_n X dX6_setRevoked_6 1 rfl ?_
  refine vs_iload_n X dX6_setRevoked_7 2 rfl ?_
  refine vs_callVi X  (As := [.int p1, .int p2]) (st' := [rf G 0]) (mtX6_revokeOrRestore hl0 p1 p2) (cwV 2 X.2.2.2.2.1 gX6_setRevoked_X6_revokeOrRestore rfl rfl rfl (by decide +kernel) ⟨Nat.le_of_ble_eq_true rfl, Nat.le_of_ble_eq_true rfl⟩) (by decide) (by decide) rfl rfl rfl (Nat.le_of_ble_eq_true rfl) dX6_setRevoked_8 ⟨Nat.le_of_ble_eq_true rfl, Nat.le_of_ble_eq_true rfl⟩ (fun x2 S3 hx2 => ?_)
  refine vs_callVxiI X hT (As := [.int x2]) (st' := []) (mtX6_endChange hl0 x2) (cwV 1 X.2.2.2.2.1 gX6_setRevoked_X6_endChange rfl rfl rfl (by decide +kernel) ⟨Nat.le_of_ble_eq_true rfl, Nat.le_of_ble_eq_true rfl⟩) (by decide) (by decide) rfl rfl rfl (Nat.le_of_ble_eq_true rfl) dX6_setRevoked_11 ⟨Nat.le_of_ble_eq_true rfl, Nat.le_of_ble_eq_true rfl⟩ (by decide) (by decide) (fun x4 S5 hS5 => ?_)
  exact vs_xiret X dX6_setRevoked_14 (by decide) (by decide)

def spX6_fieldOf (p1 : Int32) (S : Wo) : Option (Nat × Int32 × Wo) :=
  bx (spX6_requireScarecrow p1 S) (fun x1 S2 => (spX4_get 2 10 p1 S2).bind (fun x3 => some (0, x3, S2)))
set_option maxHeartbeats 4000000 in
set_option maxRecDepth 100000 in
theorem mtX6_fieldOf {l : Launch} (hl0 : l.stackTraces = false) {G : Gt} (p1 : Int32) {S : Wo} : ∀ rr, spX6_fieldOf p1 S = some rr → MXI l yX6_fieldOf wsX6_fieldOf { frames := 7, cells := 1, slots := 6, locals := 103 } G S [rf G 0, .int p1] rr 1 6 := by
  refine MXI_of (cc := cX6_fieldOf) (own := RX6) (maxL := 2) (ret := (some .int)) (sp := spX6_fieldOf p1 S) (by decide +kernel) rfl rfl (Nat.le_of_ble_eq_true rfl) ?_
  intro p e s m args below meth c X hT
  have hinX5 : ∀ w ∈ wsX50, w ∈ wsX6_fieldOf := by decide +kernel
  have hinX6 : ∀ w ∈ wsX60, w ∈ wsX6_fieldOf := by decide +kernel
  show VS G p l e _ s m args below meth c 2 _ _ 0 0 S 0 [(0, rf G 0), (1, .int p1)] []
  unfold spX6_fieldOf
  refine vs_aload_n X dX6_fieldOf_0 0 rfl ?_
  refine vs_iload_n X dX6_fieldOf_1 1 rfl ?_
  refine vs_callVxvI X hT (As := [.int p1]) (st' := []) (mtX6_requireScarecrow hl0 p1) (cwV 1 X.2.2.2.2.1 gX6_fieldOf_X6_requireScarecrow rfl rfl rfl (by decide +kernel) ⟨Nat.le_of_ble_eq_true rfl, Nat.le_of_ble_eq_true rfl⟩) (by decide) (by decide) rfl rfl rfl (Nat.le_of_ble_eq_true rfl) dX6_fieldOf_2 ⟨Nat.le_of_ble_eq_true rfl, Nat.le_of_ble_eq_true rfl⟩ (by decide) (by decide) (fun x1 S2 hS2 => ?_)
  refine vs_aload_n X dX6_fieldOf_5 0 rfl ?_
  refine g_Reg  X hinX6 0 (by decide) (by decide +kernel) rfl rfl dX6_fieldOf_6 ?_
  refine gN_St (by decide) (host := "ScarecrowRegistry") X hinX5 0 (by decide) (by decide +kernel) rfl rfl dX6_fieldOf_9 ?_
  refine vs_iload_n X dX6_fieldOf_12 1 rfl ?_
  refine vs_callVp X  (As := [.int p1]) (st' := []) (mtX4_get hl0 (isRow_st (by decide)).1 p1) (cwV 1 X.2.2.2.2.1 gX6_fieldOf_X4_get rfl rfl rfl (by decide +kernel) ⟨Nat.le_of_ble_eq_true rfl, Nat.le_of_ble_eq_true rfl⟩) (by decide) (by decide) rfl rfl rfl (Nat.le_of_ble_eq_true rfl) dX6_fieldOf_13 ⟨Nat.le_of_ble_eq_true rfl, Nat.le_of_ble_eq_true rfl⟩ (fun x3 hx3 => ?_)
  exact vs_xiret X dX6_fieldOf_16 (by decide) (by decide)

def spX6_scarecrowOn (p1 : Int32) (S : Wo) : Option (Nat × Int32 × Wo) :=
  bx (spX6_requireField p1 S) (fun x1 S2 => (spX5_scarecrowAt 1 p1 S2).bind (fun x3 => (if x3 = (-1) then some (3, 0, S2) else some (0, x3, S2))))
set_option maxHeartbeats 4000000 in
set_option maxRecDepth 100000 in
theorem mtX6_scarecrowOn {l : Launch} (hl0 : l.stackTraces = false) {G : Gt} (p1 : Int32) {S : Wo} : ∀ rr, spX6_scarecrowOn p1 S = some rr → MXI l yX6_scarecrowOn wsX6_scarecrowOn { frames := 7, cells := 2, slots := 12, locals := 102 } G S [rf G 0, .int p1] rr 2 12 := by
  refine MXI_of (cc := cX6_scarecrowOn) (own := RX6) (maxL := 3) (ret := (some .int)) (sp := spX6_scarecrowOn p1 S) (by decide +kernel) rfl rfl (Nat.le_of_ble_eq_true rfl) ?_
  intro p e s m args below meth c X hT
  have hinX6 : ∀ w ∈ wsX60, w ∈ wsX6_scarecrowOn := by decide +kernel
  show VS G p l e _ s m args below meth c 3 _ _ 0 0 S 0 [(0, rf G 0), (1, .int p1)] []
  unfold spX6_scarecrowOn
  refine vs_iload_n X dX6_scarecrowOn_0 1 rfl ?_
  refine vs_callSxvI X hT (As := [.int p1]) (st' := []) (mtX6_requireField hl0 p1) (va_cwS 1 X.2.2.2.2.1 gX6_scarecrowOn_X6_requireField rfl rfl rfl (by decide +kernel) ⟨Nat.le_of_ble_eq_true rfl, Nat.le_of_ble_eq_true rfl⟩) rfl (Nat.le_of_ble_eq_true rfl) dX6_scarecrowOn_1 ⟨Nat.le_of_ble_eq_true rfl, Nat.le_of_ble_eq_true rfl⟩ (by decide) (by decide) (fun x1 S2 hS2 => ?_)
  refine vs_aload_n X dX6_scarecrowOn_4 0 rfl ?_
  refine g_Reg  X hinX6 0 (by decide) (by decide +kernel) rfl rfl dX6_scarecrowOn_5 ?_
  refine vs_iload_n X dX6_scarecrowOn_8 1 rfl ?_
  refine vs_callVp X  (As := [.int p1]) (st' := []) (mtX5_scarecrowAt hl0 (by decide) p1) (cwV 1 X.2.2.2.2.1 gX6_scarecrowOn_X5_scarecrowAt rfl rfl rfl (by decide +kernel) ⟨Nat.le_of_ble_eq_true rfl, Nat.le_of_ble_eq_true rfl⟩) (by decide) (by decide) rfl rfl rfl (Nat.le_of_ble_eq_true rfl) dX6_scarecrowOn_9 ⟨Nat.le_of_ble_eq_true rfl, Nat.le_of_ble_eq_true rfl⟩ (fun x3 hx3 => ?_)
  refine vs_istore_n X (lv' := [(2, .int x3), (0, rf G 0), (1, .int p1)]) dX6_scarecrowOn_12 (by decide) rfl ?_
  refine vs_iload_n X dX6_scarecrowOn_13 0 rfl ?_
  refine vs_iconst X (v := (-1)) dX6_scarecrowOn_14 (by decide) ?_
  refine vs_icmp_ne X (tgt := 28) dX6_scarecrowOn_15 (by decide) (fun _ => ?_) (fun _ => ?_)
  · exact vs_throwI (names := ["java/lang/RuntimeException", "java/lang/Exception"]) (si := 24) X hl0 hT (by decide) (by decide) (by decide +kernel) (by decide +kernel) (by decide) rfl (fun w h => List.mem_cons_of_mem _ (List.mem_append_left _ (List.mem_append_left _ (List.mem_append_right _ h)))) (by decide +kernel) (X.2.2.2.2.2.2.2.2.2.2.2.2.1.2.1 _ (by decide)) (by decide +kernel) ⟨by decide, rfl⟩ dX6_scarecrowOn_18 dX6_scarecrowOn_21 dX6_scarecrowOn_22 dX6_scarecrowOn_24 dX6_scarecrowOn_27 (by decide) (by decide) (by decide) (by decide) (by decide) (by decide)
  · refine vs_iload_n X dX6_scarecrowOn_28 0 rfl ?_
    exact vs_xiret X dX6_scarecrowOn_29 (by decide) (by decide)

def spX6_isRevoked (p1 : Int32) (S : Wo) : Option (Nat × Int32 × Wo) :=
  bx (spX6_requireScarecrow p1 S) (fun x1 S2 => (spX6_has (S2.1 1 2) p1 S2).bind (fun x3 => rz x3 (fun y => some (0, y, S2))))
set_option maxHeartbeats 4000000 in
set_option maxRecDepth 100000 in
theorem mtX6_isRevoked {l : Launch} (hl0 : l.stackTraces = false) {G : Gt} (p1 : Int32) {S : Wo} : ∀ rr, spX6_isRevoked p1 S = some rr → MXI l yX6_isRevoked wsX6_isRevoked { frames := 7, cells := 1, slots := 6, locals := 103 } G S [rf G 0, .int p1] rr 1 6 := by
  refine MXI_of (cc := cX6_isRevoked) (own := RX6) (maxL := 2) (ret := (some .boolean)) (sp := spX6_isRevoked p1 S) (by decide +kernel) rfl rfl (Nat.le_of_ble_eq_true rfl) ?_
  intro p e s m args below meth c X hT
  have hinX5 : ∀ w ∈ wsX50, w ∈ wsX6_isRevoked := by decide +kernel
  have hinX6 : ∀ w ∈ wsX60, w ∈ wsX6_isRevoked := by decide +kernel
  show VS G p l e _ s m args below meth c 2 _ _ 0 0 S 0 [(0, rf G 0), (1, .int p1)] []
  unfold spX6_isRevoked
  refine vs_aload_n X dX6_isRevoked_0 0 rfl ?_
  refine vs_iload_n X dX6_isRevoked_1 1 rfl ?_
  refine vs_callVxvI X hT (As := [.int p1]) (st' := []) (mtX6_requireScarecrow hl0 p1) (cwV 1 X.2.2.2.2.1 gX6_isRevoked_X6_requireScarecrow rfl rfl rfl (by decide +kernel) ⟨Nat.le_of_ble_eq_true rfl, Nat.le_of_ble_eq_true rfl⟩) (by decide) (by decide) rfl rfl rfl (Nat.le_of_ble_eq_true rfl) dX6_isRevoked_2 ⟨Nat.le_of_ble_eq_true rfl, Nat.le_of_ble_eq_true rfl⟩ (by decide) (by decide) (fun x1 S2 hS2 => ?_)
  refine vs_aload_n X dX6_isRevoked_5 0 rfl ?_
  refine g_Reg  X hinX6 0 (by decide) (by decide +kernel) rfl rfl dX6_isRevoked_6 ?_
  refine gN_St (by decide) (host := "ScarecrowRegistry") X hinX5 2 (by decide) (by decide +kernel) rfl rfl dX6_isRevoked_9 ?_
  refine vs_iload_n X dX6_isRevoked_12 1 rfl ?_
  refine vs_callSp X  (As := [.int (S2.1 1 2), .int p1]) (st' := []) (mtX6_has hl0 (S2.1 1 2) p1) (va_cwS 2 X.2.2.2.2.1 gX6_isRevoked_X6_has rfl rfl rfl (by decide +kernel) ⟨Nat.le_of_ble_eq_true rfl, Nat.le_of_ble_eq_true rfl⟩) rfl (Nat.le_of_ble_eq_true rfl) dX6_isRevoked_13 ⟨Nat.le_of_ble_eq_true rfl, Nat.le_of_ble_eq_true rfl⟩ (fun x3 hx3 => ?_)
  exact vs_xzret X dX6_isRevoked_16 (by decide) (by decide)

def spX6_isCertified (p1 : Int32) (S : Wo) : Option (Nat × Int32 × Wo) :=
  bx (spX6_requireScarecrow p1 S) (fun x1 S2 => (spX5_certifiedNow 1 S2).bind (fun x3 => (spX6_has x3 p1 S2).bind (fun x4 => rz x4 (fun y => some (0, y, S2)))))
set_option maxHeartbeats 4000000 in
set_option maxRecDepth 100000 in
theorem mtX6_isCertified {l : Launch} (hl0 : l.stackTraces = false) {G : Gt} (p1 : Int32) {S : Wo} : ∀ rr, spX6_isCertified p1 S = some rr → MXI l yX6_isCertified wsX6_isCertified { frames := 7, cells := 1, slots := 6, locals := 103 } G S [rf G 0, .int p1] rr 1 6 := by
  refine MXI_of (cc := cX6_isCertified) (own := RX6) (maxL := 2) (ret := (some .boolean)) (sp := spX6_isCertified p1 S) (by decide +kernel) rfl rfl (Nat.le_of_ble_eq_true rfl) ?_
  intro p e s m args below meth c X hT
  have hinX6 : ∀ w ∈ wsX60, w ∈ wsX6_isCertified := by decide +kernel
  show VS G p l e _ s m args below meth c 2 _ _ 0 0 S 0 [(0, rf G 0), (1, .int p1)] []
  unfold spX6_isCertified
  refine vs_aload_n X dX6_isCertified_0 0 rfl ?_
  refine vs_iload_n X dX6_isCertified_1 1 rfl ?_
  refine vs_callVxvI X hT (As := [.int p1]) (st' := []) (mtX6_requireScarecrow hl0 p1) (cwV 1 X.2.2.2.2.1 gX6_isCertified_X6_requireScarecrow rfl rfl rfl (by decide +kernel) ⟨Nat.le_of_ble_eq_true rfl, Nat.le_of_ble_eq_true rfl⟩) (by decide) (by decide) rfl rfl rfl (Nat.le_of_ble_eq_true rfl) dX6_isCertified_2 ⟨Nat.le_of_ble_eq_true rfl, Nat.le_of_ble_eq_true rfl⟩ (by decide) (by decide) (fun x1 S2 hS2 => ?_)
  refine vs_aload_n X dX6_isCertified_5 0 rfl ?_
  refine g_Reg  X hinX6 0 (by decide) (by decide +kernel) rfl rfl dX6_isCertified_6 ?_
  refine vs_callVp X  (As := []) (st' := []) (mtX5_certifiedNow hl0 (by decide)) (cwV 0 X.2.2.2.2.1 gX6_isCertified_X5_certifiedNow rfl rfl rfl (by decide +kernel) ⟨Nat.le_of_ble_eq_true rfl, Nat.le_of_ble_eq_true rfl⟩) (by decide) (by decide) rfl rfl rfl (Nat.le_of_ble_eq_true rfl) dX6_isCertified_9 ⟨Nat.le_of_ble_eq_true rfl, Nat.le_of_ble_eq_true rfl⟩ (fun x3 hx3 => ?_)
  refine vs_iload_n X dX6_isCertified_12 1 rfl ?_
  refine vs_callSp X  (As := [.int x3, .int p1]) (st' := []) (mtX6_has hl0 x3 p1) (va_cwS 2 X.2.2.2.2.1 gX6_isCertified_X6_has rfl rfl rfl (by decide +kernel) ⟨Nat.le_of_ble_eq_true rfl, Nat.le_of_ble_eq_true rfl⟩) rfl (Nat.le_of_ble_eq_true rfl) dX6_isCertified_13 ⟨Nat.le_of_ble_eq_true rfl, Nat.le_of_ble_eq_true rfl⟩ (fun x4 hx4 => ?_)
  exact vs_xzret X dX6_isCertified_16 (by decide) (by decide)

def spX6_isCertifiedByChains (p1 : Int32) (S : Wo) : Option (Nat × Int32 × Wo) :=
  bx (spX6_requireScarecrow p1 S) (fun x1 S2 => (spX5_leadsBackToRegistry 1 p1 S2).bind (fun x3 => rz x3 (fun y => some (0, y, S2))))
set_option maxHeartbeats 4000000 in
set_option maxRecDepth 100000 in
theorem mtX6_isCertifiedByChains {l : Launch} (hl0 : l.stackTraces = false) {G : Gt} (p1 : Int32) {S : Wo} : ∀ rr, spX6_isCertifiedByChains p1 S = some rr → MXI l yX6_isCertifiedByChains wsX6_isCertifiedByChains { frames := 7, cells := 1, slots := 6, locals := 103 } G S [rf G 0, .int p1] rr 1 6 := by
  refine MXI_of (cc := cX6_isCertifiedByChains) (own := RX6) (maxL := 2) (ret := (some .boolean)) (sp := spX6_isCertifiedByChains p1 S) (by decide +kernel) rfl rfl (Nat.le_of_ble_eq_true rfl) ?_
  intro p e s m args below meth c X hT
  have hinX6 : ∀ w ∈ wsX60, w ∈ wsX6_isCertifiedByChains := by decide +kernel
  show VS G p l e _ s m args below meth c 2 _ _ 0 0 S 0 [(0, rf G 0), (1, .int p1)] []
  unfold spX6_isCertifiedByChains
  refine vs_aload_n X dX6_isCertifiedByChains_0 0 rfl ?_
  refine vs_iload_n X dX6_isCertifiedByChains_1 1 rfl ?_
  refine vs_callVxvI X hT (As := [.int p1]) (st' := []) (mtX6_requireScarecrow hl0 p1) (cwV 1 X.2.2.2.2.1 gX6_isCertifiedByChains_X6_requireScarecrow rfl rfl rfl (by decide +kernel) ⟨Nat.le_of_ble_eq_true rfl, Nat.le_of_ble_eq_true rfl⟩) (by decide) (by decide) rfl rfl rfl (Nat.le_of_ble_eq_true rfl) dX6_isCertifiedByChains_2 ⟨Nat.le_of_ble_eq_true rfl, Nat.le_of_ble_eq_true rfl⟩ (by decide) (by decide) (fun x1 S2 hS2 => ?_)
  refine vs_aload_n X dX6_isCertifiedByChains_5 0 rfl ?_
  refine g_Reg  X hinX6 0 (by decide) (by decide +kernel) rfl rfl dX6_isCertifiedByChains_6 ?_
  refine vs_iload_n X dX6_isCertifiedByChains_9 1 rfl ?_
  refine vs_callVp X  (As := [.int p1]) (st' := []) (mtX5_leadsBackToRegistry hl0 (by decide) p1) (cwV 1 X.2.2.2.2.1 gX6_isCertifiedByChains_X5_leadsBackToRegistry rfl rfl rfl (by decide +kernel) ⟨Nat.le_of_ble_eq_true rfl, Nat.le_of_ble_eq_true rfl⟩) (by decide) (by decide) rfl rfl rfl (Nat.le_of_ble_eq_true rfl) dX6_isCertifiedByChains_10 ⟨Nat.le_of_ble_eq_true rfl, Nat.le_of_ble_eq_true rfl⟩ (fun x3 hx3 => ?_)
  exact vs_xzret X dX6_isCertifiedByChains_13 (by decide) (by decide)

def lpX6_chainLength_7 (p1 : Int32)   : Nat → Int32 → Wo → Option (Nat × Int32 × Wo)
  | 0, _, _ => none
  | f + 1, v2, S4 => (if (10 : Int32) < v2 then some (3, 0, S4) else (spX5_certifiedWithin 1 v2 (S4.1 1 9) S4).bind (fun x5 => (spX6_has x5 p1 S4).bind (fun x6 => (if x6 = 0 then lpX6_chainLength_7 p1 f (v2 + 1) S4 else some (0, v2, S4)))))
def spX6_chainLength (p1 : Int32) (S : Wo) : Option (Nat × Int32 × Wo) :=
  bx (spX6_requireScarecrow p1 S) (fun x1 S2 => lpX6_chainLength_7 p1 200 1 S2)
set_option maxHeartbeats 4000000 in
set_option maxRecDepth 100000 in
theorem mtX6_chainLength {l : Launch} (hl0 : l.stackTraces = false) {G : Gt} (p1 : Int32) {S : Wo} : ∀ rr, spX6_chainLength p1 S = some rr → MXI l yX6_chainLength wsX6_chainLength { frames := 7, cells := 2, slots := 12, locals := 103 } G S [rf G 0, .int p1] rr 2 12 := by
  refine MXI_of (cc := cX6_chainLength) (own := RX6) (maxL := 3) (ret := (some .int)) (sp := spX6_chainLength p1 S) (by decide +kernel) rfl rfl (Nat.le_of_ble_eq_true rfl) ?_
  intro p e s m args below meth c X hT
  have hinX5 : ∀ w ∈ wsX50, w ∈ wsX6_chainLength := by decide +kernel
  have hinX6 : ∀ w ∈ wsX60, w ∈ wsX6_chainLength := by decide +kernel
  show VS G p l e _ s m args below meth c 3 _ _ 0 0 S 0 [(0, rf G 0), (1, .int p1)] []
  unfold spX6_chainLength
  refine vs_aload_n X dX6_chainLength_0 0 rfl ?_
  refine vs_iload_n X dX6_chainLength_1 1 rfl ?_
  refine vs_callVxvI X hT (As := [.int p1]) (st' := []) (mtX6_requireScarecrow hl0 p1) (cwV 1 X.2.2.2.2.1 gX6_chainLength_X6_requireScarecrow rfl rfl rfl (by decide +kernel) ⟨Nat.le_of_ble_eq_true rfl, Nat.le_of_ble_eq_true rfl⟩) (by decide) (by decide) rfl rfl rfl (Nat.le_of_ble_eq_true rfl) dX6_chainLength_2 ⟨Nat.le_of_ble_eq_true rfl, Nat.le_of_ble_eq_true rfl⟩ (by decide) (by decide) (fun x1 S2 hS2 => ?_)
  refine vs_iconst X (v := 1) dX6_chainLength_5 (by decide) ?_
  refine vs_istore_n X (lv' := [(2, .int 1), (0, rf G 0), (1, .int p1)]) dX6_chainLength_6 (by decide) rfl ?_
  have L3 : ∀ (f : Nat) (v2 : Int32) (S4 : Wo), VS G p l e ({ frames := 7, cells := 2, slots := 12, locals := 103 } : Room) s m args below meth c 3 (fun r => vx_MQ below (QxI G r) (QxX G r) args s 2 12 (Af G)) (lpX6_chainLength_7 p1 f v2 S4) 1 6 S4 7 [(0, rf G 0), (1, .int p1), (2, .int v2)] [] := by
    intro f
    induction f with
    | zero => intro v2 S4; exact vs_none rfl
    | succ f ih =>
        intro v2 S4
        rw [lpX6_chainLength_7]
        refine vs_iload_n X dX6_chainLength_7 2 rfl ?_
        refine vs_bipush X (v := 10) dX6_chainLength_8 (by decide) ?_
        refine vs_icmp_gt X (tgt := 43) dX6_chainLength_10 (by decide) (fun _ => ?_) (fun _ => ?_)
        · exact vs_throwI (names := ["java/lang/RuntimeException", "java/lang/Exception"]) (si := 25) X hl0 hT (by decide) (by decide) (by decide +kernel) (by decide +kernel) (by decide) rfl (fun w h => List.mem_cons_of_mem _ (List.mem_append_left _ (List.mem_append_left _ (List.mem_append_right _ h)))) (by decide +kernel) (X.2.2.2.2.2.2.2.2.2.2.2.2.1.2.1 _ (by decide)) (by decide +kernel) ⟨by decide, rfl⟩ dX6_chainLength_43 dX6_chainLength_46 dX6_chainLength_47 dX6_chainLength_49 dX6_chainLength_52 (by decide) (by decide) (by decide) (by decide) (by decide) (by decide)
        · refine vs_aload_n X dX6_chainLength_13 0 rfl ?_
          refine g_Reg  X hinX6 0 (by decide) (by decide +kernel) rfl rfl dX6_chainLength_14 ?_
          refine vs_iload_n X dX6_chainLength_17 2 rfl ?_
          refine vs_aload_n X dX6_chainLength_18 0 rfl ?_
          refine g_Reg  X hinX6 0 (by decide) (by decide +kernel) rfl rfl dX6_chainLength_19 ?_
          refine gN_St (by decide) (host := "ScarecrowRegistry") X hinX5 9 (by decide) (by decide +kernel) rfl rfl dX6_chainLength_22 ?_
          refine vs_callVp X  (As := [.int v2, .int (S4.1 1 9)]) (st' := []) (mtX5_certifiedWithin hl0 (by decide) v2 (S4.1 1 9)) (cwV 2 X.2.2.2.2.1 gX6_chainLength_X5_certifiedWithin rfl rfl rfl (by decide +kernel) ⟨Nat.le_of_ble_eq_true rfl, Nat.le_of_ble_eq_true rfl⟩) (by decide) (by decide) rfl rfl rfl (Nat.le_of_ble_eq_true rfl) dX6_chainLength_25 ⟨Nat.le_of_ble_eq_true rfl, Nat.le_of_ble_eq_true rfl⟩ (fun x5 hx5 => ?_)
          refine vs_iload_n X dX6_chainLength_28 1 rfl ?_
          refine vs_callSp X  (As := [.int x5, .int p1]) (st' := []) (mtX6_has hl0 x5 p1) (va_cwS 2 X.2.2.2.2.1 gX6_chainLength_X6_has rfl rfl rfl (by decide +kernel) ⟨Nat.le_of_ble_eq_true rfl, Nat.le_of_ble_eq_true rfl⟩) rfl (Nat.le_of_ble_eq_true rfl) dX6_chainLength_29 ⟨Nat.le_of_ble_eq_true rfl, Nat.le_of_ble_eq_true rfl⟩ (fun x6 hx6 => ?_)
          refine vs_if_eq X (tgt := 37) dX6_chainLength_32 (by decide) (fun _ => ?_) (fun _ => ?_)
          · refine vs_iinc X (v := (v2 + 1)) (lv' := [(2, .int (v2 + 1)), (0, rf G 0), (1, .int p1)]) dX6_chainLength_37 2 rfl rfl (by decide) rfl ?_
            refine vs_goto X (tgt := 7) dX6_chainLength_40 (by decide) ?_
            refine vs_sub [1, 2, 0] (lv' := [(0, rf G 0), (1, .int p1), (2, .int (v2 + 1))]) rfl ?_
            exact ih (v2 + 1) S4
          · refine vs_iload_n X dX6_chainLength_35 2 rfl ?_
            exact vs_xiret X dX6_chainLength_36 (by decide) (by decide)
  refine vs_sub [1, 2, 0] (lv' := [(0, rf G 0), (1, .int p1), (2, .int 1)]) rfl ?_
  exact L3 200 1 S2

def lpX6_daysUntilUncertified_7 (p1 : Int32)   : Nat → Int32 → Wo → Option (Nat × Int32 × Wo)
  | 0, _, _ => none
  | f + 1, v2, S4 => (if (99 : Int32) < v2 then some (0, 100, S4) else (spX5_certifiedWithin 1 10 (S4.1 1 9 + v2) S4).bind (fun x5 => (spX6_has x5 p1 S4).bind (fun x6 => (if x6 = 0 then some (0, v2, S4) else lpX6_daysUntilUncertified_7 p1 f (v2 + 1) S4))))
def spX6_daysUntilUncertified (p1 : Int32) (S : Wo) : Option (Nat × Int32 × Wo) :=
  bx (spX6_requireScarecrow p1 S) (fun x1 S2 => lpX6_daysUntilUncertified_7 p1 200 0 S2)
set_option maxHeartbeats 4000000 in
set_option maxRecDepth 100000 in
theorem mtX6_daysUntilUncertified {l : Launch} (hl0 : l.stackTraces = false) {G : Gt} (p1 : Int32) {S : Wo} : ∀ rr, spX6_daysUntilUncertified p1 S = some rr → MXI l yX6_daysUntilUncertified wsX6_daysUntilUncertified { frames := 7, cells := 1, slots := 6, locals := 103 } G S [rf G 0, .int p1] rr 1 6 := by
  refine MXI_of (cc := cX6_daysUntilUncertified) (own := RX6) (maxL := 3) (ret := (some .int)) (sp := spX6_daysUntilUncertified p1 S) (by decide +kernel) rfl rfl (Nat.le_of_ble_eq_true rfl) ?_
  intro p e s m args below meth c X hT
  have hinX5 : ∀ w ∈ wsX50, w ∈ wsX6_daysUntilUncertified := by decide +kernel
  have hinX6 : ∀ w ∈ wsX60, w ∈ wsX6_daysUntilUncertified := by decide +kernel
  show VS G p l e _ s m args below meth c 3 _ _ 0 0 S 0 [(0, rf G 0), (1, .int p1)] []
  unfold spX6_daysUntilUncertified
  refine vs_aload_n X dX6_daysUntilUncertified_0 0 rfl ?_
  refine vs_iload_n X dX6_daysUntilUncertified_1 1 rfl ?_
  refine vs_callVxvI X hT (As := [.int p1]) (st' := []) (mtX6_requireScarecrow hl0 p1) (cwV 1 X.2.2.2.2.1 gX6_daysUntilUncertified_X6_requireScarecrow rfl rfl rfl (by decide +kernel) ⟨Nat.le_of_ble_eq_true rfl, Nat.le_of_ble_eq_true rfl⟩) (by decide) (by decide) rfl rfl rfl (Nat.le_of_ble_eq_true rfl) dX6_daysUntilUncertified_2 ⟨Nat.le_of_ble_eq_true rfl, Nat.le_of_ble_eq_true rfl⟩ (by decide) (by decide) (fun x1 S2 hS2 => ?_)
  refine vs_iconst X (v := 0) dX6_daysUntilUncertified_5 (by decide) ?_
  refine vs_istore_n X (lv' := [(2, .int 0), (0, rf G 0), (1, .int p1)]) dX6_daysUntilUncertified_6 (by decide) rfl ?_
  have L3 : ∀ (f : Nat) (v2 : Int32) (S4 : Wo), VS G p l e ({ frames := 7, cells := 1, slots := 6, locals := 103 } : Room) s m args below meth c 3 (fun r => vx_MQ below (QxI G r) (QxX G r) args s 1 6 (Af G)) (lpX6_daysUntilUncertified_7 p1 f v2 S4) 1 6 S4 7 [(0, rf G 0), (1, .int p1), (2, .int v2)] [] := by
    intro f
    induction f with
    | zero => intro v2 S4; exact vs_none rfl
    | succ f ih =>
        intro v2 S4
        rw [lpX6_daysUntilUncertified_7]
        refine vs_iload_n X dX6_daysUntilUncertified_7 2 rfl ?_
        refine vs_bipush X (v := 99) dX6_daysUntilUncertified_8 (by decide) ?_
        refine vs_icmp_gt X (tgt := 46) dX6_daysUntilUncertified_10 (by decide) (fun _ => ?_) (fun _ => ?_)
        · refine vs_bipush X (v := 100) dX6_daysUntilUncertified_46 (by decide) ?_
          exact vs_xiret X dX6_daysUntilUncertified_48 (by decide) (by decide)
        · refine vs_aload_n X dX6_daysUntilUncertified_13 0 rfl ?_
          refine g_Reg  X hinX6 0 (by decide) (by decide +kernel) rfl rfl dX6_daysUntilUncertified_14 ?_
          refine vs_bipush X (v := 10) dX6_daysUntilUncertified_17 (by decide) ?_
          refine vs_aload_n X dX6_daysUntilUncertified_19 0 rfl ?_
          refine g_Reg  X hinX6 0 (by decide) (by decide +kernel) rfl rfl dX6_daysUntilUncertified_20 ?_
          refine gN_St (by decide) (host := "ScarecrowRegistry") X hinX5 9 (by decide) (by decide +kernel) rfl rfl dX6_daysUntilUncertified_23 ?_
          refine vs_iload_n X dX6_daysUntilUncertified_26 2 rfl ?_
          refine vs_iadd X dX6_daysUntilUncertified_27 ?_
          refine vs_callVp X  (As := [.int 10, .int (S4.1 1 9 + v2)]) (st' := []) (mtX5_certifiedWithin hl0 (by decide) 10 (S4.1 1 9 + v2)) (cwV 2 X.2.2.2.2.1 gX6_daysUntilUncertified_X5_certifiedWithin rfl rfl rfl (by decide +kernel) ⟨Nat.le_of_ble_eq_true rfl, Nat.le_of_ble_eq_true rfl⟩) (by decide) (by decide) rfl rfl rfl (Nat.le_of_ble_eq_true rfl) dX6_daysUntilUncertified_28 ⟨Nat.le_of_ble_eq_true rfl, Nat.le_of_ble_eq_true rfl⟩ (fun x5 hx5 => ?_)
          refine vs_iload_n X dX6_daysUntilUncertified_31 1 rfl ?_
          refine vs_callSp X  (As := [.int x5, .int p1]) (st' := []) (mtX6_has hl0 x5 p1) (va_cwS 2 X.2.2.2.2.1 gX6_daysUntilUncertified_X6_has rfl rfl rfl (by decide +kernel) ⟨Nat.le_of_ble_eq_true rfl, Nat.le_of_ble_eq_true rfl⟩) rfl (Nat.le_of_ble_eq_true rfl) dX6_daysUntilUncertified_32 ⟨Nat.le_of_ble_eq_true rfl, Nat.le_of_ble_eq_true rfl⟩ (fun x6 hx6 => ?_)
          refine vs_if_ne X (tgt := 40) dX6_daysUntilUncertified_35 (by decide) (fun _ => ?_) (fun _ => ?_)
          · refine vs_iload_n X dX6_daysUntilUncertified_38 2 rfl ?_
            exact vs_xiret X dX6_daysUntilUncertified_39 (by decide) (by decide)
          · refine vs_iinc X (v := (v2 + 1)) (lv' := [(2, .int (v2 + 1)), (0, rf G 0), (1, .int p1)]) dX6_daysUntilUncertified_40 2 rfl rfl (by decide) rfl ?_
            refine vs_goto X (tgt := 7) dX6_daysUntilUncertified_43 (by decide) ?_
            refine vs_sub [1, 2, 0] (lv' := [(0, rf G 0), (1, .int p1), (2, .int (v2 + 1))]) rfl ?_
            exact ih (v2 + 1) S4
  refine vs_sub [1, 2, 0] (lv' := [(0, rf G 0), (1, .int p1), (2, .int 0)]) rfl ?_
  exact L3 200 0 S2

def lpX6_scarecrowByCertificates_10 (p1 : Int32) (w2 : Int32)  : Nat → Int32 → Wo → Option (Nat × Int32 × Wo)
  | 0, _, _ => none
  | f + 1, v3, S3 => (if S3.1 1 1 ≤ v3 then some (3, 0, S3) else (spX5_rankOf 1 v3 w2 S3).bind (fun x4 => (if x4 = p1 then some (0, v3, S3) else lpX6_scarecrowByCertificates_10 p1 w2 f (v3 + 1) S3)))
def spX6_scarecrowByCertificates (p1 : Int32) (S : Wo) : Option (Nat × Int32 × Wo) :=
  (spX5_inForceNow 1 S).bind (fun x1 => lpX6_scarecrowByCertificates_10 p1 x1 200 0 S)
set_option maxHeartbeats 4000000 in
set_option maxRecDepth 100000 in
theorem mtX6_scarecrowByCertificates {l : Launch} (hl0 : l.stackTraces = false) {G : Gt} (p1 : Int32) {S : Wo} : ∀ rr, spX6_scarecrowByCertificates p1 S = some rr → MXI l yX6_scarecrowByCertificates wsX6_scarecrowByCertificates { frames := 6, cells := 1, slots := 6, locals := 113 } G S [rf G 0, .int p1] rr 1 6 := by
  refine MXI_of (cc := cX6_scarecrowByCertificates) (own := RX6) (maxL := 4) (ret := (some .int)) (sp := spX6_scarecrowByCertificates p1 S) (by decide +kernel) rfl rfl (Nat.le_of_ble_eq_true rfl) ?_
  intro p e s m args below meth c X hT
  have hinX5 : ∀ w ∈ wsX50, w ∈ wsX6_scarecrowByCertificates := by decide +kernel
  have hinX6 : ∀ w ∈ wsX60, w ∈ wsX6_scarecrowByCertificates := by decide +kernel
  show VS G p l e _ s m args below meth c 4 _ _ 0 0 S 0 [(0, rf G 0), (1, .int p1)] []
  unfold spX6_scarecrowByCertificates
  refine vs_aload_n X dX6_scarecrowByCertificates_0 0 rfl ?_
  refine g_Reg  X hinX6 0 (by decide) (by decide +kernel) rfl rfl dX6_scarecrowByCertificates_1 ?_
  refine vs_callVp X  (As := []) (st' := []) (mtX5_inForceNow hl0 (by decide)) (cwV 0 X.2.2.2.2.1 gX6_scarecrowByCertificates_X5_inForceNow rfl rfl rfl (by decide +kernel) ⟨Nat.le_of_ble_eq_true rfl, Nat.le_of_ble_eq_true rfl⟩) (by decide) (by decide) rfl rfl rfl (Nat.le_of_ble_eq_true rfl) dX6_scarecrowByCertificates_4 ⟨Nat.le_of_ble_eq_true rfl, Nat.le_of_ble_eq_true rfl⟩ (fun x1 hx1 => ?_)
  refine vs_istore_n X (lv' := [(2, .int x1), (0, rf G 0), (1, .int p1)]) dX6_scarecrowByCertificates_7 (by decide) rfl ?_
  refine vs_iconst X (v := 0) dX6_scarecrowByCertificates_8 (by decide) ?_
  refine vs_istore_n X (lv' := [(3, .int 0), (2, .int x1), (0, rf G 0), (1, .int p1)]) dX6_scarecrowByCertificates_9 (by decide) rfl ?_
  have L2 : ∀ (w2 : Int32) (f : Nat) (v3 : Int32) (S3 : Wo), VS G p l e ({ frames := 6, cells := 1, slots := 6, locals := 113 } : Room) s m args below meth c 4 (fun r => vx_MQ below (QxI G r) (QxX G r) args s 1 6 (Af G)) (lpX6_scarecrowByCertificates_10 p1 w2 f v3 S3) 0 0 S3 10 [(0, rf G 0), (1, .int p1), (2, .int w2), (3, .int v3)] [] := by
    intro w2 f
    induction f with
    | zero => intro v3 S3; exact vs_none rfl
    | succ f ih =>
        intro v3 S3
        rw [lpX6_scarecrowByCertificates_10]
        refine vs_iload_n X dX6_scarecrowByCertificates_10 3 rfl ?_
        refine vs_aload_n X dX6_scarecrowByCertificates_11 0 rfl ?_
        refine g_Reg  X hinX6 0 (by decide) (by decide +kernel) rfl rfl dX6_scarecrowByCertificates_12 ?_
        refine gN_St (by decide) (host := "ScarecrowRegistry") X hinX5 1 (by decide) (by decide +kernel) rfl rfl dX6_scarecrowByCertificates_15 ?_
        refine vs_icmp_ge X (tgt := 42) dX6_scarecrowByCertificates_18 (by decide) (fun _ => ?_) (fun _ => ?_)
        · exact vs_throwI (names := ["java/lang/RuntimeException", "java/lang/Exception"]) (si := 26) X hl0 hT (by decide) (by decide) (by decide +kernel) (by decide +kernel) (by decide) rfl (fun w h => List.mem_cons_of_mem _ (List.mem_append_left _ (List.mem_append_right _ h))) (by decide +kernel) (X.2.2.2.2.2.2.2.2.2.2.2.2.1.2.1 _ (by decide)) (by decide +kernel) ⟨by decide, rfl⟩ dX6_scarecrowByCertificates_42 dX6_scarecrowByCertificates_45 dX6_scarecrowByCertificates_46 dX6_scarecrowByCertificates_48 dX6_scarecrowByCertificates_51 (by decide) (by decide) (by decide) (by decide) (by decide) (by decide)
        · refine vs_aload_n X dX6_scarecrowByCertificates_21 0 rfl ?_
          refine g_Reg  X hinX6 0 (by decide) (by decide +kernel) rfl rfl dX6_scarecrowByCertificates_22 ?_
          refine vs_iload_n X dX6_scarecrowByCertificates_25 3 rfl ?_
          refine vs_iload_n X dX6_scarecrowByCertificates_26 2 rfl ?_
          refine vs_callVp X  (As := [.int v3, .int w2]) (st' := []) (mtX5_rankOf hl0 (by decide) v3 w2) (cwV 2 X.2.2.2.2.1 gX6_scarecrowByCertificates_X5_rankOf rfl rfl rfl (by decide +kernel) ⟨Nat.le_of_ble_eq_true rfl, Nat.le_of_ble_eq_true rfl⟩) (by decide) (by decide) rfl rfl rfl (Nat.le_of_ble_eq_true rfl) dX6_scarecrowByCertificates_27 ⟨Nat.le_of_ble_eq_true rfl, Nat.le_of_ble_eq_true rfl⟩ (fun x4 hx4 => ?_)
          refine vs_iload_n X dX6_scarecrowByCertificates_30 1 rfl ?_
          refine vs_icmp_ne X (tgt := 36) dX6_scarecrowByCertificates_31 (by decide) (fun _ => ?_) (fun _ => ?_)
          · refine vs_iload_n X dX6_scarecrowByCertificates_34 3 rfl ?_
            exact vs_xiret X dX6_scarecrowByCertificates_35 (by decide) (by decide)
          · refine vs_iinc X (v := (v3 + 1)) (lv' := [(3, .int (v3 + 1)), (0, rf G 0), (1, .int p1), (2, .int w2)]) dX6_scarecrowByCertificates_36 3 rfl rfl (by decide) rfl ?_
            refine vs_goto X (tgt := 10) dX6_scarecrowByCertificates_39 (by decide) ?_
            refine vs_sub [1, 2, 3, 0] (lv' := [(0, rf G 0), (1, .int p1), (2, .int w2), (3, .int (v3 + 1))]) rfl ?_
            exact ih (v3 + 1) S3
  refine vs_sub [2, 3, 1, 0] (lv' := [(0, rf G 0), (1, .int p1), (2, .int x1), (3, .int 0)]) rfl ?_
  exact L2 x1 200 0 S

def spX6_issueByRegistry (p1 : Int32) (p2 : Int32) (S : Wo) : Option (Nat × Int32 × Wo) :=
  (spX6_beginChange  S).bind (fun S1 => bd2 (spX6_certifyByRegistry p1 p2 S1) (fun x2 S3 => bx (spX6_endChange x2 S3) (fun x4 S5 => some (0, x4, S5))))
set_option maxHeartbeats 4000000 in
set_option maxRecDepth 100000 in
theorem mtX6_issueByRegistry {l : Launch} (hl0 : l.stackTraces = false) {G : Gt} (p1 : Int32) (p2 : Int32) {S : Wo} : ∀ rr, spX6_issueByRegistry p1 p2 S = some rr → MXI l yX6_issueByRegistry wsX6_issueByRegistry { frames := 7, cells := 1, slots := 6, locals := 106 } G S [rf G 0, .int p1, .int p2] rr 1 6 := by
  refine MXI_of (cc := cX6_issueByRegistry) (own := RX6) (maxL := 3) (ret := (some .int)) (sp := spX6_issueByRegistry p1 p2 S) (by decide +kernel) rfl rfl (Nat.le_of_ble_eq_true rfl) ?_
  intro p e s m args below meth c X hT
  show VS G p l e _ s m args below meth c 3 _ _ 0 0 S 0 [(0, rf G 0), (1, .int p1), (2, .int p2)] []
  unfold spX6_issueByRegistry
  refine vs_aload_n X dX6_issueByRegistry_0 0 rfl ?_
  refine vs_callVv X  (As := []) (st' := []) (mtX6_beginChange hl0 ) (cwV 0 X.2.2.2.2.1 gX6_issueByRegistry_X6_beginChange rfl rfl rfl (by decide +kernel) ⟨Nat.le_of_ble_eq_true rfl, Nat.le_of_ble_eq_true rfl⟩) (by decide) (by decide) rfl rfl rfl (Nat.le_of_ble_eq_true rfl) dX6_issueByRegistry_1 ⟨Nat.le_of_ble_eq_true rfl, Nat.le_of_ble_eq_true rfl⟩ (fun S1 hS1 => ?_)
  refine vs_aload_n X dX6_issueByRegistry_4 0 rfl ?_
  refine vs_aload_n X dX6_issueByRegistry_5 0 rfl ?_
  refine vs_iload_n X dX6_issueByRegistry_6 1 rfl ?_
  refine vs_iload_n X dX6_issueByRegistry_7 2 rfl ?_
  refine vs_callVi X  (As := [.int p1, .int p2]) (st' := [rf G 0]) (mtX6_certifyByRegistry hl0 p1 p2) (cwV 2 X.2.2.2.2.1 gX6_issueByRegistry_X6_certifyByRegistry rfl rfl rfl (by decide +kernel) ⟨Nat.le_of_ble_eq_true rfl, Nat.le_of_ble_eq_true rfl⟩) (by decide) (by decide) rfl rfl rfl (Nat.le_of_ble_eq_true rfl) dX6_issueByRegistry_8 ⟨Nat.le_of_ble_eq_true rfl, Nat.le_of_ble_eq_true rfl⟩ (fun x2 S3 hx2 => ?_)
  refine vs_callVxiI X hT (As := [.int x2]) (st' := []) (mtX6_endChange hl0 x2) (cwV 1 X.2.2.2.2.1 gX6_issueByRegistry_X6_endChange rfl rfl rfl (by decide +kernel) ⟨Nat.le_of_ble_eq_true rfl, Nat.le_of_ble_eq_true rfl⟩) (by decide) (by decide) rfl rfl rfl (Nat.le_of_ble_eq_true rfl) dX6_issueByRegistry_11 ⟨Nat.le_of_ble_eq_true rfl, Nat.le_of_ble_eq_true rfl⟩ (by decide) (by decide) (fun x4 S5 hS5 => ?_)
  exact vs_xiret X dX6_issueByRegistry_14 (by decide) (by decide)

def spX6_issue (p1 : Int32) (p2 : Int32) (p3 : Int32) (S : Wo) : Option (Nat × Int32 × Wo) :=
  (spX6_beginChange  S).bind (fun S1 => bd2 (spX6_certifyByScarecrow p1 p2 p3 S1) (fun x2 S3 => bx (spX6_endChange x2 S3) (fun x4 S5 => some (0, x4, S5))))
set_option maxHeartbeats 4000000 in
set_option maxRecDepth 100000 in
theorem mtX6_issue {l : Launch} (hl0 : l.stackTraces = false) {G : Gt} (p1 : Int32) (p2 : Int32) (p3 : Int32) {S : Wo} : ∀ rr, spX6_issue p1 p2 p3 S = some rr → MXI l yX6_issue wsX6_issue { frames := 7, cells := 1, slots := 6, locals := 116 } G S [rf G 0, .int p1, .int p2, .int p3] rr 1 6 := by
  refine MXI_of (cc := cX6_issue) (own := RX6) (maxL := 4) (ret := (some .int)) (sp := spX6_issue p1 p2 p3 S) (by decide +kernel) rfl rfl (Nat.le_of_ble_eq_true rfl) ?_
  intro p e s m args below meth c X hT
  show VS G p l e _ s m args below meth c 4 _ _ 0 0 S 0 [(0, rf G 0), (1, .int p1), (2, .int p2), (3, .int p3)] []
  unfold spX6_issue
  refine vs_aload_n X dX6_issue_0 0 rfl ?_
  refine vs_callVv X  (As := []) (st' := []) (mtX6_beginChange hl0 ) (cwV 0 X.2.2.2.2.1 gX6_issue_X6_beginChange rfl rfl rfl (by decide +kernel) ⟨Nat.le_of_ble_eq_true rfl, Nat.le_of_ble_eq_true rfl⟩) (by decide) (by decide) rfl rfl rfl (Nat.le_of_ble_eq_true rfl) dX6_issue_1 ⟨Nat.le_of_ble_eq_true rfl, Nat.le_of_ble_eq_true rfl⟩ (fun S1 hS1 => ?_)
  refine vs_aload_n X dX6_issue_4 0 rfl ?_
  refine vs_aload_n X dX6_issue_5 0 rfl ?_
  refine vs_iload_n X dX6_issue_6 1 rfl ?_
  refine vs_iload_n X dX6_issue_7 2 rfl ?_
  refine vs_iload_n X dX6_issue_8 3 rfl ?_
  refine vs_callVi X  (As := [.int p1, .int p2, .int p3]) (st' := [rf G 0]) (mtX6_certifyByScarecrow hl0 p1 p2 p3) (cwV 3 X.2.2.2.2.1 gX6_issue_X6_certifyByScarecrow rfl rfl rfl (by decide +kernel) ⟨Nat.le_of_ble_eq_true rfl, Nat.le_of_ble_eq_true rfl⟩) (by decide) (by decide) rfl rfl rfl (Nat.le_of_ble_eq_true rfl) dX6_issue_9 ⟨Nat.le_of_ble_eq_true rfl, Nat.le_of_ble_eq_true rfl⟩ (fun x2 S3 hx2 => ?_)
  refine vs_callVxiI X hT (As := [.int x2]) (st' := []) (mtX6_endChange hl0 x2) (cwV 1 X.2.2.2.2.1 gX6_issue_X6_endChange rfl rfl rfl (by decide +kernel) ⟨Nat.le_of_ble_eq_true rfl, Nat.le_of_ble_eq_true rfl⟩) (by decide) (by decide) rfl rfl rfl (Nat.le_of_ble_eq_true rfl) dX6_issue_12 ⟨Nat.le_of_ble_eq_true rfl, Nat.le_of_ble_eq_true rfl⟩ (by decide) (by decide) (fun x4 S5 hS5 => ?_)
  exact vs_xiret X dX6_issue_15 (by decide) (by decide)

def spX6_withdraw (p1 : Int32) (S : Wo) : Option (Nat × Int32 × Wo) :=
  (spX6_beginChange  S).bind (fun S1 => bd2 (spX6_dropCertificate p1 S1) (fun x2 S3 => bx (spX6_endChange x2 S3) (fun x4 S5 => some (0, x4, S5))))
set_option maxHeartbeats 4000000 in
set_option maxRecDepth 100000 in
theorem mtX6_withdraw {l : Launch} (hl0 : l.stackTraces = false) {G : Gt} (p1 : Int32) {S : Wo} : ∀ rr, spX6_withdraw p1 S = some rr → MXI l yX6_withdraw wsX6_withdraw { frames := 7, cells := 1, slots := 6, locals := 106 } G S [rf G 0, .int p1] rr 1 6 := by
  refine MXI_of (cc := cX6_withdraw) (own := RX6) (maxL := 2) (ret := (some .int)) (sp := spX6_withdraw p1 S) (by decide +kernel) rfl rfl (Nat.le_of_ble_eq_true rfl) ?_
  intro p e s m args below meth c X hT
  show VS G p l e _ s m args below meth c 2 _ _ 0 0 S 0 [(0, rf G 0), (1, .int p1)] []
  unfold spX6_withdraw
  refine vs_aload_n X dX6_withdraw_0 0 rfl ?_
  refine vs_callVv X  (As := []) (st' := []) (mtX6_beginChange hl0 ) (cwV 0 X.2.2.2.2.1 gX6_withdraw_X6_beginChange rfl rfl rfl (by decide +kernel) ⟨Nat.le_of_ble_eq_true rfl, Nat.le_of_ble_eq_true rfl⟩) (by decide) (by decide) rfl rfl rfl (Nat.le_of_ble_eq_true rfl) dX6_withdraw_1 ⟨Nat.le_of_ble_eq_true rfl, Nat.le_of_ble_eq_true rfl⟩ (fun S1 hS1 => ?_)
  refine vs_aload_n X dX6_withdraw_4 0 rfl ?_
  refine vs_aload_n X dX6_withdraw_5 0 rfl ?_
  refine vs_iload_n X dX6_withdraw_6 1 rfl ?_
  refine vs_callVi X  (As := [.int p1]) (st' := [rf G 0]) (mtX6_dropCertificate hl0 p1) (cwV 1 X.2.2.2.2.1 gX6_withdraw_X6_dropCertificate rfl rfl rfl (by decide +kernel) ⟨Nat.le_of_ble_eq_true rfl, Nat.le_of_ble_eq_true rfl⟩) (by decide) (by decide) rfl rfl rfl (Nat.le_of_ble_eq_true rfl) dX6_withdraw_7 ⟨Nat.le_of_ble_eq_true rfl, Nat.le_of_ble_eq_true rfl⟩ (fun x2 S3 hx2 => ?_)
  refine vs_callVxiI X hT (As := [.int x2]) (st' := []) (mtX6_endChange hl0 x2) (cwV 1 X.2.2.2.2.1 gX6_withdraw_X6_endChange rfl rfl rfl (by decide +kernel) ⟨Nat.le_of_ble_eq_true rfl, Nat.le_of_ble_eq_true rfl⟩) (by decide) (by decide) rfl rfl rfl (Nat.le_of_ble_eq_true rfl) dX6_withdraw_10 ⟨Nat.le_of_ble_eq_true rfl, Nat.le_of_ble_eq_true rfl⟩ (by decide) (by decide) (fun x4 S5 hS5 => ?_)
  exact vs_xiret X dX6_withdraw_13 (by decide) (by decide)

def spX6_certificateCount  (S : Wo) : Option (Int32) :=
  some (S.1 1 7)
set_option maxHeartbeats 4000000 in
set_option maxRecDepth 100000 in
theorem mtX6_certificateCount {l : Launch} (hl0 : l.stackTraces = false) {G : Gt}  {S : Wo} : ∀ x, spX6_certificateCount  S = some x → MI l yX6_certificateCount wsX6_certificateCount { frames := 0, cells := 0, slots := 0, locals := 0 } G S [rf G 0] (x, S) 0 0 := by
  refine MIp_of (cc := cX6_certificateCount) (own := RX6) (maxL := 1) (ret := (some .int)) (sp := spX6_certificateCount  S) (by decide +kernel) rfl rfl (Nat.le_of_ble_eq_true rfl) ?_
  intro p e s m args below meth c X
  have hinX5 : ∀ w ∈ wsX50, w ∈ wsX6_certificateCount := by decide +kernel
  have hinX6 : ∀ w ∈ wsX60, w ∈ wsX6_certificateCount := by decide +kernel
  show VS G p l e _ s m args below meth c 1 _ _ 0 0 S 0 [(0, rf G 0)] []
  unfold spX6_certificateCount
  refine vs_aload_n X dX6_certificateCount_0 0 rfl ?_
  refine g_Reg  X hinX6 0 (by decide) (by decide +kernel) rfl rfl dX6_certificateCount_1 ?_
  refine gN_St (by decide) (host := "ScarecrowRegistry") X hinX5 7 (by decide) (by decide +kernel) rfl rfl dX6_certificateCount_4 ?_
  exact vs_iretp X dX6_certificateCount_7 (by decide) (by decide)

def spX6_isByRegistry (p1 : Int32) (S : Wo) : Option (Nat × Int32 × Wo) :=
  bx (spX6_requireCertificate p1 S) (fun x1 S2 => (spX4_get 4 20 p1 S2).bind (fun x3 => (if x3 = (-1) then rz 1 (fun y => some (0, y, S2)) else rz 0 (fun y => some (0, y, S2)))))
set_option maxHeartbeats 4000000 in
set_option maxRecDepth 100000 in
theorem mtX6_isByRegistry {l : Launch} (hl0 : l.stackTraces = false) {G : Gt} (p1 : Int32) {S : Wo} : ∀ rr, spX6_isByRegistry p1 S = some rr → MXI l yX6_isByRegistry wsX6_isByRegistry { frames := 7, cells := 1, slots := 6, locals := 103 } G S [rf G 0, .int p1] rr 1 6 := by
  refine MXI_of (cc := cX6_isByRegistry) (own := RX6) (maxL := 2) (ret := (some .boolean)) (sp := spX6_isByRegistry p1 S) (by decide +kernel) rfl rfl (Nat.le_of_ble_eq_true rfl) ?_
  intro p e s m args below meth c X hT
  have hinX5 : ∀ w ∈ wsX50, w ∈ wsX6_isByRegistry := by decide +kernel
  have hinX6 : ∀ w ∈ wsX60, w ∈ wsX6_isByRegistry := by decide +kernel
  show VS G p l e _ s m args below meth c 2 _ _ 0 0 S 0 [(0, rf G 0), (1, .int p1)] []
  unfold spX6_isByRegistry
  refine vs_aload_n X dX6_isByRegistry_0 0 rfl ?_
  refine vs_iload_n X dX6_isByRegistry_1 1 rfl ?_
  refine vs_callVxvI X hT (As := [.int p1]) (st' := []) (mtX6_requireCertificate hl0 p1) (cwV 1 X.2.2.2.2.1 gX6_isByRegistry_X6_requireCertificate rfl rfl rfl (by decide +kernel) ⟨Nat.le_of_ble_eq_true rfl, Nat.le_of_ble_eq_true rfl⟩) (by decide) (by decide) rfl rfl rfl (Nat.le_of_ble_eq_true rfl) dX6_isByRegistry_2 ⟨Nat.le_of_ble_eq_true rfl, Nat.le_of_ble_eq_true rfl⟩ (by decide) (by decide) (fun x1 S2 hS2 => ?_)
  refine vs_aload_n X dX6_isByRegistry_5 0 rfl ?_
  refine g_Reg  X hinX6 0 (by decide) (by decide +kernel) rfl rfl dX6_isByRegistry_6 ?_
  refine gN_St (by decide) (host := "ScarecrowRegistry") X hinX5 3 (by decide) (by decide +kernel) rfl rfl dX6_isByRegistry_9 ?_
  refine vs_iload_n X dX6_isByRegistry_12 1 rfl ?_
  refine vs_callVp X  (As := [.int p1]) (st' := []) (mtX4_get hl0 (isRow_st (by decide)).2.1 p1) (cwV 1 X.2.2.2.2.1 gX6_isByRegistry_X4_get rfl rfl rfl (by decide +kernel) ⟨Nat.le_of_ble_eq_true rfl, Nat.le_of_ble_eq_true rfl⟩) (by decide) (by decide) rfl rfl rfl (Nat.le_of_ble_eq_true rfl) dX6_isByRegistry_13 ⟨Nat.le_of_ble_eq_true rfl, Nat.le_of_ble_eq_true rfl⟩ (fun x3 hx3 => ?_)
  refine vs_iconst X (v := (-1)) dX6_isByRegistry_16 (by decide) ?_
  refine vs_icmp_ne X (tgt := 24) dX6_isByRegistry_17 (by decide) (fun _ => ?_) (fun _ => ?_)
  · refine vs_iconst X (v := 1) dX6_isByRegistry_20 (by decide) ?_
    refine vs_goto X (tgt := 25) dX6_isByRegistry_21 (by decide) ?_
    exact vs_xzret X dX6_isByRegistry_25 (by decide) (by decide)
  · refine vs_iconst X (v := 0) dX6_isByRegistry_24 (by decide) ?_
    exact vs_xzret X dX6_isByRegistry_25 (by decide) (by decide)

def spX6_issuerOf (p1 : Int32) (S : Wo) : Option (Nat × Int32 × Wo) :=
  bx (spX6_requireCertificate p1 S) (fun x1 S2 => (spX4_get 4 20 p1 S2).bind (fun x3 => (if x3 = (-1) then some (3, 0, S2) else some (0, x3, S2))))
set_option maxHeartbeats 4000000 in
set_option maxRecDepth 100000 in
theorem mtX6_issuerOf {l : Launch} (hl0 : l.stackTraces = false) {G : Gt} (p1 : Int32) {S : Wo} : ∀ rr, spX6_issuerOf p1 S = some rr → MXI l yX6_issuerOf wsX6_issuerOf { frames := 7, cells := 2, slots := 12, locals := 103 } G S [rf G 0, .int p1] rr 2 12 := by
  refine MXI_of (cc := cX6_issuerOf) (own := RX6) (maxL := 3) (ret := (some .int)) (sp := spX6_issuerOf p1 S) (by decide +kernel) rfl rfl (Nat.le_of_ble_eq_true rfl) ?_
  intro p e s m args below meth c X hT
  have hinX5 : ∀ w ∈ wsX50, w ∈ wsX6_issuerOf := by decide +kernel
  have hinX6 : ∀ w ∈ wsX60, w ∈ wsX6_issuerOf := by decide +kernel
  show VS G p l e _ s m args below meth c 3 _ _ 0 0 S 0 [(0, rf G 0), (1, .int p1)] []
  unfold spX6_issuerOf
  refine vs_aload_n X dX6_issuerOf_0 0 rfl ?_
  refine vs_iload_n X dX6_issuerOf_1 1 rfl ?_
  refine vs_callVxvI X hT (As := [.int p1]) (st' := []) (mtX6_requireCertificate hl0 p1) (cwV 1 X.2.2.2.2.1 gX6_issuerOf_X6_requireCertificate rfl rfl rfl (by decide +kernel) ⟨Nat.le_of_ble_eq_true rfl, Nat.le_of_ble_eq_true rfl⟩) (by decide) (by decide) rfl rfl rfl (Nat.le_of_ble_eq_true rfl) dX6_issuerOf_2 ⟨Nat.le_of_ble_eq_true rfl, Nat.le_of_ble_eq_true rfl⟩ (by decide) (by decide) (fun x1 S2 hS2 => ?_)
  refine vs_aload_n X dX6_issuerOf_5 0 rfl ?_
  refine g_Reg  X hinX6 0 (by decide) (by decide +kernel) rfl rfl dX6_issuerOf_6 ?_
  refine gN_St (by decide) (host := "ScarecrowRegistry") X hinX5 3 (by decide) (by decide +kernel) rfl rfl dX6_issuerOf_9 ?_
  refine vs_iload_n X dX6_issuerOf_12 1 rfl ?_
  refine vs_callVp X  (As := [.int p1]) (st' := []) (mtX4_get hl0 (isRow_st (by decide)).2.1 p1) (cwV 1 X.2.2.2.2.1 gX6_issuerOf_X4_get rfl rfl rfl (by decide +kernel) ⟨Nat.le_of_ble_eq_true rfl, Nat.le_of_ble_eq_true rfl⟩) (by decide) (by decide) rfl rfl rfl (Nat.le_of_ble_eq_true rfl) dX6_issuerOf_13 ⟨Nat.le_of_ble_eq_true rfl, Nat.le_of_ble_eq_true rfl⟩ (fun x3 hx3 => ?_)
  refine vs_istore_n X (lv' := [(2, .int x3), (0, rf G 0), (1, .int p1)]) dX6_issuerOf_16 (by decide) rfl ?_
  refine vs_iload_n X dX6_issuerOf_17 0 rfl ?_
  refine vs_iconst X (v := (-1)) dX6_issuerOf_18 (by decide) ?_
  refine vs_icmp_ne X (tgt := 32) dX6_issuerOf_19 (by decide) (fun _ => ?_) (fun _ => ?_)
  · exact vs_throwI (names := ["java/lang/RuntimeException", "java/lang/Exception"]) (si := 27) X hl0 hT (by decide) (by decide) (by decide +kernel) (by decide +kernel) (by decide) rfl (fun w h => List.mem_cons_of_mem _ (List.mem_append_left _ (List.mem_append_left _ (List.mem_append_right _ h)))) (by decide +kernel) (X.2.2.2.2.2.2.2.2.2.2.2.2.1.2.1 _ (by decide)) (by decide +kernel) ⟨by decide, rfl⟩ dX6_issuerOf_22 dX6_issuerOf_25 dX6_issuerOf_26 dX6_issuerOf_28 dX6_issuerOf_31 (by decide) (by decide) (by decide) (by decide) (by decide) (by decide)
  · refine vs_iload_n X dX6_issuerOf_32 0 rfl ?_
    exact vs_xiret X dX6_issuerOf_33 (by decide) (by decide)

def spX6_subjectOf (p1 : Int32) (S : Wo) : Option (Nat × Int32 × Wo) :=
  bx (spX6_requireCertificate p1 S) (fun x1 S2 => (spX4_get 6 20 p1 S2).bind (fun x3 => some (0, x3, S2)))
set_option maxHeartbeats 4000000 in
set_option maxRecDepth 100000 in
theorem mtX6_subjectOf {l : Launch} (hl0 : l.stackTraces = false) {G : Gt} (p1 : Int32) {S : Wo} : ∀ rr, spX6_subjectOf p1 S = some rr → MXI l yX6_subjectOf wsX6_subjectOf { frames := 7, cells := 1, slots := 6, locals := 103 } G S [rf G 0, .int p1] rr 1 6 := by
  refine MXI_of (cc := cX6_subjectOf) (own := RX6) (maxL := 2) (ret := (some .int)) (sp := spX6_subjectOf p1 S) (by decide +kernel) rfl rfl (Nat.le_of_ble_eq_true rfl) ?_
  intro p e s m args below meth c X hT
  have hinX5 : ∀ w ∈ wsX50, w ∈ wsX6_subjectOf := by decide +kernel
  have hinX6 : ∀ w ∈ wsX60, w ∈ wsX6_subjectOf := by decide +kernel
  show VS G p l e _ s m args below meth c 2 _ _ 0 0 S 0 [(0, rf G 0), (1, .int p1)] []
  unfold spX6_subjectOf
  refine vs_aload_n X dX6_subjectOf_0 0 rfl ?_
  refine vs_iload_n X dX6_subjectOf_1 1 rfl ?_
  refine vs_callVxvI X hT (As := [.int p1]) (st' := []) (mtX6_requireCertificate hl0 p1) (cwV 1 X.2.2.2.2.1 gX6_subjectOf_X6_requireCertificate rfl rfl rfl (by decide +kernel) ⟨Nat.le_of_ble_eq_true rfl, Nat.le_of_ble_eq_true rfl⟩) (by decide) (by decide) rfl rfl rfl (Nat.le_of_ble_eq_true rfl) dX6_subjectOf_2 ⟨Nat.le_of_ble_eq_true rfl, Nat.le_of_ble_eq_true rfl⟩ (by decide) (by decide) (fun x1 S2 hS2 => ?_)
  refine vs_aload_n X dX6_subjectOf_5 0 rfl ?_
  refine g_Reg  X hinX6 0 (by decide) (by decide +kernel) rfl rfl dX6_subjectOf_6 ?_
  refine gN_St (by decide) (host := "ScarecrowRegistry") X hinX5 4 (by decide) (by decide +kernel) rfl rfl dX6_subjectOf_9 ?_
  refine vs_iload_n X dX6_subjectOf_12 1 rfl ?_
  refine vs_callVp X  (As := [.int p1]) (st' := []) (mtX4_get hl0 (isRow_st (by decide)).2.2.1 p1) (cwV 1 X.2.2.2.2.1 gX6_subjectOf_X4_get rfl rfl rfl (by decide +kernel) ⟨Nat.le_of_ble_eq_true rfl, Nat.le_of_ble_eq_true rfl⟩) (by decide) (by decide) rfl rfl rfl (Nat.le_of_ble_eq_true rfl) dX6_subjectOf_13 ⟨Nat.le_of_ble_eq_true rfl, Nat.le_of_ble_eq_true rfl⟩ (fun x3 hx3 => ?_)
  exact vs_xiret X dX6_subjectOf_16 (by decide) (by decide)

def spX6_addressOf (p1 : Int32) (S : Wo) : Option (Nat × Int32 × Wo) :=
  bx (spX6_requireCertificate p1 S) (fun x1 S2 => (spX4_get 8 20 p1 S2).bind (fun x3 => some (0, x3, S2)))
set_option maxHeartbeats 4000000 in
set_option maxRecDepth 100000 in
theorem mtX6_addressOf {l : Launch} (hl0 : l.stackTraces = false) {G : Gt} (p1 : Int32) {S : Wo} : ∀ rr, spX6_addressOf p1 S = some rr → MXI l yX6_addressOf wsX6_addressOf { frames := 7, cells := 1, slots := 6, locals := 103 } G S [rf G 0, .int p1] rr 1 6 := by
  refine MXI_of (cc := cX6_addressOf) (own := RX6) (maxL := 2) (ret := (some .int)) (sp := spX6_addressOf p1 S) (by decide +kernel) rfl rfl (Nat.le_of_ble_eq_true rfl) ?_
  intro p e s m args below meth c X hT
  have hinX5 : ∀ w ∈ wsX50, w ∈ wsX6_addressOf := by decide +kernel
  have hinX6 : ∀ w ∈ wsX60, w ∈ wsX6_addressOf := by decide +kernel
  show VS G p l e _ s m args below meth c 2 _ _ 0 0 S 0 [(0, rf G 0), (1, .int p1)] []
  unfold spX6_addressOf
  refine vs_aload_n X dX6_addressOf_0 0 rfl ?_
  refine vs_iload_n X dX6_addressOf_1 1 rfl ?_
  refine vs_callVxvI X hT (As := [.int p1]) (st' := []) (mtX6_requireCertificate hl0 p1) (cwV 1 X.2.2.2.2.1 gX6_addressOf_X6_requireCertificate rfl rfl rfl (by decide +kernel) ⟨Nat.le_of_ble_eq_true rfl, Nat.le_of_ble_eq_true rfl⟩) (by decide) (by decide) rfl rfl rfl (Nat.le_of_ble_eq_true rfl) dX6_addressOf_2 ⟨Nat.le_of_ble_eq_true rfl, Nat.le_of_ble_eq_true rfl⟩ (by decide) (by decide) (fun x1 S2 hS2 => ?_)
  refine vs_aload_n X dX6_addressOf_5 0 rfl ?_
  refine g_Reg  X hinX6 0 (by decide) (by decide +kernel) rfl rfl dX6_addressOf_6 ?_
  refine gN_St (by decide) (host := "ScarecrowRegistry") X hinX5 5 (by decide) (by decide +kernel) rfl rfl dX6_addressOf_9 ?_
  refine vs_iload_n X dX6_addressOf_12 1 rfl ?_
  refine vs_callVp X  (As := [.int p1]) (st' := []) (mtX4_get hl0 (isRow_st (by decide)).2.2.2.1 p1) (cwV 1 X.2.2.2.2.1 gX6_addressOf_X4_get rfl rfl rfl (by decide +kernel) ⟨Nat.le_of_ble_eq_true rfl, Nat.le_of_ble_eq_true rfl⟩) (by decide) (by decide) rfl rfl rfl (Nat.le_of_ble_eq_true rfl) dX6_addressOf_13 ⟨Nat.le_of_ble_eq_true rfl, Nat.le_of_ble_eq_true rfl⟩ (fun x3 hx3 => ?_)
  exact vs_xiret X dX6_addressOf_16 (by decide) (by decide)

def spX6_lastDayOf (p1 : Int32) (S : Wo) : Option (Nat × Int32 × Wo) :=
  bx (spX6_requireCertificate p1 S) (fun x1 S2 => (spX4_get 10 20 p1 S2).bind (fun x3 => some (0, x3, S2)))
set_option maxHeartbeats 4000000 in
set_option maxRecDepth 100000 in
theorem mtX6_lastDayOf {l : Launch} (hl0 : l.stackTraces = false) {G : Gt} (p1 : Int32) {S : Wo} : ∀ rr, spX6_lastDayOf p1 S = some rr → MXI l yX6_lastDayOf wsX6_lastDayOf { frames := 7, cells := 1, slots := 6, locals := 103 } G S [rf G 0, .int p1] rr 1 6 := by
  refine MXI_of (cc := cX6_lastDayOf) (own := RX6) (maxL := 2) (ret := (some .int)) (sp := spX6_lastDayOf p1 S) (by decide +kernel) rfl rfl (Nat.le_of_ble_eq_true rfl) ?_
  intro p e s m args below meth c X hT
  have hinX5 : ∀ w ∈ wsX50, w ∈ wsX6_lastDayOf := by decide +kernel
  have hinX6 : ∀ w ∈ wsX60, w ∈ wsX6_lastDayOf := by decide +kernel
  show VS G p l e _ s m args below meth c 2 _ _ 0 0 S 0 [(0, rf G 0), (1, .int p1)] []
  unfold spX6_lastDayOf
  refine vs_aload_n X dX6_lastDayOf_0 0 rfl ?_
  refine vs_iload_n X dX6_lastDayOf_1 1 rfl ?_
  refine vs_callVxvI X hT (As := [.int p1]) (st' := []) (mtX6_requireCertificate hl0 p1) (cwV 1 X.2.2.2.2.1 gX6_lastDayOf_X6_requireCertificate rfl rfl rfl (by decide +kernel) ⟨Nat.le_of_ble_eq_true rfl, Nat.le_of_ble_eq_true rfl⟩) (by decide) (by decide) rfl rfl rfl (Nat.le_of_ble_eq_true rfl) dX6_lastDayOf_2 ⟨Nat.le_of_ble_eq_true rfl, Nat.le_of_ble_eq_true rfl⟩ (by decide) (by decide) (fun x1 S2 hS2 => ?_)
  refine vs_aload_n X dX6_lastDayOf_5 0 rfl ?_
  refine g_Reg  X hinX6 0 (by decide) (by decide +kernel) rfl rfl dX6_lastDayOf_6 ?_
  refine gN_St (by decide) (host := "ScarecrowRegistry") X hinX5 6 (by decide) (by decide +kernel) rfl rfl dX6_lastDayOf_9 ?_
  refine vs_iload_n X dX6_lastDayOf_12 1 rfl ?_
  refine vs_callVp X  (As := [.int p1]) (st' := []) (mtX4_get hl0 (isRow_st (by decide)).2.2.2.2.1 p1) (cwV 1 X.2.2.2.2.1 gX6_lastDayOf_X4_get rfl rfl rfl (by decide +kernel) ⟨Nat.le_of_ble_eq_true rfl, Nat.le_of_ble_eq_true rfl⟩) (by decide) (by decide) rfl rfl rfl (Nat.le_of_ble_eq_true rfl) dX6_lastDayOf_13 ⟨Nat.le_of_ble_eq_true rfl, Nat.le_of_ble_eq_true rfl⟩ (fun x3 hx3 => ?_)
  exact vs_xiret X dX6_lastDayOf_16 (by decide) (by decide)

def spX6_isInForce (p1 : Int32) (S : Wo) : Option (Nat × Int32 × Wo) :=
  bx (spX6_requireCertificate p1 S) (fun x1 S2 => (spX5_inForceNow 1 S2).bind (fun x3 => (spX6_has x3 p1 S2).bind (fun x4 => rz x4 (fun y => some (0, y, S2)))))
set_option maxHeartbeats 4000000 in
set_option maxRecDepth 100000 in
theorem mtX6_isInForce {l : Launch} (hl0 : l.stackTraces = false) {G : Gt} (p1 : Int32) {S : Wo} : ∀ rr, spX6_isInForce p1 S = some rr → MXI l yX6_isInForce wsX6_isInForce { frames := 7, cells := 1, slots := 6, locals := 113 } G S [rf G 0, .int p1] rr 1 6 := by
  refine MXI_of (cc := cX6_isInForce) (own := RX6) (maxL := 2) (ret := (some .boolean)) (sp := spX6_isInForce p1 S) (by decide +kernel) rfl rfl (Nat.le_of_ble_eq_true rfl) ?_
  intro p e s m args below meth c X hT
  have hinX6 : ∀ w ∈ wsX60, w ∈ wsX6_isInForce := by decide +kernel
  show VS G p l e _ s m args below meth c 2 _ _ 0 0 S 0 [(0, rf G 0), (1, .int p1)] []
  unfold spX6_isInForce
  refine vs_aload_n X dX6_isInForce_0 0 rfl ?_
  refine vs_iload_n X dX6_isInForce_1 1 rfl ?_
  refine vs_callVxvI X hT (As := [.int p1]) (st' := []) (mtX6_requireCertificate hl0 p1) (cwV 1 X.2.2.2.2.1 gX6_isInForce_X6_requireCertificate rfl rfl rfl (by decide +kernel) ⟨Nat.le_of_ble_eq_true rfl, Nat.le_of_ble_eq_true rfl⟩) (by decide) (by decide) rfl rfl rfl (Nat.le_of_ble_eq_true rfl) dX6_isInForce_2 ⟨Nat.le_of_ble_eq_true rfl, Nat.le_of_ble_eq_true rfl⟩ (by decide) (by decide) (fun x1 S2 hS2 => ?_)
  refine vs_aload_n X dX6_isInForce_5 0 rfl ?_
  refine g_Reg  X hinX6 0 (by decide) (by decide +kernel) rfl rfl dX6_isInForce_6 ?_
  refine vs_callVp X  (As := []) (st' := []) (mtX5_inForceNow hl0 (by decide)) (cwV 0 X.2.2.2.2.1 gX6_isInForce_X5_inForceNow rfl rfl rfl (by decide +kernel) ⟨Nat.le_of_ble_eq_true rfl, Nat.le_of_ble_eq_true rfl⟩) (by decide) (by decide) rfl rfl rfl (Nat.le_of_ble_eq_true rfl) dX6_isInForce_9 ⟨Nat.le_of_ble_eq_true rfl, Nat.le_of_ble_eq_true rfl⟩ (fun x3 hx3 => ?_)
  refine vs_iload_n X dX6_isInForce_12 1 rfl ?_
  refine vs_callSp X  (As := [.int x3, .int p1]) (st' := []) (mtX6_has hl0 x3 p1) (va_cwS 2 X.2.2.2.2.1 gX6_isInForce_X6_has rfl rfl rfl (by decide +kernel) ⟨Nat.le_of_ble_eq_true rfl, Nat.le_of_ble_eq_true rfl⟩) rfl (Nat.le_of_ble_eq_true rfl) dX6_isInForce_13 ⟨Nat.le_of_ble_eq_true rfl, Nat.le_of_ble_eq_true rfl⟩ (fun x4 hx4 => ?_)
  exact vs_xzret X dX6_isInForce_16 (by decide) (by decide)

def spX6_inForceCount  (S : Wo) : Option (Int32) :=
  (spX5_inForceNow 1 S).bind (fun x1 => (spJ6_bitCount_0f7a4 x1 S).bind (fun x2 => some x2))
set_option maxHeartbeats 4000000 in
set_option maxRecDepth 100000 in
theorem mtX6_inForceCount {l : Launch} (hl0 : l.stackTraces = false) {G : Gt}  {S : Wo} : ∀ x, spX6_inForceCount  S = some x → MI l yX6_inForceCount wsX6_inForceCount { frames := 5, cells := 0, slots := 0, locals := 113 } G S [rf G 0] (x, S) 0 0 := by
  refine MIp_of (cc := cX6_inForceCount) (own := RX6) (maxL := 1) (ret := (some .int)) (sp := spX6_inForceCount  S) (by decide +kernel) rfl rfl (Nat.le_of_ble_eq_true rfl) ?_
  intro p e s m args below meth c X
  have hinX6 : ∀ w ∈ wsX60, w ∈ wsX6_inForceCount := by decide +kernel
  show VS G p l e _ s m args below meth c 1 _ _ 0 0 S 0 [(0, rf G 0)] []
  unfold spX6_inForceCount
  refine vs_aload_n X dX6_inForceCount_0 0 rfl ?_
  refine g_Reg  X hinX6 0 (by decide) (by decide +kernel) rfl rfl dX6_inForceCount_1 ?_
  refine vs_callVp X  (As := []) (st' := []) (mtX5_inForceNow hl0 (by decide)) (cwV 0 X.2.2.2.2.1 gX6_inForceCount_X5_inForceNow rfl rfl rfl (by decide +kernel) ⟨Nat.le_of_ble_eq_true rfl, Nat.le_of_ble_eq_true rfl⟩) (by decide) (by decide) rfl rfl rfl (Nat.le_of_ble_eq_true rfl) dX6_inForceCount_4 ⟨Nat.le_of_ble_eq_true rfl, Nat.le_of_ble_eq_true rfl⟩ (fun x1 hx1 => ?_)
  refine vs_callSp X  (As := [.int x1]) (st' := []) (mtJ6_bitCount_0f7a4 hl0 x1) (va_cwS 1 X.2.2.2.2.1 gX6_inForceCount_J6_bitCount_0f7a4 rfl rfl rfl (by decide +kernel) ⟨Nat.le_of_ble_eq_true rfl, Nat.le_of_ble_eq_true rfl⟩) rfl (Nat.le_of_ble_eq_true rfl) dX6_inForceCount_7 ⟨Nat.le_of_ble_eq_true rfl, Nat.le_of_ble_eq_true rfl⟩ (fun x2 hx2 => ?_)
  exact vs_iretp X dX6_inForceCount_10 (by decide) (by decide)

def spX6_sow (p1 : Int32) (p2 : Int32) (S : Wo) : Option (Nat × Int32 × Wo) :=
  (spX6_beginChange  S).bind (fun S1 => bd2 (spX6_putGrains p1 p2 S1) (fun x2 S3 => bx (spX6_endChange x2 S3) (fun x4 S5 => some (0, x4, S5))))
set_option maxHeartbeats 4000000 in
set_option maxRecDepth 100000 in
theorem mtX6_sow {l : Launch} (hl0 : l.stackTraces = false) {G : Gt} (p1 : Int32) (p2 : Int32) {S : Wo} : ∀ rr, spX6_sow p1 p2 S = some rr → MXI l yX6_sow wsX6_sow { frames := 7, cells := 1, slots := 6, locals := 106 } G S [rf G 0, .int p1, .int p2] rr 1 6 := by
  refine MXI_of (cc := cX6_sow) (own := RX6) (maxL := 3) (ret := (some .int)) (sp := spX6_sow p1 p2 S) (by decide +kernel) rfl rfl (Nat.le_of_ble_eq_true rfl) ?_
  intro p e s m args below meth c X hT
  show VS G p l e _ s m args below meth c 3 _ _ 0 0 S 0 [(0, rf G 0), (1, .int p1), (2, .int p2)] []
  unfold spX6_sow
  refine vs_aload_n X dX6_sow_0 0 rfl ?_
  refine vs_callVv X  (As := []) (st' := []) (mtX6_beginChange hl0 ) (cwV 0 X.2.2.2.2.1 gX6_sow_X6_beginChange rfl rfl rfl (by decide +kernel) ⟨Nat.le_of_ble_eq_true rfl, Nat.le_of_ble_eq_true rfl⟩) (by decide) (by decide) rfl rfl rfl (Nat.le_of_ble_eq_true rfl) dX6_sow_1 ⟨Nat.le_of_ble_eq_true rfl, Nat.le_of_ble_eq_true rfl⟩ (fun S1 hS1 => ?_)
  refine vs_aload_n X dX6_sow_4 0 rfl ?_
  refine vs_aload_n X dX6_sow_5 0 rfl ?_
  refine vs_iload_n X dX6_sow_6 1 rfl ?_
  refine vs_iload_n X dX6_sow_7 2 rfl ?_
  refine vs_callVi X  (As := [.int p1, .int p2]) (st' := [rf G 0]) (mtX6_putGrains hl0 p1 p2) (cwV 2 X.2.2.2.2.1 gX6_sow_X6_putGrains rfl rfl rfl (by decide +kernel) ⟨Nat.le_of_ble_eq_true rfl, Nat.le_of_ble_eq_true rfl⟩) (by decide) (by decide) rfl rfl rfl (Nat.le_of_ble_eq_true rfl) dX6_sow_8 ⟨Nat.le_of_ble_eq_true rfl, Nat.le_of_ble_eq_true rfl⟩ (fun x2 S3 hx2 => ?_)
  refine vs_callVxiI X hT (As := [.int x2]) (st' := []) (mtX6_endChange hl0 x2) (cwV 1 X.2.2.2.2.1 gX6_sow_X6_endChange rfl rfl rfl (by decide +kernel) ⟨Nat.le_of_ble_eq_true rfl, Nat.le_of_ble_eq_true rfl⟩) (by decide) (by decide) rfl rfl rfl (Nat.le_of_ble_eq_true rfl) dX6_sow_11 ⟨Nat.le_of_ble_eq_true rfl, Nat.le_of_ble_eq_true rfl⟩ (by decide) (by decide) (fun x4 S5 hS5 => ?_)
  exact vs_xiret X dX6_sow_14 (by decide) (by decide)

def spX6_pass (p1 : Int32) (S : Wo) : Option (Nat × Int32 × Wo) :=
  (spX6_beginChange  S).bind (fun S1 => bd2 (spX6_passDays p1 S1) (fun x2 S3 => bx (spX6_endChange x2 S3) (fun x4 S5 => some (0, x4, S5))))
set_option maxHeartbeats 4000000 in
set_option maxRecDepth 100000 in
theorem mtX6_pass {l : Launch} (hl0 : l.stackTraces = false) {G : Gt} (p1 : Int32) {S : Wo} : ∀ rr, spX6_pass p1 S = some rr → MXI l yX6_pass wsX6_pass { frames := 7, cells := 1, slots := 6, locals := 119 } G S [rf G 0, .int p1] rr 1 6 := by
  refine MXI_of (cc := cX6_pass) (own := RX6) (maxL := 2) (ret := (some .int)) (sp := spX6_pass p1 S) (by decide +kernel) rfl rfl (Nat.le_of_ble_eq_true rfl) ?_
  intro p e s m args below meth c X hT
  show VS G p l e _ s m args below meth c 2 _ _ 0 0 S 0 [(0, rf G 0), (1, .int p1)] []
  unfold spX6_pass
  refine vs_aload_n X dX6_pass_0 0 rfl ?_
  refine vs_callVv X  (As := []) (st' := []) (mtX6_beginChange hl0 ) (cwV 0 X.2.2.2.2.1 gX6_pass_X6_beginChange rfl rfl rfl (by decide +kernel) ⟨Nat.le_of_ble_eq_true rfl, Nat.le_of_ble_eq_true rfl⟩) (by decide) (by decide) rfl rfl rfl (Nat.le_of_ble_eq_true rfl) dX6_pass_1 ⟨Nat.le_of_ble_eq_true rfl, Nat.le_of_ble_eq_true rfl⟩ (fun S1 hS1 => ?_)
  refine vs_aload_n X dX6_pass_4 0 rfl ?_
  refine vs_aload_n X dX6_pass_5 0 rfl ?_
  refine vs_iload_n X dX6_pass_6 1 rfl ?_
  refine vs_callVi X  (As := [.int p1]) (st' := [rf G 0]) (mtX6_passDays hl0 p1) (cwV 1 X.2.2.2.2.1 gX6_pass_X6_passDays rfl rfl rfl (by decide +kernel) ⟨Nat.le_of_ble_eq_true rfl, Nat.le_of_ble_eq_true rfl⟩) (by decide) (by decide) rfl rfl rfl (Nat.le_of_ble_eq_true rfl) dX6_pass_7 ⟨Nat.le_of_ble_eq_true rfl, Nat.le_of_ble_eq_true rfl⟩ (fun x2 S3 hx2 => ?_)
  refine vs_callVxiI X hT (As := [.int x2]) (st' := []) (mtX6_endChange hl0 x2) (cwV 1 X.2.2.2.2.1 gX6_pass_X6_endChange rfl rfl rfl (by decide +kernel) ⟨Nat.le_of_ble_eq_true rfl, Nat.le_of_ble_eq_true rfl⟩) (by decide) (by decide) rfl rfl rfl (Nat.le_of_ble_eq_true rfl) dX6_pass_10 ⟨Nat.le_of_ble_eq_true rfl, Nat.le_of_ble_eq_true rfl⟩ (by decide) (by decide) (fun x4 S5 hS5 => ?_)
  exact vs_xiret X dX6_pass_13 (by decide) (by decide)

def spX6_predictEaten (p1 : Int32) (S : Wo) : Option (Nat × Int32 × Wo) :=
  (if p1 < 0 then some (1, 0, S) else (if p1 ≤ 60 then (spX5_copyFrom 27 1 S).bind (fun S1 => bd2 (spX5_letDaysPass 27 p1 S1) (fun x2 S3 => some (0, x2, S3))) else some (1, 0, S)))
set_option maxHeartbeats 4000000 in
set_option maxRecDepth 100000 in
theorem mtX6_predictEaten {l : Launch} (hl0 : l.stackTraces = false) {G : Gt} (p1 : Int32) {S : Wo} : ∀ rr, spX6_predictEaten p1 S = some rr → MXI l yX6_predictEaten wsX6_predictEaten { frames := 6, cells := 1, slots := 6, locals := 98 } G S [rf G 0, .int p1] rr 1 6 := by
  refine MXI_of (cc := cX6_predictEaten) (own := RX6) (maxL := 2) (ret := (some .int)) (sp := spX6_predictEaten p1 S) (by decide +kernel) rfl rfl (Nat.le_of_ble_eq_true rfl) ?_
  intro p e s m args below meth c X hT
  have hinX6 : ∀ w ∈ wsX60, w ∈ wsX6_predictEaten := by decide +kernel
  show VS G p l e _ s m args below meth c 2 _ _ 0 0 S 0 [(0, rf G 0), (1, .int p1)] []
  unfold spX6_predictEaten
  refine vs_iload_n X dX6_predictEaten_0 1 rfl ?_
  refine vs_if_lt X (tgt := 10) dX6_predictEaten_1 (by decide) (fun _ => ?_) (fun _ => ?_)
  · exact vs_throwI (names := ["java/lang/RuntimeException", "java/lang/Exception"]) (si := 28) X hl0 hT (by decide) (by decide) (by decide +kernel) (by decide +kernel) (by decide) rfl (fun w h => List.mem_cons_of_mem _ (List.mem_append_left _ (List.mem_append_right _ h))) (by decide +kernel) (X.2.2.2.2.2.2.2.2.2.2.2.2.1.2.1 _ (by decide)) (by decide +kernel) ⟨by decide, rfl⟩ dX6_predictEaten_10 dX6_predictEaten_13 dX6_predictEaten_14 dX6_predictEaten_16 dX6_predictEaten_19 (by decide) (by decide) (by decide) (by decide) (by decide) (by decide)
  · refine vs_iload_n X dX6_predictEaten_4 1 rfl ?_
    refine vs_bipush X (v := 60) dX6_predictEaten_5 (by decide) ?_
    refine vs_icmp_le X (tgt := 20) dX6_predictEaten_7 (by decide) (fun _ => ?_) (fun _ => ?_)
    · refine vs_aload_n X dX6_predictEaten_20 0 rfl ?_
      refine g_Reg  X hinX6 2 (by decide) (by decide +kernel) rfl rfl dX6_predictEaten_21 ?_
      refine vs_aload_n X dX6_predictEaten_24 0 rfl ?_
      refine g_Reg  X hinX6 0 (by decide) (by decide +kernel) rfl rfl dX6_predictEaten_25 ?_
      refine vs_callVv X  (As := [rf G 1]) (st' := []) (mtX5_copyFrom hl0 (by decide) (by decide)) (cwV 1 X.2.2.2.2.1 gX6_predictEaten_X5_copyFrom rfl rfl rfl (by decide +kernel) ⟨Nat.le_of_ble_eq_true rfl, Nat.le_of_ble_eq_true rfl⟩) (by decide) (by decide) rfl rfl rfl (Nat.le_of_ble_eq_true rfl) dX6_predictEaten_28 ⟨Nat.le_of_ble_eq_true rfl, Nat.le_of_ble_eq_true rfl⟩ (fun S1 hS1 => ?_)
      refine vs_aload_n X dX6_predictEaten_31 0 rfl ?_
      refine g_Reg  X hinX6 2 (by decide) (by decide +kernel) rfl rfl dX6_predictEaten_32 ?_
      refine vs_iload_n X dX6_predictEaten_35 1 rfl ?_
      refine vs_callVi X  (As := [.int p1]) (st' := []) (mtX5_letDaysPass hl0 (by decide) p1) (cwV 1 X.2.2.2.2.1 gX6_predictEaten_X5_letDaysPass rfl rfl rfl (by decide +kernel) ⟨Nat.le_of_ble_eq_true rfl, Nat.le_of_ble_eq_true rfl⟩) (by decide) (by decide) rfl rfl rfl (Nat.le_of_ble_eq_true rfl) dX6_predictEaten_36 ⟨Nat.le_of_ble_eq_true rfl, Nat.le_of_ble_eq_true rfl⟩ (fun x2 S3 hx2 => ?_)
      exact vs_xiret X dX6_predictEaten_39 (by decide) (by decide)
    · exact vs_throwI (names := ["java/lang/RuntimeException", "java/lang/Exception"]) (si := 28) X hl0 hT (by decide) (by decide) (by decide +kernel) (by decide +kernel) (by decide) rfl (fun w h => List.mem_cons_of_mem _ (List.mem_append_left _ (List.mem_append_right _ h))) (by decide +kernel) (X.2.2.2.2.2.2.2.2.2.2.2.2.1.2.1 _ (by decide)) (by decide +kernel) ⟨by decide, rfl⟩ dX6_predictEaten_10 dX6_predictEaten_13 dX6_predictEaten_14 dX6_predictEaten_16 dX6_predictEaten_19 (by decide) (by decide) (by decide) (by decide) (by decide) (by decide)

def spX6_day  (S : Wo) : Option (Int32) :=
  some (S.1 1 9)
set_option maxHeartbeats 4000000 in
set_option maxRecDepth 100000 in
theorem mtX6_day {l : Launch} (hl0 : l.stackTraces = false) {G : Gt}  {S : Wo} : ∀ x, spX6_day  S = some x → MI l yX6_day wsX6_day { frames := 0, cells := 0, slots := 0, locals := 0 } G S [rf G 0] (x, S) 0 0 := by
  refine MIp_of (cc := cX6_day) (own := RX6) (maxL := 1) (ret := (some .int)) (sp := spX6_day  S) (by decide +kernel) rfl rfl (Nat.le_of_ble_eq_true rfl) ?_
  intro p e s m args below meth c X
  have hinX5 : ∀ w ∈ wsX50, w ∈ wsX6_day := by decide +kernel
  have hinX6 : ∀ w ∈ wsX60, w ∈ wsX6_day := by decide +kernel
  show VS G p l e _ s m args below meth c 1 _ _ 0 0 S 0 [(0, rf G 0)] []
  unfold spX6_day
  refine vs_aload_n X dX6_day_0 0 rfl ?_
  refine g_Reg  X hinX6 0 (by decide) (by decide +kernel) rfl rfl dX6_day_1 ?_
  refine gN_St (by decide) (host := "ScarecrowRegistry") X hinX5 9 (by decide) (by decide +kernel) rfl rfl dX6_day_4 ?_
  exact vs_iretp X dX6_day_7 (by decide) (by decide)

def spX6_nextLook  (S : Wo) : Option (Int32) :=
  (spX6_lookOn (S.1 1 9 + 1) S).bind (fun x1 => some x1)
set_option maxHeartbeats 4000000 in
set_option maxRecDepth 100000 in
theorem mtX6_nextLook {l : Launch} (hl0 : l.stackTraces = false) {G : Gt}  {S : Wo} : ∀ x, spX6_nextLook  S = some x → MI l yX6_nextLook wsX6_nextLook { frames := 2, cells := 0, slots := 0, locals := 42 } G S [rf G 0] (x, S) 0 0 := by
  refine MIp_of (cc := cX6_nextLook) (own := RX6) (maxL := 1) (ret := (some .int)) (sp := spX6_nextLook  S) (by decide +kernel) rfl rfl (Nat.le_of_ble_eq_true rfl) ?_
  intro p e s m args below meth c X
  have hinX5 : ∀ w ∈ wsX50, w ∈ wsX6_nextLook := by decide +kernel
  have hinX6 : ∀ w ∈ wsX60, w ∈ wsX6_nextLook := by decide +kernel
  show VS G p l e _ s m args below meth c 1 _ _ 0 0 S 0 [(0, rf G 0)] []
  unfold spX6_nextLook
  refine vs_aload_n X dX6_nextLook_0 0 rfl ?_
  refine g_Reg  X hinX6 0 (by decide) (by decide +kernel) rfl rfl dX6_nextLook_1 ?_
  refine gN_St (by decide) (host := "ScarecrowRegistry") X hinX5 9 (by decide) (by decide +kernel) rfl rfl dX6_nextLook_4 ?_
  refine vs_iconst X (v := 1) dX6_nextLook_7 (by decide) ?_
  refine vs_iadd X dX6_nextLook_8 ?_
  refine vs_callSp X  (As := [.int (S.1 1 9 + 1)]) (st' := []) (mtX6_lookOn hl0 (S.1 1 9 + 1)) (va_cwS 1 X.2.2.2.2.1 gX6_nextLook_X6_lookOn rfl rfl rfl (by decide +kernel) ⟨Nat.le_of_ble_eq_true rfl, Nat.le_of_ble_eq_true rfl⟩) rfl (Nat.le_of_ble_eq_true rfl) dX6_nextLook_9 ⟨Nat.le_of_ble_eq_true rfl, Nat.le_of_ble_eq_true rfl⟩ (fun x1 hx1 => ?_)
  exact vs_iretp X dX6_nextLook_12 (by decide) (by decide)

def spX6_grains (p1 : Int32) (S : Wo) : Option (Nat × Int32 × Wo) :=
  bx (spX6_requireField p1 S) (fun x1 S2 => (spX4_get 12 16 p1 S2).bind (fun x3 => some (0, x3, S2)))
set_option maxHeartbeats 4000000 in
set_option maxRecDepth 100000 in
theorem mtX6_grains {l : Launch} (hl0 : l.stackTraces = false) {G : Gt} (p1 : Int32) {S : Wo} : ∀ rr, spX6_grains p1 S = some rr → MXI l yX6_grains wsX6_grains { frames := 7, cells := 1, slots := 6, locals := 102 } G S [rf G 0, .int p1] rr 1 6 := by
  refine MXI_of (cc := cX6_grains) (own := RX6) (maxL := 2) (ret := (some .int)) (sp := spX6_grains p1 S) (by decide +kernel) rfl rfl (Nat.le_of_ble_eq_true rfl) ?_
  intro p e s m args below meth c X hT
  have hinX5 : ∀ w ∈ wsX50, w ∈ wsX6_grains := by decide +kernel
  have hinX6 : ∀ w ∈ wsX60, w ∈ wsX6_grains := by decide +kernel
  show VS G p l e _ s m args below meth c 2 _ _ 0 0 S 0 [(0, rf G 0), (1, .int p1)] []
  unfold spX6_grains
  refine vs_iload_n X dX6_grains_0 1 rfl ?_
  refine vs_callSxvI X hT (As := [.int p1]) (st' := []) (mtX6_requireField hl0 p1) (va_cwS 1 X.2.2.2.2.1 gX6_grains_X6_requireField rfl rfl rfl (by decide +kernel) ⟨Nat.le_of_ble_eq_true rfl, Nat.le_of_ble_eq_true rfl⟩) rfl (Nat.le_of_ble_eq_true rfl) dX6_grains_1 ⟨Nat.le_of_ble_eq_true rfl, Nat.le_of_ble_eq_true rfl⟩ (by decide) (by decide) (fun x1 S2 hS2 => ?_)
  refine vs_aload_n X dX6_grains_4 0 rfl ?_
  refine g_Reg  X hinX6 0 (by decide) (by decide +kernel) rfl rfl dX6_grains_5 ?_
  refine gN_St (by decide) (host := "ScarecrowRegistry") X hinX5 8 (by decide) (by decide +kernel) rfl rfl dX6_grains_8 ?_
  refine vs_iload_n X dX6_grains_11 1 rfl ?_
  refine vs_callVp X  (As := [.int p1]) (st' := []) (mtX4_get hl0 (isRow_st (by decide)).2.2.2.2.2 p1) (cwV 1 X.2.2.2.2.1 gX6_grains_X4_get rfl rfl rfl (by decide +kernel) ⟨Nat.le_of_ble_eq_true rfl, Nat.le_of_ble_eq_true rfl⟩) (by decide) (by decide) rfl rfl rfl (Nat.le_of_ble_eq_true rfl) dX6_grains_12 ⟨Nat.le_of_ble_eq_true rfl, Nat.le_of_ble_eq_true rfl⟩ (fun x3 hx3 => ?_)
  exact vs_xiret X dX6_grains_15 (by decide) (by decide)

def spX6_isGuarded (p1 : Int32) (S : Wo) : Option (Nat × Int32 × Wo) :=
  bx (spX6_requireField p1 S) (fun x1 S2 => (spX5_certifiedNow 1 S2).bind (fun x3 => (spX5_isNearOneOf 1 x3 p1 S2).bind (fun x4 => rz x4 (fun y => some (0, y, S2)))))
set_option maxHeartbeats 4000000 in
set_option maxRecDepth 100000 in
theorem mtX6_isGuarded {l : Launch} (hl0 : l.stackTraces = false) {G : Gt} (p1 : Int32) {S : Wo} : ∀ rr, spX6_isGuarded p1 S = some rr → MXI l yX6_isGuarded wsX6_isGuarded { frames := 7, cells := 1, slots := 6, locals := 102 } G S [rf G 0, .int p1] rr 1 6 := by
  refine MXI_of (cc := cX6_isGuarded) (own := RX6) (maxL := 2) (ret := (some .boolean)) (sp := spX6_isGuarded p1 S) (by decide +kernel) rfl rfl (Nat.le_of_ble_eq_true rfl) ?_
  intro p e s m args below meth c X hT
  have hinX6 : ∀ w ∈ wsX60, w ∈ wsX6_isGuarded := by decide +kernel
  show VS G p l e _ s m args below meth c 2 _ _ 0 0 S 0 [(0, rf G 0), (1, .int p1)] []
  unfold spX6_isGuarded
  refine vs_iload_n X dX6_isGuarded_0 1 rfl ?_
  refine vs_callSxvI X hT (As := [.int p1]) (st' := []) (mtX6_requireField hl0 p1) (va_cwS 1 X.2.2.2.2.1 gX6_isGuarded_X6_requireField rfl rfl rfl (by decide +kernel) ⟨Nat.le_of_ble_eq_true rfl, Nat.le_of_ble_eq_true rfl⟩) rfl (Nat.le_of_ble_eq_true rfl) dX6_isGuarded_1 ⟨Nat.le_of_ble_eq_true rfl, Nat.le_of_ble_eq_true rfl⟩ (by decide) (by decide) (fun x1 S2 hS2 => ?_)
  refine vs_aload_n X dX6_isGuarded_4 0 rfl ?_
  refine g_Reg  X hinX6 0 (by decide) (by decide +kernel) rfl rfl dX6_isGuarded_5 ?_
  refine vs_aload_n X dX6_isGuarded_8 0 rfl ?_
  refine g_Reg  X hinX6 0 (by decide) (by decide +kernel) rfl rfl dX6_isGuarded_9 ?_
  refine vs_callVp X  (As := []) (st' := [rf G 1]) (mtX5_certifiedNow hl0 (by decide)) (cwV 0 X.2.2.2.2.1 gX6_isGuarded_X5_certifiedNow rfl rfl rfl (by decide +kernel) ⟨Nat.le_of_ble_eq_true rfl, Nat.le_of_ble_eq_true rfl⟩) (by decide) (by decide) rfl rfl rfl (Nat.le_of_ble_eq_true rfl) dX6_isGuarded_12 ⟨Nat.le_of_ble_eq_true rfl, Nat.le_of_ble_eq_true rfl⟩ (fun x3 hx3 => ?_)
  refine vs_iload_n X dX6_isGuarded_15 1 rfl ?_
  refine vs_callVp X  (As := [.int x3, .int p1]) (st' := []) (mtX5_isNearOneOf hl0 (by decide) x3 p1) (cwV 2 X.2.2.2.2.1 gX6_isGuarded_X5_isNearOneOf rfl rfl rfl (by decide +kernel) ⟨Nat.le_of_ble_eq_true rfl, Nat.le_of_ble_eq_true rfl⟩) (by decide) (by decide) rfl rfl rfl (Nat.le_of_ble_eq_true rfl) dX6_isGuarded_16 ⟨Nat.le_of_ble_eq_true rfl, Nat.le_of_ble_eq_true rfl⟩ (fun x4 hx4 => ?_)
  exact vs_xzret X dX6_isGuarded_19 (by decide) (by decide)

def lpX6_guardedFields_12  (S : Wo) (w1 : Int32)  : Nat → Int32 → Int32 → Option (Int32)
  | 0, _, _ => none
  | f + 1, v2, v3 => (if (16 : Int32) ≤ v3 then some v2 else (spX5_isNearOneOf 1 w1 v3 S).bind (fun x3 => (if x3 = 0 then lpX6_guardedFields_12  S w1 f v2 (v3 + 1) else lpX6_guardedFields_12  S w1 f (v2 + 1) (v3 + 1))))
def spX6_guardedFields  (S : Wo) : Option (Int32) :=
  (spX5_certifiedNow 1 S).bind (fun x1 => lpX6_guardedFields_12  S x1 200 0 0)
set_option maxHeartbeats 4000000 in
set_option maxRecDepth 100000 in
theorem mtX6_guardedFields {l : Launch} (hl0 : l.stackTraces = false) {G : Gt}  {S : Wo} : ∀ x, spX6_guardedFields  S = some x → MI l yX6_guardedFields wsX6_guardedFields { frames := 4, cells := 0, slots := 0, locals := 93 } G S [rf G 0] (x, S) 0 0 := by
  refine MIp_of (cc := cX6_guardedFields) (own := RX6) (maxL := 4) (ret := (some .int)) (sp := spX6_guardedFields  S) (by decide +kernel) rfl rfl (Nat.le_of_ble_eq_true rfl) ?_
  intro p e s m args below meth c X
  have hinX6 : ∀ w ∈ wsX60, w ∈ wsX6_guardedFields := by decide +kernel
  show VS G p l e _ s m args below meth c 4 _ _ 0 0 S 0 [(0, rf G 0)] []
  unfold spX6_guardedFields
  refine vs_aload_n X dX6_guardedFields_0 0 rfl ?_
  refine g_Reg  X hinX6 0 (by decide) (by decide +kernel) rfl rfl dX6_guardedFields_1 ?_
  refine vs_callVp X  (As := []) (st' := []) (mtX5_certifiedNow hl0 (by decide)) (cwV 0 X.2.2.2.2.1 gX6_guardedFields_X5_certifiedNow rfl rfl rfl (by decide +kernel) ⟨Nat.le_of_ble_eq_true rfl, Nat.le_of_ble_eq_true rfl⟩) (by decide) (by decide) rfl rfl rfl (Nat.le_of_ble_eq_true rfl) dX6_guardedFields_4 ⟨Nat.le_of_ble_eq_true rfl, Nat.le_of_ble_eq_true rfl⟩ (fun x1 hx1 => ?_)
  refine vs_istore_n X (lv' := [(1, .int x1), (0, rf G 0)]) dX6_guardedFields_7 (by decide) rfl ?_
  refine vs_iconst X (v := 0) dX6_guardedFields_8 (by decide) ?_
  refine vs_istore_n X (lv' := [(2, .int 0), (1, .int x1), (0, rf G 0)]) dX6_guardedFields_9 (by decide) rfl ?_
  refine vs_iconst X (v := 0) dX6_guardedFields_10 (by decide) ?_
  refine vs_istore_n X (lv' := [(3, .int 0), (2, .int 0), (1, .int x1), (0, rf G 0)]) dX6_guardedFields_11 (by decide) rfl ?_
  have L2 : ∀ (w1 : Int32) (f : Nat) (v2 : Int32) (v3 : Int32), VS G p l e ({ frames := 4, cells := 0, slots := 0, locals := 93 } : Room) s m args below meth c 4 (fun x => MQ below (QI G (x, S)) args s 0 0 (Af G)) (lpX6_guardedFields_12  S w1 f v2 v3) 0 0 S 12 [(0, rf G 0), (1, .int w1), (2, .int v2), (3, .int v3)] [] := by
    intro w1 f
    induction f with
    | zero => intro v2 v3; exact vs_none rfl
    | succ f ih =>
        intro v2 v3
        rw [lpX6_guardedFields_12]
        refine vs_iload_n X dX6_guardedFields_12 3 rfl ?_
        refine vs_bipush X (v := 16) dX6_guardedFields_13 (by decide) ?_
        refine vs_icmp_ge X (tgt := 39) dX6_guardedFields_15 (by decide) (fun _ => ?_) (fun _ => ?_)
        · refine vs_iload_n X dX6_guardedFields_39 2 rfl ?_
          exact vs_iretp X dX6_guardedFields_40 (by decide) (by decide)
        · refine vs_aload_n X dX6_guardedFields_18 0 rfl ?_
          refine g_Reg  X hinX6 0 (by decide) (by decide +kernel) rfl rfl dX6_guardedFields_19 ?_
          refine vs_iload_n X dX6_guardedFields_22 1 rfl ?_
          refine vs_iload_n X dX6_guardedFields_23 3 rfl ?_
          refine vs_callVp X  (As := [.int w1, .int v3]) (st' := []) (mtX5_isNearOneOf hl0 (by decide) w1 v3) (cwV 2 X.2.2.2.2.1 gX6_guardedFields_X5_isNearOneOf rfl rfl rfl (by decide +kernel) ⟨Nat.le_of_ble_eq_true rfl, Nat.le_of_ble_eq_true rfl⟩) (by decide) (by decide) rfl rfl rfl (Nat.le_of_ble_eq_true rfl) dX6_guardedFields_24 ⟨Nat.le_of_ble_eq_true rfl, Nat.le_of_ble_eq_true rfl⟩ (fun x3 hx3 => ?_)
          refine vs_if_eq X (tgt := 33) dX6_guardedFields_27 (by decide) (fun _ => ?_) (fun _ => ?_)
          · refine vs_iinc X (v := (v3 + 1)) (lv' := [(3, .int (v3 + 1)), (0, rf G 0), (1, .int w1), (2, .int v2)]) dX6_guardedFields_33 3 rfl rfl (by decide) rfl ?_
            refine vs_goto X (tgt := 12) dX6_guardedFields_36 (by decide) ?_
            refine vs_sub [1, 2, 3, 0] (lv' := [(0, rf G 0), (1, .int w1), (2, .int v2), (3, .int (v3 + 1))]) rfl ?_
            exact ih v2 (v3 + 1)
          · refine vs_iinc X (v := (v2 + 1)) (lv' := [(2, .int (v2 + 1)), (0, rf G 0), (1, .int w1), (3, .int v3)]) dX6_guardedFields_30 2 rfl rfl (by decide) rfl ?_
            refine vs_iinc X (v := (v3 + 1)) (lv' := [(3, .int (v3 + 1)), (2, .int (v2 + 1)), (0, rf G 0), (1, .int w1)]) dX6_guardedFields_33 3 rfl rfl (by decide) rfl ?_
            refine vs_goto X (tgt := 12) dX6_guardedFields_36 (by decide) ?_
            refine vs_sub [2, 3, 1, 0] (lv' := [(0, rf G 0), (1, .int w1), (2, .int (v2 + 1)), (3, .int (v3 + 1))]) rfl ?_
            exact ih (v2 + 1) (v3 + 1)
  refine vs_sub [3, 2, 1, 0] (lv' := [(0, rf G 0), (1, .int x1), (2, .int 0), (3, .int 0)]) rfl ?_
  exact L2 x1 200 0 0

def lpX6_guardedFieldsByScarecrows_12  (S : Wo) (w1 : Int32)  : Nat → Int32 → Int32 → Option (Int32)
  | 0, _, _ => none
  | f + 1, v2, v3 => (if S.1 1 1 ≤ v3 then (spJ6_bitCount_0f7a4 v2 S).bind (fun x3 => some x3) else (spX6_has w1 v3 S).bind (fun x4 => (if x4 = 0 then lpX6_guardedFieldsByScarecrows_12  S w1 f v2 (v3 + 1) else (spX4_get 2 10 v3 S).bind (fun x5 => (spX6_fieldsNear x5 S).bind (fun x6 => lpX6_guardedFieldsByScarecrows_12  S w1 f (v2 ||| x6) (v3 + 1))))))
def spX6_guardedFieldsByScarecrows  (S : Wo) : Option (Int32) :=
  (spX5_certifiedNow 1 S).bind (fun x1 => lpX6_guardedFieldsByScarecrows_12  S x1 200 0 0)
set_option maxHeartbeats 4000000 in
set_option maxRecDepth 100000 in
theorem mtX6_guardedFieldsByScarecrows {l : Launch} (hl0 : l.stackTraces = false) {G : Gt}  {S : Wo} : ∀ x, spX6_guardedFieldsByScarecrows  S = some x → MI l yX6_guardedFieldsByScarecrows wsX6_guardedFieldsByScarecrows { frames := 4, cells := 0, slots := 0, locals := 93 } G S [rf G 0] (x, S) 0 0 := by
  refine MIp_of (cc := cX6_guardedFieldsByScarecrows) (own := RX6) (maxL := 4) (ret := (some .int)) (sp := spX6_guardedFieldsByScarecrows  S) (by decide +kernel) rfl rfl (Nat.le_of_ble_eq_true rfl) ?_
  intro p e s m args below meth c X
  have hinX5 : ∀ w ∈ wsX50, w ∈ wsX6_guardedFieldsByScarecrows := by decide +kernel
  have hinX6 : ∀ w ∈ wsX60, w ∈ wsX6_guardedFieldsByScarecrows := by decide +kernel
  show VS G p l e _ s m args below meth c 4 _ _ 0 0 S 0 [(0, rf G 0)] []
  unfold spX6_guardedFieldsByScarecrows
  refine vs_aload_n X dX6_guardedFieldsByScarecrows_0 0 rfl ?_
  refine g_Reg  X hinX6 0 (by decide) (by decide +kernel) rfl rfl dX6_guardedFieldsByScarecrows_1 ?_
  refine vs_callVp X  (As := []) (st' := []) (mtX5_certifiedNow hl0 (by decide)) (cwV 0 X.2.2.2.2.1 gX6_guardedFieldsByScarecrows_X5_certifiedNow rfl rfl rfl (by decide +kernel) ⟨Nat.le_of_ble_eq_true rfl, Nat.le_of_ble_eq_true rfl⟩) (by decide) (by decide) rfl rfl rfl (Nat.le_of_ble_eq_true rfl) dX6_guardedFieldsByScarecrows_4 ⟨Nat.le_of_ble_eq_true rfl, Nat.le_of_ble_eq_true rfl⟩ (fun x1 hx1 => ?_)
  refine vs_istore_n X (lv' := [(1, .int x1), (0, rf G 0)]) dX6_guardedFieldsByScarecrows_7 (by decide) rfl ?_
  refine vs_iconst X (v := 0) dX6_guardedFieldsByScarecrows_8 (by decide) ?_
  refine vs_istore_n X (lv' := [(2, .int 0), (1, .int x1), (0, rf G 0)]) dX6_guardedFieldsByScarecrows_9 (by decide) rfl ?_
  refine vs_iconst X (v := 0) dX6_guardedFieldsByScarecrows_10 (by decide) ?_
  refine vs_istore_n X (lv' := [(3, .int 0), (2, .int 0), (1, .int x1), (0, rf G 0)]) dX6_guardedFieldsByScarecrows_11 (by decide) rfl ?_
  have L2 : ∀ (w1 : Int32) (f : Nat) (v2 : Int32) (v3 : Int32), VS G p l e ({ frames := 4, cells := 0, slots := 0, locals := 93 } : Room) s m args below meth c 4 (fun x => MQ below (QI G (x, S)) args s 0 0 (Af G)) (lpX6_guardedFieldsByScarecrows_12  S w1 f v2 v3) 0 0 S 12 [(0, rf G 0), (1, .int w1), (2, .int v2), (3, .int v3)] [] := by
    intro w1 f
    induction f with
    | zero => intro v2 v3; exact vs_none rfl
    | succ f ih =>
        intro v2 v3
        rw [lpX6_guardedFieldsByScarecrows_12]
        refine vs_iload_n X dX6_guardedFieldsByScarecrows_12 3 rfl ?_
        refine vs_aload_n X dX6_guardedFieldsByScarecrows_13 0 rfl ?_
        refine g_Reg  X hinX6 0 (by decide) (by decide +kernel) rfl rfl dX6_guardedFieldsByScarecrows_14 ?_
        refine gN_St (by decide) (host := "ScarecrowRegistry") X hinX5 1 (by decide) (by decide +kernel) rfl rfl dX6_guardedFieldsByScarecrows_17 ?_
        refine vs_icmp_ge X (tgt := 54) dX6_guardedFieldsByScarecrows_20 (by decide) (fun _ => ?_) (fun _ => ?_)
        · refine vs_iload_n X dX6_guardedFieldsByScarecrows_54 2 rfl ?_
          refine vs_callSp X  (As := [.int v2]) (st' := []) (mtJ6_bitCount_0f7a4 hl0 v2) (va_cwS 1 X.2.2.2.2.1 gX6_guardedFieldsByScarecrows_J6_bitCount_0f7a4 rfl rfl rfl (by decide +kernel) ⟨Nat.le_of_ble_eq_true rfl, Nat.le_of_ble_eq_true rfl⟩) rfl (Nat.le_of_ble_eq_true rfl) dX6_guardedFieldsByScarecrows_55 ⟨Nat.le_of_ble_eq_true rfl, Nat.le_of_ble_eq_true rfl⟩ (fun x3 hx3 => ?_)
          exact vs_iretp X dX6_guardedFieldsByScarecrows_58 (by decide) (by decide)
        · refine vs_iload_n X dX6_guardedFieldsByScarecrows_23 1 rfl ?_
          refine vs_iload_n X dX6_guardedFieldsByScarecrows_24 3 rfl ?_
          refine vs_callSp X  (As := [.int w1, .int v3]) (st' := []) (mtX6_has hl0 w1 v3) (va_cwS 2 X.2.2.2.2.1 gX6_guardedFieldsByScarecrows_X6_has rfl rfl rfl (by decide +kernel) ⟨Nat.le_of_ble_eq_true rfl, Nat.le_of_ble_eq_true rfl⟩) rfl (Nat.le_of_ble_eq_true rfl) dX6_guardedFieldsByScarecrows_25 ⟨Nat.le_of_ble_eq_true rfl, Nat.le_of_ble_eq_true rfl⟩ (fun x4 hx4 => ?_)
          refine vs_if_eq X (tgt := 48) dX6_guardedFieldsByScarecrows_28 (by decide) (fun _ => ?_) (fun _ => ?_)
          · refine vs_iinc X (v := (v3 + 1)) (lv' := [(3, .int (v3 + 1)), (0, rf G 0), (1, .int w1), (2, .int v2)]) dX6_guardedFieldsByScarecrows_48 3 rfl rfl (by decide) rfl ?_
            refine vs_goto X (tgt := 12) dX6_guardedFieldsByScarecrows_51 (by decide) ?_
            refine vs_sub [1, 2, 3, 0] (lv' := [(0, rf G 0), (1, .int w1), (2, .int v2), (3, .int (v3 + 1))]) rfl ?_
            exact ih v2 (v3 + 1)
          · refine vs_iload_n X dX6_guardedFieldsByScarecrows_31 2 rfl ?_
            refine vs_aload_n X dX6_guardedFieldsByScarecrows_32 0 rfl ?_
            refine g_Reg  X hinX6 0 (by decide) (by decide +kernel) rfl rfl dX6_guardedFieldsByScarecrows_33 ?_
            refine gN_St (by decide) (host := "ScarecrowRegistry") X hinX5 0 (by decide) (by decide +kernel) rfl rfl dX6_guardedFieldsByScarecrows_36 ?_
            refine vs_iload_n X dX6_guardedFieldsByScarecrows_39 3 rfl ?_
            refine vs_callVp X  (As := [.int v3]) (st' := [.int v2]) (mtX4_get hl0 (isRow_st (by decide)).1 v3) (cwV 1 X.2.2.2.2.1 gX6_guardedFieldsByScarecrows_X4_get rfl rfl rfl (by decide +kernel) ⟨Nat.le_of_ble_eq_true rfl, Nat.le_of_ble_eq_true rfl⟩) (by decide) (by decide) rfl rfl rfl (Nat.le_of_ble_eq_true rfl) dX6_guardedFieldsByScarecrows_40 ⟨Nat.le_of_ble_eq_true rfl, Nat.le_of_ble_eq_true rfl⟩ (fun x5 hx5 => ?_)
            refine vs_callSp X  (As := [.int x5]) (st' := [.int v2]) (mtX6_fieldsNear hl0 x5) (va_cwS 1 X.2.2.2.2.1 gX6_guardedFieldsByScarecrows_X6_fieldsNear rfl rfl rfl (by decide +kernel) ⟨Nat.le_of_ble_eq_true rfl, Nat.le_of_ble_eq_true rfl⟩) rfl (Nat.le_of_ble_eq_true rfl) dX6_guardedFieldsByScarecrows_43 ⟨Nat.le_of_ble_eq_true rfl, Nat.le_of_ble_eq_true rfl⟩ (fun x6 hx6 => ?_)
            refine vs_ior X dX6_guardedFieldsByScarecrows_46 ?_
            refine vs_istore_n X (lv' := [(2, .int (v2 ||| x6)), (0, rf G 0), (1, .int w1), (3, .int v3)]) dX6_guardedFieldsByScarecrows_47 (by decide) rfl ?_
            refine vs_iinc X (v := (v3 + 1)) (lv' := [(3, .int (v3 + 1)), (2, .int (v2 ||| x6)), (0, rf G 0), (1, .int w1)]) dX6_guardedFieldsByScarecrows_48 3 rfl rfl (by decide) rfl ?_
            refine vs_goto X (tgt := 12) dX6_guardedFieldsByScarecrows_51 (by decide) ?_
            refine vs_sub [2, 3, 1, 0] (lv' := [(0, rf G 0), (1, .int w1), (2, .int (v2 ||| x6)), (3, .int (v3 + 1))]) rfl ?_
            exact ih (v2 ||| x6) (v3 + 1)
  refine vs_sub [3, 2, 1, 0] (lv' := [(0, rf G 0), (1, .int x1), (2, .int 0), (3, .int 0)]) rfl ?_
  exact L2 x1 200 0 0

def lpX6_totalGrains_4  (S : Wo)   : Nat → Int32 → Int32 → Option (Int32)
  | 0, _, _ => none
  | f + 1, v1, v2 => (if (16 : Int32) ≤ v2 then some v1 else (spX4_get 12 16 v2 S).bind (fun x2 => lpX6_totalGrains_4  S f (v1 + x2) (v2 + 1)))
def spX6_totalGrains  (S : Wo) : Option (Int32) :=
  lpX6_totalGrains_4  S 200 0 0
set_option maxHeartbeats 4000000 in
set_option maxRecDepth 100000 in
theorem mtX6_totalGrains {l : Launch} (hl0 : l.stackTraces = false) {G : Gt}  {S : Wo} : ∀ x, spX6_totalGrains  S = some x → MI l yX6_totalGrains wsX6_totalGrains { frames := 1, cells := 0, slots := 0, locals := 21 } G S [rf G 0] (x, S) 0 0 := by
  refine MIp_of (cc := cX6_totalGrains) (own := RX6) (maxL := 3) (ret := (some .int)) (sp := spX6_totalGrains  S) (by decide +kernel) rfl rfl (Nat.le_of_ble_eq_true rfl) ?_
  intro p e s m args below meth c X
  have hinX5 : ∀ w ∈ wsX50, w ∈ wsX6_totalGrains := by decide +kernel
  have hinX6 : ∀ w ∈ wsX60, w ∈ wsX6_totalGrains := by decide +kernel
  show VS G p l e _ s m args below meth c 3 _ _ 0 0 S 0 [(0, rf G 0)] []
  unfold spX6_totalGrains
  refine vs_iconst X (v := 0) dX6_totalGrains_0 (by decide) ?_
  refine vs_istore_n X (lv' := [(1, .int 0), (0, rf G 0)]) dX6_totalGrains_1 (by decide) rfl ?_
  refine vs_iconst X (v := 0) dX6_totalGrains_2 (by decide) ?_
  refine vs_istore_n X (lv' := [(2, .int 0), (1, .int 0), (0, rf G 0)]) dX6_totalGrains_3 (by decide) rfl ?_
  have L1 : ∀ (f : Nat) (v1 : Int32) (v2 : Int32), VS G p l e ({ frames := 1, cells := 0, slots := 0, locals := 21 } : Room) s m args below meth c 3 (fun x => MQ below (QI G (x, S)) args s 0 0 (Af G)) (lpX6_totalGrains_4  S f v1 v2) 0 0 S 4 [(0, rf G 0), (1, .int v1), (2, .int v2)] [] := by
    intro f
    induction f with
    | zero => intro v1 v2; exact vs_none rfl
    | succ f ih =>
        intro v1 v2
        rw [lpX6_totalGrains_4]
        refine vs_iload_n X dX6_totalGrains_4 2 rfl ?_
        refine vs_bipush X (v := 16) dX6_totalGrains_5 (by decide) ?_
        refine vs_icmp_ge X (tgt := 30) dX6_totalGrains_7 (by decide) (fun _ => ?_) (fun _ => ?_)
        · refine vs_iload_n X dX6_totalGrains_30 1 rfl ?_
          exact vs_iretp X dX6_totalGrains_31 (by decide) (by decide)
        · refine vs_iload_n X dX6_totalGrains_10 1 rfl ?_
          refine vs_aload_n X dX6_totalGrains_11 0 rfl ?_
          refine g_Reg  X hinX6 0 (by decide) (by decide +kernel) rfl rfl dX6_totalGrains_12 ?_
          refine gN_St (by decide) (host := "ScarecrowRegistry") X hinX5 8 (by decide) (by decide +kernel) rfl rfl dX6_totalGrains_15 ?_
          refine vs_iload_n X dX6_totalGrains_18 2 rfl ?_
          refine vs_callVp X  (As := [.int v2]) (st' := [.int v1]) (mtX4_get hl0 (isRow_st (by decide)).2.2.2.2.2 v2) (cwV 1 X.2.2.2.2.1 gX6_totalGrains_X4_get rfl rfl rfl (by decide +kernel) ⟨Nat.le_of_ble_eq_true rfl, Nat.le_of_ble_eq_true rfl⟩) (by decide) (by decide) rfl rfl rfl (Nat.le_of_ble_eq_true rfl) dX6_totalGrains_19 ⟨Nat.le_of_ble_eq_true rfl, Nat.le_of_ble_eq_true rfl⟩ (fun x2 hx2 => ?_)
          refine vs_iadd X dX6_totalGrains_22 ?_
          refine vs_istore_n X (lv' := [(1, .int (v1 + x2)), (0, rf G 0), (2, .int v2)]) dX6_totalGrains_23 (by decide) rfl ?_
          refine vs_iinc X (v := (v2 + 1)) (lv' := [(2, .int (v2 + 1)), (1, .int (v1 + x2)), (0, rf G 0)]) dX6_totalGrains_24 2 rfl rfl (by decide) rfl ?_
          refine vs_goto X (tgt := 4) dX6_totalGrains_27 (by decide) ?_
          refine vs_sub [2, 1, 0] (lv' := [(0, rf G 0), (1, .int (v1 + x2)), (2, .int (v2 + 1))]) rfl ?_
          exact ih (v1 + x2) (v2 + 1)
  refine vs_sub [2, 1, 0] (lv' := [(0, rf G 0), (1, .int 0), (2, .int 0)]) rfl ?_
  exact L1 200 0 0

def spX6_eaten  (S : Wo) : Option (Int32) :=
  some (S.1 1 10)
set_option maxHeartbeats 4000000 in
set_option maxRecDepth 100000 in
theorem mtX6_eaten {l : Launch} (hl0 : l.stackTraces = false) {G : Gt}  {S : Wo} : ∀ x, spX6_eaten  S = some x → MI l yX6_eaten wsX6_eaten { frames := 0, cells := 0, slots := 0, locals := 0 } G S [rf G 0] (x, S) 0 0 := by
  refine MIp_of (cc := cX6_eaten) (own := RX6) (maxL := 1) (ret := (some .int)) (sp := spX6_eaten  S) (by decide +kernel) rfl rfl (Nat.le_of_ble_eq_true rfl) ?_
  intro p e s m args below meth c X
  have hinX5 : ∀ w ∈ wsX50, w ∈ wsX6_eaten := by decide +kernel
  have hinX6 : ∀ w ∈ wsX60, w ∈ wsX6_eaten := by decide +kernel
  show VS G p l e _ s m args below meth c 1 _ _ 0 0 S 0 [(0, rf G 0)] []
  unfold spX6_eaten
  refine vs_aload_n X dX6_eaten_0 0 rfl ?_
  refine g_Reg  X hinX6 0 (by decide) (by decide +kernel) rfl rfl dX6_eaten_1 ?_
  refine gN_St (by decide) (host := "ScarecrowRegistry") X hinX5 10 (by decide) (by decide +kernel) rfl rfl dX6_eaten_4 ?_
  exact vs_iretp X dX6_eaten_7 (by decide) (by decide)

def spX6_sown  (S : Wo) : Option (Int32) :=
  some (S.1 1 11)
set_option maxHeartbeats 4000000 in
set_option maxRecDepth 100000 in
theorem mtX6_sown {l : Launch} (hl0 : l.stackTraces = false) {G : Gt}  {S : Wo} : ∀ x, spX6_sown  S = some x → MI l yX6_sown wsX6_sown { frames := 0, cells := 0, slots := 0, locals := 0 } G S [rf G 0] (x, S) 0 0 := by
  refine MIp_of (cc := cX6_sown) (own := RX6) (maxL := 1) (ret := (some .int)) (sp := spX6_sown  S) (by decide +kernel) rfl rfl (Nat.le_of_ble_eq_true rfl) ?_
  intro p e s m args below meth c X
  have hinX5 : ∀ w ∈ wsX50, w ∈ wsX6_sown := by decide +kernel
  have hinX6 : ∀ w ∈ wsX60, w ∈ wsX6_sown := by decide +kernel
  show VS G p l e _ s m args below meth c 1 _ _ 0 0 S 0 [(0, rf G 0)] []
  unfold spX6_sown
  refine vs_aload_n X dX6_sown_0 0 rfl ?_
  refine g_Reg  X hinX6 0 (by decide) (by decide +kernel) rfl rfl dX6_sown_1 ?_
  refine gN_St (by decide) (host := "ScarecrowRegistry") X hinX5 11 (by decide) (by decide +kernel) rfl rfl dX6_sown_4 ?_
  exact vs_iretp X dX6_sown_7 (by decide) (by decide)

def lpX6_meanDaysLeft_24    : Nat → Int32 → Int32 → Wo → Option (Nat × UInt64 × Wo)
  | 0, _, _, _ => none
  | f + 1, v1, v2, S2 => (if S2.1 1 7 ≤ v2 then n64 (FP.ddiv (FP.i2d v1) (FP.i2d (S2.1 1 7))) (fun _ => some (0, (FP.ddiv (FP.i2d v1) (FP.i2d (S2.1 1 7))), S2)) else (spX4_get 10 20 v2 S2).bind (fun x3 => lpX6_meanDaysLeft_24  f (v1 + (x3 - S2.1 1 9)) (v2 + 1) S2))
def spX6_meanDaysLeft  (S : Wo) : Option (Nat × UInt64 × Wo) :=
  (if (0 : Int32) < S.1 1 7 then lpX6_meanDaysLeft_24  200 0 0 S else some (6, 0, S))
set_option maxHeartbeats 4000000 in
set_option maxRecDepth 100000 in
theorem mtX6_meanDaysLeft {l : Launch} (hl0 : l.stackTraces = false) {G : Gt}  {S : Wo} : ∀ rr, spX6_meanDaysLeft  S = some rr → MXD l yX6_meanDaysLeft wsX6_meanDaysLeft { frames := 6, cells := 1, slots := 6, locals := 82 } G S [rf G 0] rr 1 6 := by
  refine MXD_of (cc := cX6_meanDaysLeft) (own := RX6) (maxL := 3) (ret := (some .double)) (sp := spX6_meanDaysLeft  S) (by decide +kernel) rfl rfl (Nat.le_of_ble_eq_true rfl) ?_
  intro p e s m args below meth c X hT
  have hinX5 : ∀ w ∈ wsX50, w ∈ wsX6_meanDaysLeft := by decide +kernel
  have hinX6 : ∀ w ∈ wsX60, w ∈ wsX6_meanDaysLeft := by decide +kernel
  show VS G p l e _ s m args below meth c 3 _ _ 0 0 S 0 [(0, rf G 0)] []
  unfold spX6_meanDaysLeft
  refine vs_aload_n X dX6_meanDaysLeft_0 0 rfl ?_
  refine g_Reg  X hinX6 0 (by decide) (by decide +kernel) rfl rfl dX6_meanDaysLeft_1 ?_
  refine gN_St (by decide) (host := "ScarecrowRegistry") X hinX5 7 (by decide) (by decide +kernel) rfl rfl dX6_meanDaysLeft_4 ?_
  refine vs_if_gt X (tgt := 20) dX6_meanDaysLeft_7 (by decide) (fun _ => ?_) (fun _ => ?_)
  · refine vs_iconst X (v := 0) dX6_meanDaysLeft_20 (by decide) ?_
    refine vs_istore_n X (lv' := [(1, .int 0), (0, rf G 0)]) dX6_meanDaysLeft_21 (by decide) rfl ?_
    refine vs_iconst X (v := 0) dX6_meanDaysLeft_22 (by decide) ?_
    refine vs_istore_n X (lv' := [(2, .int 0), (1, .int 0), (0, rf G 0)]) dX6_meanDaysLeft_23 (by decide) rfl ?_
    have L1 : ∀ (f : Nat) (v1 : Int32) (v2 : Int32) (S2 : Wo), VS G p l e ({ frames := 6, cells := 1, slots := 6, locals := 82 } : Room) s m args below meth c 3 (fun r => vx_MQ below (QxD G r) (QxX G (r.1, 0, r.2.2)) args s 1 6 (Af G)) (lpX6_meanDaysLeft_24  f v1 v2 S2) 0 0 S2 24 [(0, rf G 0), (1, .int v1), (2, .int v2)] [] := by
      intro f
      induction f with
      | zero => intro v1 v2 S2; exact vs_none rfl
      | succ f ih =>
          intro v1 v2 S2
          rw [lpX6_meanDaysLeft_24]
          refine vs_iload_n X dX6_meanDaysLeft_24 2 rfl ?_
          refine vs_aload_n X dX6_meanDaysLeft_25 0 rfl ?_
          refine g_Reg  X hinX6 0 (by decide) (by decide +kernel) rfl rfl dX6_meanDaysLeft_26 ?_
          refine gN_St (by decide) (host := "ScarecrowRegistry") X hinX5 7 (by decide) (by decide +kernel) rfl rfl dX6_meanDaysLeft_29 ?_
          refine vs_icmp_ge X (tgt := 63) dX6_meanDaysLeft_32 (by decide) (fun _ => ?_) (fun _ => ?_)
          · refine vs_iload_n X dX6_meanDaysLeft_63 1 rfl ?_
            refine vs_i2d X dX6_meanDaysLeft_64 ?_
            refine vs_aload_n X dX6_meanDaysLeft_65 0 rfl ?_
            refine g_Reg  X hinX6 0 (by decide) (by decide +kernel) rfl rfl dX6_meanDaysLeft_66 ?_
            refine gN_St (by decide) (host := "ScarecrowRegistry") X hinX5 7 (by decide) (by decide +kernel) rfl rfl dX6_meanDaysLeft_69 ?_
            refine vs_i2d X dX6_meanDaysLeft_72 ?_
            refine vs_ddiv X dX6_meanDaysLeft_73 ?_
            exact vs_xdret X dX6_meanDaysLeft_74 (by decide) (by decide)
          · refine vs_iload_n X dX6_meanDaysLeft_35 1 rfl ?_
            refine vs_aload_n X dX6_meanDaysLeft_36 0 rfl ?_
            refine g_Reg  X hinX6 0 (by decide) (by decide +kernel) rfl rfl dX6_meanDaysLeft_37 ?_
            refine gN_St (by decide) (host := "ScarecrowRegistry") X hinX5 6 (by decide) (by decide +kernel) rfl rfl dX6_meanDaysLeft_40 ?_
            refine vs_iload_n X dX6_meanDaysLeft_43 2 rfl ?_
            refine vs_callVp X  (As := [.int v2]) (st' := [.int v1]) (mtX4_get hl0 (isRow_st (by decide)).2.2.2.2.1 v2) (cwV 1 X.2.2.2.2.1 gX6_meanDaysLeft_X4_get rfl rfl rfl (by decide +kernel) ⟨Nat.le_of_ble_eq_true rfl, Nat.le_of_ble_eq_true rfl⟩) (by decide) (by decide) rfl rfl rfl (Nat.le_of_ble_eq_true rfl) dX6_meanDaysLeft_44 ⟨Nat.le_of_ble_eq_true rfl, Nat.le_of_ble_eq_true rfl⟩ (fun x3 hx3 => ?_)
            refine vs_aload_n X dX6_meanDaysLeft_47 0 rfl ?_
            refine g_Reg  X hinX6 0 (by decide) (by decide +kernel) rfl rfl dX6_meanDaysLeft_48 ?_
            refine gN_St (by decide) (host := "ScarecrowRegistry") X hinX5 9 (by decide) (by decide +kernel) rfl rfl dX6_meanDaysLeft_51 ?_
            refine vs_isub X dX6_meanDaysLeft_54 ?_
            refine vs_iadd X dX6_meanDaysLeft_55 ?_
            refine vs_istore_n X (lv' := [(1, .int (v1 + (x3 - S2.1 1 9))), (0, rf G 0), (2, .int v2)]) dX6_meanDaysLeft_56 (by decide) rfl ?_
            refine vs_iinc X (v := (v2 + 1)) (lv' := [(2, .int (v2 + 1)), (1, .int (v1 + (x3 - S2.1 1 9))), (0, rf G 0)]) dX6_meanDaysLeft_57 2 rfl rfl (by decide) rfl ?_
            refine vs_goto X (tgt := 24) dX6_meanDaysLeft_60 (by decide) ?_
            refine vs_sub [2, 1, 0] (lv' := [(0, rf G 0), (1, .int (v1 + (x3 - S2.1 1 9))), (2, .int (v2 + 1))]) rfl ?_
            exact ih (v1 + (x3 - S2.1 1 9)) (v2 + 1) S2
    refine vs_sub [2, 1, 0] (lv' := [(0, rf G 0), (1, .int 0), (2, .int 0)]) rfl ?_
    exact L1 200 0 0 S
  · exact vs_throwD (names := ["java/lang/RuntimeException", "java/lang/Exception"]) (si := 29) X hl0 hT (by decide) (by decide) (by decide +kernel) (by decide +kernel) (by decide) rfl (fun w h => List.mem_cons_of_mem _ (List.mem_append_left _ (List.mem_append_right _ h))) (by decide +kernel) (X.2.2.2.2.2.2.2.2.2.2.2.2.1.2.1 _ (by decide)) (by decide +kernel) ⟨by decide, rfl⟩ dX6_meanDaysLeft_10 dX6_meanDaysLeft_13 dX6_meanDaysLeft_14 dX6_meanDaysLeft_16 dX6_meanDaysLeft_19 (by decide) (by decide) (by decide) (by decide) (by decide) (by decide)

def spX6_inForceShare  (S : Wo) : Option (Nat × UInt32 × Wo) :=
  (if (0 : Int32) < S.1 1 7 then (spX5_inForceNow 1 S).bind (fun x1 => (spJ6_bitCount_0f7a4 x1 S).bind (fun x2 => n32 (FP.fdiv (FP.i2f x2) (FP.i2f (S.1 1 7))) (fun _ => some (0, (FP.fdiv (FP.i2f x2) (FP.i2f (S.1 1 7))), S)))) else some (6, 0, S))
set_option maxHeartbeats 4000000 in
set_option maxRecDepth 100000 in
theorem mtX6_inForceShare {l : Launch} (hl0 : l.stackTraces = false) {G : Gt}  {S : Wo} : ∀ rr, spX6_inForceShare  S = some rr → MXF l yX6_inForceShare wsX6_inForceShare { frames := 6, cells := 1, slots := 6, locals := 113 } G S [rf G 0] rr 1 6 := by
  refine MXF_of (cc := cX6_inForceShare) (own := RX6) (maxL := 1) (ret := (some .float)) (sp := spX6_inForceShare  S) (by decide +kernel) rfl rfl (Nat.le_of_ble_eq_true rfl) ?_
  intro p e s m args below meth c X hT
  have hinX5 : ∀ w ∈ wsX50, w ∈ wsX6_inForceShare := by decide +kernel
  have hinX6 : ∀ w ∈ wsX60, w ∈ wsX6_inForceShare := by decide +kernel
  show VS G p l e _ s m args below meth c 1 _ _ 0 0 S 0 [(0, rf G 0)] []
  unfold spX6_inForceShare
  refine vs_aload_n X dX6_inForceShare_0 0 rfl ?_
  refine g_Reg  X hinX6 0 (by decide) (by decide +kernel) rfl rfl dX6_inForceShare_1 ?_
  refine gN_St (by decide) (host := "ScarecrowRegistry") X hinX5 7 (by decide) (by decide +kernel) rfl rfl dX6_inForceShare_4 ?_
  refine vs_if_gt X (tgt := 20) dX6_inForceShare_7 (by decide) (fun _ => ?_) (fun _ => ?_)
  · refine vs_aload_n X dX6_inForceShare_20 0 rfl ?_
    refine g_Reg  X hinX6 0 (by decide) (by decide +kernel) rfl rfl dX6_inForceShare_21 ?_
    refine vs_callVp X  (As := []) (st' := []) (mtX5_inForceNow hl0 (by decide)) (cwV 0 X.2.2.2.2.1 gX6_inForceShare_X5_inForceNow rfl rfl rfl (by decide +kernel) ⟨Nat.le_of_ble_eq_true rfl, Nat.le_of_ble_eq_true rfl⟩) (by decide) (by decide) rfl rfl rfl (Nat.le_of_ble_eq_true rfl) dX6_inForceShare_24 ⟨Nat.le_of_ble_eq_true rfl, Nat.le_of_ble_eq_true rfl⟩ (fun x1 hx1 => ?_)
    refine vs_callSp X  (As := [.int x1]) (st' := []) (mtJ6_bitCount_0f7a4 hl0 x1) (va_cwS 1 X.2.2.2.2.1 gX6_inForceShare_J6_bitCount_0f7a4 rfl rfl rfl (by decide +kernel) ⟨Nat.le_of_ble_eq_true rfl, Nat.le_of_ble_eq_true rfl⟩) rfl (Nat.le_of_ble_eq_true rfl) dX6_inForceShare_27 ⟨Nat.le_of_ble_eq_true rfl, Nat.le_of_ble_eq_true rfl⟩ (fun x2 hx2 => ?_)
    refine vs_i2f X dX6_inForceShare_30 ?_
    refine vs_aload_n X dX6_inForceShare_31 0 rfl ?_
    refine g_Reg  X hinX6 0 (by decide) (by decide +kernel) rfl rfl dX6_inForceShare_32 ?_
    refine gN_St (by decide) (host := "ScarecrowRegistry") X hinX5 7 (by decide) (by decide +kernel) rfl rfl dX6_inForceShare_35 ?_
    refine vs_i2f X dX6_inForceShare_38 ?_
    refine vs_fdiv X dX6_inForceShare_39 ?_
    exact vs_xfret X dX6_inForceShare_40 (by decide) (by decide)
  · exact vs_throwF (names := ["java/lang/RuntimeException", "java/lang/Exception"]) (si := 29) X hl0 hT (by decide) (by decide) (by decide +kernel) (by decide +kernel) (by decide) rfl (fun w h => List.mem_cons_of_mem _ (List.mem_append_left _ (List.mem_append_right _ h))) (by decide +kernel) (X.2.2.2.2.2.2.2.2.2.2.2.2.1.2.1 _ (by decide)) (by decide +kernel) ⟨by decide, rfl⟩ dX6_inForceShare_10 dX6_inForceShare_13 dX6_inForceShare_14 dX6_inForceShare_16 dX6_inForceShare_19 (by decide) (by decide) (by decide) (by decide) (by decide) (by decide)

def spX6_feed (p1 : Int32) (S : Wo) : Option (Nat × Int32 × Wo) :=
  (if S.1 159 1 < 60 then bd2 (spX1_append p1 S) (fun x1 S2 => some (0, x1, S2)) else some (5, 0, S))
set_option maxHeartbeats 4000000 in
set_option maxRecDepth 100000 in
theorem mtX6_feed {l : Launch} (hl0 : l.stackTraces = false) {G : Gt} (p1 : Int32) {S : Wo} : ∀ rr, spX6_feed p1 S = some rr → MXI l yX6_feed wsX6_feed { frames := 6, cells := 1, slots := 6, locals := 82 } G S [rf G 0, .int p1] rr 1 6 := by
  refine MXI_of (cc := cX6_feed) (own := RX6) (maxL := 2) (ret := (some .int)) (sp := spX6_feed p1 S) (by decide +kernel) rfl rfl (Nat.le_of_ble_eq_true rfl) ?_
  intro p e s m args below meth c X hT
  have hinX1 : ∀ w ∈ wsX10, w ∈ wsX6_feed := by decide +kernel
  have hinX6 : ∀ w ∈ wsX60, w ∈ wsX6_feed := by decide +kernel
  show VS G p l e _ s m args below meth c 2 _ _ 0 0 S 0 [(0, rf G 0), (1, .int p1)] []
  unfold spX6_feed
  refine vs_aload_n X dX6_feed_0 0 rfl ?_
  refine g_Reg  X hinX6 6 (by decide) (by decide +kernel) rfl rfl dX6_feed_1 ?_
  refine gN_Txt  (host := "ScarecrowRegistry") X hinX1 1 (by decide) (by decide +kernel) rfl rfl dX6_feed_4 ?_
  refine vs_bipush X (v := 60) dX6_feed_7 (by decide) ?_
  refine vs_icmp_lt X (tgt := 22) dX6_feed_9 (by decide) (fun _ => ?_) (fun _ => ?_)
  · refine vs_aload_n X dX6_feed_22 0 rfl ?_
    refine g_Reg  X hinX6 6 (by decide) (by decide +kernel) rfl rfl dX6_feed_23 ?_
    refine vs_iload_n X dX6_feed_26 1 rfl ?_
    refine vs_callVi X  (As := [.int p1]) (st' := []) (mtX1_append hl0 p1) (cwV 1 X.2.2.2.2.1 gX6_feed_X1_append rfl rfl rfl (by decide +kernel) ⟨Nat.le_of_ble_eq_true rfl, Nat.le_of_ble_eq_true rfl⟩) (by decide) (by decide) rfl rfl rfl (Nat.le_of_ble_eq_true rfl) dX6_feed_27 ⟨Nat.le_of_ble_eq_true rfl, Nat.le_of_ble_eq_true rfl⟩ (fun x1 S2 hx1 => ?_)
    exact vs_xiret X dX6_feed_30 (by decide) (by decide)
  · exact vs_throwI (names := ["java/lang/RuntimeException", "java/lang/Exception"]) (si := 30) X hl0 hT (by decide) (by decide) (by decide +kernel) (by decide +kernel) (by decide) rfl (fun w h => List.mem_cons_of_mem _ (List.mem_append_left _ (List.mem_append_right _ h))) (by decide +kernel) (X.2.2.2.2.2.2.2.2.2.2.2.2.1.2.1 _ (by decide)) (by decide +kernel) ⟨by decide, rfl⟩ dX6_feed_12 dX6_feed_15 dX6_feed_16 dX6_feed_18 dX6_feed_21 (by decide) (by decide) (by decide) (by decide) (by decide) (by decide)

def spX6_faultPosition  (S : Wo) : Option (Nat × Int32 × Wo) :=
  (if S.1 0 8 = (-1) then some (3, 0, S) else some (0, S.1 0 8, S))
set_option maxHeartbeats 4000000 in
set_option maxRecDepth 100000 in
theorem mtX6_faultPosition {l : Launch} (hl0 : l.stackTraces = false) {G : Gt}  {S : Wo} : ∀ rr, spX6_faultPosition  S = some rr → MXI l yX6_faultPosition wsX6_faultPosition { frames := 6, cells := 1, slots := 6, locals := 82 } G S [rf G 0] rr 1 6 := by
  refine MXI_of (cc := cX6_faultPosition) (own := RX6) (maxL := 1) (ret := (some .int)) (sp := spX6_faultPosition  S) (by decide +kernel) rfl rfl (Nat.le_of_ble_eq_true rfl) ?_
  intro p e s m args below meth c X hT
  have hinX6 : ∀ w ∈ wsX60, w ∈ wsX6_faultPosition := by decide +kernel
  show VS G p l e _ s m args below meth c 1 _ _ 0 0 S 0 [(0, rf G 0)] []
  unfold spX6_faultPosition
  refine vs_aload_n X dX6_faultPosition_0 0 rfl ?_
  refine g_Reg  X hinX6 8 (by decide) (by decide +kernel) rfl rfl dX6_faultPosition_1 ?_
  refine vs_iconst X (v := (-1)) dX6_faultPosition_4 (by decide) ?_
  refine vs_icmp_ne X (tgt := 18) dX6_faultPosition_5 (by decide) (fun _ => ?_) (fun _ => ?_)
  · exact vs_throwI (names := ["java/lang/RuntimeException", "java/lang/Exception"]) (si := 33) X hl0 hT (by decide) (by decide) (by decide +kernel) (by decide +kernel) (by decide) rfl (fun w h => List.mem_cons_of_mem _ (List.mem_append_right _ h)) (by decide +kernel) (X.2.2.2.2.2.2.2.2.2.2.2.2.1.2.1 _ (by decide)) (by decide +kernel) ⟨by decide, rfl⟩ dX6_faultPosition_8 dX6_faultPosition_11 dX6_faultPosition_12 dX6_faultPosition_14 dX6_faultPosition_17 (by decide) (by decide) (by decide) (by decide) (by decide) (by decide)
  · refine vs_aload_n X dX6_faultPosition_18 0 rfl ?_
    refine g_Reg  X hinX6 8 (by decide) (by decide +kernel) rfl rfl dX6_faultPosition_19 ?_
    exact vs_xiret X dX6_faultPosition_22 (by decide) (by decide)

def spX6_denial  (S : Wo) : Option (Nat × Int32 × Wo) :=
  bx (spX6_requireDenial  S) (fun x1 S2 => some (0, S2.1 0 9, S2))
set_option maxHeartbeats 4000000 in
set_option maxRecDepth 100000 in
theorem mtX6_denial {l : Launch} (hl0 : l.stackTraces = false) {G : Gt}  {S : Wo} : ∀ rr, spX6_denial  S = some rr → MXI l yX6_denial wsX6_denial { frames := 7, cells := 1, slots := 6, locals := 102 } G S [rf G 0] rr 1 6 := by
  refine MXI_of (cc := cX6_denial) (own := RX6) (maxL := 1) (ret := (some .int)) (sp := spX6_denial  S) (by decide +kernel) rfl rfl (Nat.le_of_ble_eq_true rfl) ?_
  intro p e s m args below meth c X hT
  have hinX6 : ∀ w ∈ wsX60, w ∈ wsX6_denial := by decide +kernel
  show VS G p l e _ s m args below meth c 1 _ _ 0 0 S 0 [(0, rf G 0)] []
  unfold spX6_denial
  refine vs_aload_n X dX6_denial_0 0 rfl ?_
  refine vs_callVxvI X hT (As := []) (st' := []) (mtX6_requireDenial hl0 ) (cwV 0 X.2.2.2.2.1 gX6_denial_X6_requireDenial rfl rfl rfl (by decide +kernel) ⟨Nat.le_of_ble_eq_true rfl, Nat.le_of_ble_eq_true rfl⟩) (by decide) (by decide) rfl rfl rfl (Nat.le_of_ble_eq_true rfl) dX6_denial_1 ⟨Nat.le_of_ble_eq_true rfl, Nat.le_of_ble_eq_true rfl⟩ (by decide) (by decide) (fun x1 S2 hS2 => ?_)
  refine vs_aload_n X dX6_denial_4 0 rfl ?_
  refine g_Reg  X hinX6 9 (by decide) (by decide +kernel) rfl rfl dX6_denial_5 ?_
  exact vs_xiret X dX6_denial_8 (by decide) (by decide)

def spX6_denialDetail  (S : Wo) : Option (Nat × Int32 × Wo) :=
  bx (spX6_requireDenial  S) (fun x1 S2 => some (0, S2.1 0 10, S2))
set_option maxHeartbeats 4000000 in
set_option maxRecDepth 100000 in
theorem mtX6_denialDetail {l : Launch} (hl0 : l.stackTraces = false) {G : Gt}  {S : Wo} : ∀ rr, spX6_denialDetail  S = some rr → MXI l yX6_denialDetail wsX6_denialDetail { frames := 7, cells := 1, slots := 6, locals := 102 } G S [rf G 0] rr 1 6 := by
  refine MXI_of (cc := cX6_denialDetail) (own := RX6) (maxL := 1) (ret := (some .int)) (sp := spX6_denialDetail  S) (by decide +kernel) rfl rfl (Nat.le_of_ble_eq_true rfl) ?_
  intro p e s m args below meth c X hT
  have hinX6 : ∀ w ∈ wsX60, w ∈ wsX6_denialDetail := by decide +kernel
  show VS G p l e _ s m args below meth c 1 _ _ 0 0 S 0 [(0, rf G 0)] []
  unfold spX6_denialDetail
  refine vs_aload_n X dX6_denialDetail_0 0 rfl ?_
  refine vs_callVxvI X hT (As := []) (st' := []) (mtX6_requireDenial hl0 ) (cwV 0 X.2.2.2.2.1 gX6_denialDetail_X6_requireDenial rfl rfl rfl (by decide +kernel) ⟨Nat.le_of_ble_eq_true rfl, Nat.le_of_ble_eq_true rfl⟩) (by decide) (by decide) rfl rfl rfl (Nat.le_of_ble_eq_true rfl) dX6_denialDetail_1 ⟨Nat.le_of_ble_eq_true rfl, Nat.le_of_ble_eq_true rfl⟩ (by decide) (by decide) (fun x1 S2 hS2 => ?_)
  refine vs_aload_n X dX6_denialDetail_4 0 rfl ?_
  refine g_Reg  X hinX6 10 (by decide) (by decide +kernel) rfl rfl dX6_denialDetail_5 ?_
  exact vs_xiret X dX6_denialDetail_8 (by decide) (by decide)

def spX6_denialCause  (S : Wo) : Option (Nat × Int32 × Wo) :=
  (if S.1 0 11 = 0 then some (3, 0, S) else some (0, S.1 0 11, S))
set_option maxHeartbeats 4000000 in
set_option maxRecDepth 100000 in
theorem mtX6_denialCause {l : Launch} (hl0 : l.stackTraces = false) {G : Gt}  {S : Wo} : ∀ rr, spX6_denialCause  S = some rr → MXI l yX6_denialCause wsX6_denialCause { frames := 6, cells := 1, slots := 6, locals := 82 } G S [rf G 0] rr 1 6 := by
  refine MXI_of (cc := cX6_denialCause) (own := RX6) (maxL := 1) (ret := (some .int)) (sp := spX6_denialCause  S) (by decide +kernel) rfl rfl (Nat.le_of_ble_eq_true rfl) ?_
  intro p e s m args below meth c X hT
  have hinX6 : ∀ w ∈ wsX60, w ∈ wsX6_denialCause := by decide +kernel
  show VS G p l e _ s m args below meth c 1 _ _ 0 0 S 0 [(0, rf G 0)] []
  unfold spX6_denialCause
  refine vs_aload_n X dX6_denialCause_0 0 rfl ?_
  refine g_Reg  X hinX6 11 (by decide) (by decide +kernel) rfl rfl dX6_denialCause_1 ?_
  refine vs_if_ne X (tgt := 18) dX6_denialCause_4 (by decide) (fun _ => ?_) (fun _ => ?_)
  · exact vs_throwIW (names := ["java/lang/RuntimeException", "java/lang/Exception"]) (si := 35) X hl0 hT (by decide) (by decide) (by decide +kernel) (by decide +kernel) (by decide) rfl (fun w h => List.mem_cons_of_mem _ (List.mem_append_right _ h)) (by decide +kernel) (X.2.2.2.2.2.2.2.2.2.2.2.2.1.2.1 _ (by decide)) (by decide +kernel) ⟨by decide, rfl⟩ dX6_denialCause_7 dX6_denialCause_10 dX6_denialCause_11 dX6_denialCause_14 dX6_denialCause_17 (by decide) (by decide) (by decide) (by decide) (by decide) (by decide)
  · refine vs_aload_n X dX6_denialCause_18 0 rfl ?_
    refine g_Reg  X hinX6 11 (by decide) (by decide +kernel) rfl rfl dX6_denialCause_19 ?_
    exact vs_xiret X dX6_denialCause_22 (by decide) (by decide)

def spX6_undo  (S : Wo) : Option (Nat × Int32 × Wo) :=
  (if (0 : Int32) < S.1 53 2 then bd2 (spX2_takeLatestInto 1 S) (fun x1 S2 => some (0, x1, S2)) else some (5, 0, S))
set_option maxHeartbeats 4000000 in
set_option maxRecDepth 100000 in
theorem mtX6_undo {l : Launch} (hl0 : l.stackTraces = false) {G : Gt}  {S : Wo} : ∀ rr, spX6_undo  S = some rr → MXI l yX6_undo wsX6_undo { frames := 6, cells := 1, slots := 6, locals := 85 } G S [rf G 0] rr 1 6 := by
  refine MXI_of (cc := cX6_undo) (own := RX6) (maxL := 1) (ret := (some .int)) (sp := spX6_undo  S) (by decide +kernel) rfl rfl (Nat.le_of_ble_eq_true rfl) ?_
  intro p e s m args below meth c X hT
  have hinX2 : ∀ w ∈ wsX20, w ∈ wsX6_undo := by decide +kernel
  have hinX6 : ∀ w ∈ wsX60, w ∈ wsX6_undo := by decide +kernel
  show VS G p l e _ s m args below meth c 1 _ _ 0 0 S 0 [(0, rf G 0)] []
  unfold spX6_undo
  refine vs_aload_n X dX6_undo_0 0 rfl ?_
  refine g_Reg  X hinX6 5 (by decide) (by decide +kernel) rfl rfl dX6_undo_1 ?_
  refine gN_His  (host := "ScarecrowRegistry") X hinX2 2 (by decide) (by decide +kernel) rfl rfl dX6_undo_4 ?_
  refine vs_if_gt X (tgt := 21) dX6_undo_7 (by decide) (fun _ => ?_) (fun _ => ?_)
  · refine vs_aload_n X dX6_undo_21 0 rfl ?_
    refine g_Reg  X hinX6 5 (by decide) (by decide +kernel) rfl rfl dX6_undo_22 ?_
    refine vs_aload_n X dX6_undo_25 0 rfl ?_
    refine g_Reg  X hinX6 0 (by decide) (by decide +kernel) rfl rfl dX6_undo_26 ?_
    refine vs_callVi X  (As := [rf G 1]) (st' := []) (mtX2_takeLatestInto hl0 (by decide)) (cwV 1 X.2.2.2.2.1 gX6_undo_X2_takeLatestInto rfl rfl rfl (by decide +kernel) ⟨Nat.le_of_ble_eq_true rfl, Nat.le_of_ble_eq_true rfl⟩) (by decide) (by decide) rfl rfl rfl (Nat.le_of_ble_eq_true rfl) dX6_undo_29 ⟨Nat.le_of_ble_eq_true rfl, Nat.le_of_ble_eq_true rfl⟩ (fun x1 S2 hx1 => ?_)
    exact vs_xiret X dX6_undo_32 (by decide) (by decide)
  · exact vs_throwIW (names := ["java/lang/RuntimeException", "java/lang/Exception"]) (si := 36) X hl0 hT (by decide) (by decide) (by decide +kernel) (by decide +kernel) (by decide) rfl (fun w h => List.mem_cons_of_mem _ (List.mem_append_right _ h)) (by decide +kernel) (X.2.2.2.2.2.2.2.2.2.2.2.2.1.2.1 _ (by decide)) (by decide +kernel) ⟨by decide, rfl⟩ dX6_undo_10 dX6_undo_13 dX6_undo_14 dX6_undo_17 dX6_undo_20 (by decide) (by decide) (by decide) (by decide) (by decide) (by decide)

def spX6_undoCount  (S : Wo) : Option (Int32) :=
  some (S.1 53 2)
set_option maxHeartbeats 4000000 in
set_option maxRecDepth 100000 in
theorem mtX6_undoCount {l : Launch} (hl0 : l.stackTraces = false) {G : Gt}  {S : Wo} : ∀ x, spX6_undoCount  S = some x → MI l yX6_undoCount wsX6_undoCount { frames := 0, cells := 0, slots := 0, locals := 0 } G S [rf G 0] (x, S) 0 0 := by
  refine MIp_of (cc := cX6_undoCount) (own := RX6) (maxL := 1) (ret := (some .int)) (sp := spX6_undoCount  S) (by decide +kernel) rfl rfl (Nat.le_of_ble_eq_true rfl) ?_
  intro p e s m args below meth c X
  have hinX2 : ∀ w ∈ wsX20, w ∈ wsX6_undoCount := by decide +kernel
  have hinX6 : ∀ w ∈ wsX60, w ∈ wsX6_undoCount := by decide +kernel
  show VS G p l e _ s m args below meth c 1 _ _ 0 0 S 0 [(0, rf G 0)] []
  unfold spX6_undoCount
  refine vs_aload_n X dX6_undoCount_0 0 rfl ?_
  refine g_Reg  X hinX6 5 (by decide) (by decide +kernel) rfl rfl dX6_undoCount_1 ?_
  refine gN_His  (host := "ScarecrowRegistry") X hinX2 2 (by decide) (by decide +kernel) rfl rfl dX6_undoCount_4 ?_
  exact vs_iretp X dX6_undoCount_7 (by decide) (by decide)

def spX6_saveSnapshot  (S : Wo) : Option (Int32 × Wo) :=
  (spX5_copyFrom 40 1 S).bind (fun S1 => wr (pI S1 0 4 1) (fun S2 => some (S2.1 1 1, S2)))
set_option maxHeartbeats 4000000 in
set_option maxRecDepth 100000 in
theorem mtX6_saveSnapshot {l : Launch} (hl0 : l.stackTraces = false) {G : Gt}  {S : Wo} : ∀ rr, spX6_saveSnapshot  S = some rr → MI l yX6_saveSnapshot wsX6_saveSnapshot { frames := 3, cells := 0, slots := 0, locals := 63 } G S [rf G 0] rr 0 0 := by
  refine MI_of (cc := cX6_saveSnapshot) (own := RX6) (maxL := 1) (ret := (some .int)) (sp := spX6_saveSnapshot  S) (by decide +kernel) rfl rfl (Nat.le_of_ble_eq_true rfl) ?_
  intro p e s m args below meth c X
  have hinX5 : ∀ w ∈ wsX50, w ∈ wsX6_saveSnapshot := by decide +kernel
  have hinX6 : ∀ w ∈ wsX60, w ∈ wsX6_saveSnapshot := by decide +kernel
  show VS G p l e _ s m args below meth c 1 _ _ 0 0 S 0 [(0, rf G 0)] []
  unfold spX6_saveSnapshot
  refine vs_aload_n X dX6_saveSnapshot_0 0 rfl ?_
  refine g_Reg  X hinX6 3 (by decide) (by decide +kernel) rfl rfl dX6_saveSnapshot_1 ?_
  refine vs_aload_n X dX6_saveSnapshot_4 0 rfl ?_
  refine g_Reg  X hinX6 0 (by decide) (by decide +kernel) rfl rfl dX6_saveSnapshot_5 ?_
  refine vs_callVv X  (As := [rf G 1]) (st' := []) (mtX5_copyFrom hl0 (by decide) (by decide)) (cwV 1 X.2.2.2.2.1 gX6_saveSnapshot_X5_copyFrom rfl rfl rfl (by decide +kernel) ⟨Nat.le_of_ble_eq_true rfl, Nat.le_of_ble_eq_true rfl⟩) (by decide) (by decide) rfl rfl rfl (Nat.le_of_ble_eq_true rfl) dX6_saveSnapshot_8 ⟨Nat.le_of_ble_eq_true rfl, Nat.le_of_ble_eq_true rfl⟩ (fun S1 hS1 => ?_)
  refine vs_aload_n X dX6_saveSnapshot_11 0 rfl ?_
  refine vs_iconst X (v := 1) dX6_saveSnapshot_12 (by decide) ?_
  refine p_Reg  X hinX6 4 (by decide) (by decide +kernel) rfl rfl rfl (by decide) (by decide) rfl dX6_saveSnapshot_13 (fun S2 hS2 => ?_)
  refine vs_aload_n X dX6_saveSnapshot_16 0 rfl ?_
  refine g_Reg  X hinX6 0 (by decide) (by decide +kernel) rfl rfl dX6_saveSnapshot_17 ?_
  refine gN_St (by decide) (host := "ScarecrowRegistry") X hinX5 1 (by decide) (by decide +kernel) rfl rfl dX6_saveSnapshot_20 ?_
  exact vs_iret X dX6_saveSnapshot_23 (by decide) (by decide)

def spX6_restoreSnapshot  (S : Wo) : Option (Nat × Int32 × Wo) :=
  (if S.1 0 4 = 0 then some (5, 0, S) else (spX5_copyFrom 1 40 S).bind (fun S1 => (spX2_forgetAll  S1).bind (fun S2 => some (0, S2.1 1 1, S2))))
set_option maxHeartbeats 4000000 in
set_option maxRecDepth 100000 in
theorem mtX6_restoreSnapshot {l : Launch} (hl0 : l.stackTraces = false) {G : Gt}  {S : Wo} : ∀ rr, spX6_restoreSnapshot  S = some rr → MXI l yX6_restoreSnapshot wsX6_restoreSnapshot { frames := 6, cells := 1, slots := 6, locals := 82 } G S [rf G 0] rr 1 6 := by
  refine MXI_of (cc := cX6_restoreSnapshot) (own := RX6) (maxL := 1) (ret := (some .int)) (sp := spX6_restoreSnapshot  S) (by decide +kernel) rfl rfl (Nat.le_of_ble_eq_true rfl) ?_
  intro p e s m args below meth c X hT
  have hinX5 : ∀ w ∈ wsX50, w ∈ wsX6_restoreSnapshot := by decide +kernel
  have hinX6 : ∀ w ∈ wsX60, w ∈ wsX6_restoreSnapshot := by decide +kernel
  show VS G p l e _ s m args below meth c 1 _ _ 0 0 S 0 [(0, rf G 0)] []
  unfold spX6_restoreSnapshot
  refine vs_aload_n X dX6_restoreSnapshot_0 0 rfl ?_
  refine g_Reg  X hinX6 4 (by decide) (by decide +kernel) rfl rfl dX6_restoreSnapshot_1 ?_
  refine vs_if_ne X (tgt := 18) dX6_restoreSnapshot_4 (by decide) (fun _ => ?_) (fun _ => ?_)
  · exact vs_throwIW (names := ["java/lang/RuntimeException", "java/lang/Exception"]) (si := 37) X hl0 hT (by decide) (by decide) (by decide +kernel) (by decide +kernel) (by decide) rfl (fun w h => List.mem_cons_of_mem _ (List.mem_append_right _ h)) (by decide +kernel) (X.2.2.2.2.2.2.2.2.2.2.2.2.1.2.1 _ (by decide)) (by decide +kernel) ⟨by decide, rfl⟩ dX6_restoreSnapshot_7 dX6_restoreSnapshot_10 dX6_restoreSnapshot_11 dX6_restoreSnapshot_14 dX6_restoreSnapshot_17 (by decide) (by decide) (by decide) (by decide) (by decide) (by decide)
  · refine vs_aload_n X dX6_restoreSnapshot_18 0 rfl ?_
    refine g_Reg  X hinX6 0 (by decide) (by decide +kernel) rfl rfl dX6_restoreSnapshot_19 ?_
    refine vs_aload_n X dX6_restoreSnapshot_22 0 rfl ?_
    refine g_Reg  X hinX6 3 (by decide) (by decide +kernel) rfl rfl dX6_restoreSnapshot_23 ?_
    refine vs_callVv X  (As := [rf G 40]) (st' := []) (mtX5_copyFrom hl0 (by decide) (by decide)) (cwV 1 X.2.2.2.2.1 gX6_restoreSnapshot_X5_copyFrom rfl rfl rfl (by decide +kernel) ⟨Nat.le_of_ble_eq_true rfl, Nat.le_of_ble_eq_true rfl⟩) (by decide) (by decide) rfl rfl rfl (Nat.le_of_ble_eq_true rfl) dX6_restoreSnapshot_26 ⟨Nat.le_of_ble_eq_true rfl, Nat.le_of_ble_eq_true rfl⟩ (fun S1 hS1 => ?_)
    refine vs_aload_n X dX6_restoreSnapshot_29 0 rfl ?_
    refine g_Reg  X hinX6 5 (by decide) (by decide +kernel) rfl rfl dX6_restoreSnapshot_30 ?_
    refine vs_callVv X  (As := []) (st' := []) (mtX2_forgetAll hl0 ) (cwV 0 X.2.2.2.2.1 gX6_restoreSnapshot_X2_forgetAll rfl rfl rfl (by decide +kernel) ⟨Nat.le_of_ble_eq_true rfl, Nat.le_of_ble_eq_true rfl⟩) (by decide) (by decide) rfl rfl rfl (Nat.le_of_ble_eq_true rfl) dX6_restoreSnapshot_33 ⟨Nat.le_of_ble_eq_true rfl, Nat.le_of_ble_eq_true rfl⟩ (fun S2 hS2 => ?_)
    refine vs_aload_n X dX6_restoreSnapshot_36 0 rfl ?_
    refine g_Reg  X hinX6 0 (by decide) (by decide +kernel) rfl rfl dX6_restoreSnapshot_37 ?_
    refine gN_St (by decide) (host := "ScarecrowRegistry") X hinX5 1 (by decide) (by decide +kernel) rfl rfl dX6_restoreSnapshot_40 ?_
    exact vs_xiret X dX6_restoreSnapshot_43 (by decide) (by decide)

def spJx29ce0_ordinal_8abf5 (j : Nat) (S : Wo) : Option (Int32) :=
  (if j < 9 then some (nI j) else none)
set_option maxHeartbeats 4000000 in
set_option maxRecDepth 100000 in
theorem mtJx29ce0_ordinal_8abf5 {l : Launch} (hl0 : l.stackTraces = false) {G : Gt} {j : Nat} {S : Wo} : ∀ x, spJx29ce0_ordinal_8abf5 j S = some x → MI l yJx29ce0_ordinal_8abf5 wsJx29ce0_ordinal_8abf5 { frames := 0, cells := 0, slots := 0, locals := 0 } G S [.ref (adK G j)] (x, S) 0 0 := by
  refine MIpF_of (cc := cJx29ce0_ordinal_8abf5) (own := RJx29ce0) (maxL := 1) (ret := (some .int)) (sp := spJx29ce0_ordinal_8abf5 j S) (by decide +kernel) rfl rfl (Nat.le_of_ble_eq_true rfl) ?_
  intro p e s m args below meth c X
  show VS G p l e _ s m args below meth c 1 _ _ 0 0 S 0 [(0, .ref (adK G j))] []
  unfold spJx29ce0_ordinal_8abf5
  refine vs_aload_n X dJx29ce0_ordinal_8abf5_0 0 rfl ?_
  refine vs_ord X (by decide +kernel) dJx29ce0_ordinal_8abf5_1 ?_
  exact vs_iretp X dJx29ce0_ordinal_8abf5_4 (by decide) (by decide)

def spX6_runCommand  (S : Wo) : Option (Int32 × Wo) :=
  (spX4_get 162 3 0 S).bind (fun x1 => (spX4_get 162 3 1 S).bind (fun x2 => (spX4_get 162 3 2 S).bind (fun x3 => (if S.2.2.1.1 < 9 then (spJx29ce0_ordinal_8abf5 S.2.2.1.1 S).bind (fun x4 => (if inb x4 9 = true then (if (nI (ix x4 + 1)) = 1 then bd2 (spX6_putScarecrow x1 S) (fun x6 S7 => some (x6, S7)) else (if (nI (ix x4 + 1)) = 2 then bd2 (spX6_moveScarecrow x1 x2 S) (fun x9 S10 => some (x9, S10)) else (if (nI (ix x4 + 1)) = 3 then bd2 (spX6_revokeOrRestore x1 1 S) (fun x12 S13 => some (x12, S13)) else (if (nI (ix x4 + 1)) = 4 then bd2 (spX6_revokeOrRestore x1 0 S) (fun x15 S16 => some (x15, S16)) else (if (nI (ix x4 + 1)) = 5 then bd2 (spX6_certifyByRegistry x1 x2 S) (fun x18 S19 => some (x18, S19)) else (if (nI (ix x4 + 1)) = 6 then bd2 (spX6_certifyByScarecrow x1 x2 x3 S) (fun x21 S22 => some (x21, S22)) else (if (nI (ix x4 + 1)) = 7 then bd2 (spX6_dropCertificate x1 S) (fun x24 S25 => some (x24, S25)) else (if (nI (ix x4 + 1)) = 8 then bd2 (spX6_putGrains x1 x2 S) (fun x27 S28 => some (x27, S28)) else (if (nI (ix x4 + 1)) = 9 then bd2 (spX6_passDays x1 S) (fun x30 S31 => some (x30, S31)) else some ((-2), S)))))))))) else none)) else none))))
set_option maxHeartbeats 4000000 in
set_option maxRecDepth 100000 in
theorem mtX6_runCommand {l : Launch} (hl0 : l.stackTraces = false) {G : Gt}  {S : Wo} : ∀ rr, spX6_runCommand  S = some rr → MI l yX6_runCommand wsX6_runCommand { frames := 5, cells := 0, slots := 0, locals := 119 } G S [rf G 0] rr 0 0 := by
  refine MI_of (cc := cX6_runCommand) (own := RX6) (maxL := 4) (ret := (some .int)) (sp := spX6_runCommand  S) (by decide +kernel) rfl rfl (Nat.le_of_ble_eq_true rfl) ?_
  intro p e s m args below meth c X
  have hinX1 : ∀ w ∈ wsX10, w ∈ wsX6_runCommand := by decide +kernel
  have hinX6 : ∀ w ∈ wsX60, w ∈ wsX6_runCommand := by decide +kernel
  show VS G p l e _ s m args below meth c 4 _ _ 0 0 S 0 [(0, rf G 0)] []
  unfold spX6_runCommand
  refine vs_aload_n X dX6_runCommand_0 0 rfl ?_
  refine g_Reg  X hinX6 6 (by decide) (by decide +kernel) rfl rfl dX6_runCommand_1 ?_
  refine gN_Txt  (host := "ScarecrowRegistry") X hinX1 4 (by decide) (by decide +kernel) rfl rfl dX6_runCommand_4 ?_
  refine vs_iconst X (v := 0) dX6_runCommand_7 (by decide) ?_
  refine vs_callVp X  (As := [.int 0]) (st' := []) (mtX4_get hl0 isRow_pars 0) (cwV 1 X.2.2.2.2.1 gX6_runCommand_X4_get rfl rfl rfl (by decide +kernel) ⟨Nat.le_of_ble_eq_true rfl, Nat.le_of_ble_eq_true rfl⟩) (by decide) (by decide) rfl rfl rfl (Nat.le_of_ble_eq_true rfl) dX6_runCommand_8 ⟨Nat.le_of_ble_eq_true rfl, Nat.le_of_ble_eq_true rfl⟩ (fun x1 hx1 => ?_)
  refine vs_istore_n X (lv' := [(1, .int x1), (0, rf G 0)]) dX6_runCommand_11 (by decide) rfl ?_
  refine vs_aload_n X dX6_runCommand_12 1 rfl ?_
  refine g_Reg  X hinX6 6 (by decide) (by decide +kernel) rfl rfl dX6_runCommand_13 ?_
  refine gN_Txt  (host := "ScarecrowRegistry") X hinX1 4 (by decide) (by decide +kernel) rfl rfl dX6_runCommand_16 ?_
  refine vs_iconst X (v := 1) dX6_runCommand_19 (by decide) ?_
  refine vs_callVp X  (As := [.int 1]) (st' := []) (mtX4_get hl0 isRow_pars 1) (cwV 1 X.2.2.2.2.1 gX6_runCommand_X4_get rfl rfl rfl (by decide +kernel) ⟨Nat.le_of_ble_eq_true rfl, Nat.le_of_ble_eq_true rfl⟩) (by decide) (by decide) rfl rfl rfl (Nat.le_of_ble_eq_true rfl) dX6_runCommand_20 ⟨Nat.le_of_ble_eq_true rfl, Nat.le_of_ble_eq_true rfl⟩ (fun x2 hx2 => ?_)
  refine vs_istore_n X (lv' := [(2, .int x2), (1, .int x1), (0, rf G 0)]) dX6_runCommand_23 (by decide) rfl ?_
  refine vs_aload_n X dX6_runCommand_24 2 rfl ?_
  refine g_Reg  X hinX6 6 (by decide) (by decide +kernel) rfl rfl dX6_runCommand_25 ?_
  refine gN_Txt  (host := "ScarecrowRegistry") X hinX1 4 (by decide) (by decide +kernel) rfl rfl dX6_runCommand_28 ?_
  refine vs_iconst X (v := 2) dX6_runCommand_31 (by decide) ?_
  refine vs_callVp X  (As := [.int 2]) (st' := []) (mtX4_get hl0 isRow_pars 2) (cwV 1 X.2.2.2.2.1 gX6_runCommand_X4_get rfl rfl rfl (by decide +kernel) ⟨Nat.le_of_ble_eq_true rfl, Nat.le_of_ble_eq_true rfl⟩) (by decide) (by decide) rfl rfl rfl (Nat.le_of_ble_eq_true rfl) dX6_runCommand_32 ⟨Nat.le_of_ble_eq_true rfl, Nat.le_of_ble_eq_true rfl⟩ (fun x3 hx3 => ?_)
  refine vs_istore_n X (lv' := [(3, .int x3), (2, .int x2), (1, .int x1), (0, rf G 0)]) dX6_runCommand_35 (by decide) rfl ?_
  refine vs_getsM X (by decide +kernel) dX6_runCommand_36 ?_
  refine vs_aload_n X dX6_runCommand_39 3 rfl ?_
  refine g_Reg  X hinX6 6 (by decide) (by decide +kernel) rfl rfl dX6_runCommand_40 ?_
  refine gN_Txt  (host := "ScarecrowRegistry") X hinX1 3 (by decide) (by decide +kernel) rfl rfl dX6_runCommand_43 ?_
  refine vs_callKp (j := S.2.2.1.1) X (As := []) (st' := [.ref (tad G 1)]) (mtJx29ce0_ordinal_8abf5 hl0) (va_cwU 0 X.2.2.2.2.1 gX6_runCommand_Jx29ce0_ordinal_8abf5_u346X3 rfl rfl rfl rfl (by decide +kernel) ⟨Nat.le_of_ble_eq_true rfl, Nat.le_of_ble_eq_true rfl⟩) rfl (Nat.le_of_ble_eq_true rfl) dX6_runCommand_46 ⟨Nat.le_of_ble_eq_true rfl, Nat.le_of_ble_eq_true rfl⟩ (fun x4 hx4 => ?_)
  refine vs_ialdM X dX6_runCommand_49 ?_
  refine vs_tab X (v := 1) (off := 50) (tgt := 100) dX6_runCommand_50 (by decide) (by decide) (by decide) (by decide) (fun _ => ?_) (fun n5 => ?_)
  · refine vs_aload_n X dX6_runCommand_100 3 rfl ?_
    refine vs_iload_n X dX6_runCommand_101 2 rfl ?_
    refine vs_callVi X  (As := [.int x1]) (st' := []) (mtX6_putScarecrow hl0 x1) (cwV 1 X.2.2.2.2.1 gX6_runCommand_X6_putScarecrow rfl rfl rfl (by decide +kernel) ⟨Nat.le_of_ble_eq_true rfl, Nat.le_of_ble_eq_true rfl⟩) (by decide) (by decide) rfl rfl rfl (Nat.le_of_ble_eq_true rfl) dX6_runCommand_102 ⟨Nat.le_of_ble_eq_true rfl, Nat.le_of_ble_eq_true rfl⟩ (fun x6 S7 hx6 => ?_)
    exact vs_iret X dX6_runCommand_105 (by decide) (by decide)
  refine vs_tab X (v := 2) (off := 56) (tgt := 106) dX6_runCommand_50 (by decide) (by decide) (by decide) (by decide) (fun _ => ?_) (fun n8 => ?_)
  · refine vs_aload_n X dX6_runCommand_106 3 rfl ?_
    refine vs_iload_n X dX6_runCommand_107 2 rfl ?_
    refine vs_iload_n X dX6_runCommand_108 1 rfl ?_
    refine vs_callVi X  (As := [.int x1, .int x2]) (st' := []) (mtX6_moveScarecrow hl0 x1 x2) (cwV 2 X.2.2.2.2.1 gX6_runCommand_X6_moveScarecrow rfl rfl rfl (by decide +kernel) ⟨Nat.le_of_ble_eq_true rfl, Nat.le_of_ble_eq_true rfl⟩) (by decide) (by decide) rfl rfl rfl (Nat.le_of_ble_eq_true rfl) dX6_runCommand_109 ⟨Nat.le_of_ble_eq_true rfl, Nat.le_of_ble_eq_true rfl⟩ (fun x9 S10 hx9 => ?_)
    exact vs_iret X dX6_runCommand_112 (by decide) (by decide)
  refine vs_tab X (v := 3) (off := 63) (tgt := 113) dX6_runCommand_50 (by decide) (by decide) (by decide) (by decide) (fun _ => ?_) (fun n11 => ?_)
  · refine vs_aload_n X dX6_runCommand_113 3 rfl ?_
    refine vs_iload_n X dX6_runCommand_114 2 rfl ?_
    refine vs_iconst X (v := 1) dX6_runCommand_115 (by decide) ?_
    refine vs_callVi X  (As := [.int x1, .int 1]) (st' := []) (mtX6_revokeOrRestore hl0 x1 1) (cwV 2 X.2.2.2.2.1 gX6_runCommand_X6_revokeOrRestore rfl rfl rfl (by decide +kernel) ⟨Nat.le_of_ble_eq_true rfl, Nat.le_of_ble_eq_true rfl⟩) (by decide) (by decide) rfl rfl rfl (Nat.le_of_ble_eq_true rfl) dX6_runCommand_116 ⟨Nat.le_of_ble_eq_true rfl, Nat.le_of_ble_eq_true rfl⟩ (fun x12 S13 hx12 => ?_)
    exact vs_iret X dX6_runCommand_119 (by decide) (by decide)
  refine vs_tab X (v := 4) (off := 70) (tgt := 120) dX6_runCommand_50 (by decide) (by decide) (by decide) (by decide) (fun _ => ?_) (fun n14 => ?_)
  · refine vs_aload_n X dX6_runCommand_120 3 rfl ?_
    refine vs_iload_n X dX6_runCommand_121 2 rfl ?_
    refine vs_iconst X (v := 0) dX6_runCommand_122 (by decide) ?_
    refine vs_callVi X  (As := [.int x1, .int 0]) (st' := []) (mtX6_revokeOrRestore hl0 x1 0) (cwV 2 X.2.2.2.2.1 gX6_runCommand_X6_revokeOrRestore rfl rfl rfl (by decide +kernel) ⟨Nat.le_of_ble_eq_true rfl, Nat.le_of_ble_eq_true rfl⟩) (by decide) (by decide) rfl rfl rfl (Nat.le_of_ble_eq_true rfl) dX6_runCommand_123 ⟨Nat.le_of_ble_eq_true rfl, Nat.le_of_ble_eq_true rfl⟩ (fun x15 S16 hx15 => ?_)
    exact vs_iret X dX6_runCommand_126 (by decide) (by decide)
  refine vs_tab X (v := 5) (off := 77) (tgt := 127) dX6_runCommand_50 (by decide) (by decide) (by decide) (by decide) (fun _ => ?_) (fun n17 => ?_)
  · refine vs_aload_n X dX6_runCommand_127 3 rfl ?_
    refine vs_iload_n X dX6_runCommand_128 2 rfl ?_
    refine vs_iload_n X dX6_runCommand_129 1 rfl ?_
    refine vs_callVi X  (As := [.int x1, .int x2]) (st' := []) (mtX6_certifyByRegistry hl0 x1 x2) (cwV 2 X.2.2.2.2.1 gX6_runCommand_X6_certifyByRegistry rfl rfl rfl (by decide +kernel) ⟨Nat.le_of_ble_eq_true rfl, Nat.le_of_ble_eq_true rfl⟩) (by decide) (by decide) rfl rfl rfl (Nat.le_of_ble_eq_true rfl) dX6_runCommand_130 ⟨Nat.le_of_ble_eq_true rfl, Nat.le_of_ble_eq_true rfl⟩ (fun x18 S19 hx18 => ?_)
    exact vs_iret X dX6_runCommand_133 (by decide) (by decide)
  refine vs_tab X (v := 6) (off := 84) (tgt := 134) dX6_runCommand_50 (by decide) (by decide) (by decide) (by decide) (fun _ => ?_) (fun n20 => ?_)
  · refine vs_aload_n X dX6_runCommand_134 3 rfl ?_
    refine vs_iload_n X dX6_runCommand_135 2 rfl ?_
    refine vs_iload_n X dX6_runCommand_136 1 rfl ?_
    refine vs_iload_n X dX6_runCommand_137 0 rfl ?_
    refine vs_callVi X  (As := [.int x1, .int x2, .int x3]) (st' := []) (mtX6_certifyByScarecrow hl0 x1 x2 x3) (cwV 3 X.2.2.2.2.1 gX6_runCommand_X6_certifyByScarecrow rfl rfl rfl (by decide +kernel) ⟨Nat.le_of_ble_eq_true rfl, Nat.le_of_ble_eq_true rfl⟩) (by decide) (by decide) rfl rfl rfl (Nat.le_of_ble_eq_true rfl) dX6_runCommand_138 ⟨Nat.le_of_ble_eq_true rfl, Nat.le_of_ble_eq_true rfl⟩ (fun x21 S22 hx21 => ?_)
    exact vs_iret X dX6_runCommand_141 (by decide) (by decide)
  refine vs_tab X (v := 7) (off := 92) (tgt := 142) dX6_runCommand_50 (by decide) (by decide) (by decide) (by decide) (fun _ => ?_) (fun n23 => ?_)
  · refine vs_aload_n X dX6_runCommand_142 3 rfl ?_
    refine vs_iload_n X dX6_runCommand_143 2 rfl ?_
    refine vs_callVi X  (As := [.int x1]) (st' := []) (mtX6_dropCertificate hl0 x1) (cwV 1 X.2.2.2.2.1 gX6_runCommand_X6_dropCertificate rfl rfl rfl (by decide +kernel) ⟨Nat.le_of_ble_eq_true rfl, Nat.le_of_ble_eq_true rfl⟩) (by decide) (by decide) rfl rfl rfl (Nat.le_of_ble_eq_true rfl) dX6_runCommand_144 ⟨Nat.le_of_ble_eq_true rfl, Nat.le_of_ble_eq_true rfl⟩ (fun x24 S25 hx24 => ?_)
    exact vs_iret X dX6_runCommand_147 (by decide) (by decide)
  refine vs_tab X (v := 8) (off := 98) (tgt := 148) dX6_runCommand_50 (by decide) (by decide) (by decide) (by decide) (fun _ => ?_) (fun n26 => ?_)
  · refine vs_aload_n X dX6_runCommand_148 3 rfl ?_
    refine vs_iload_n X dX6_runCommand_149 2 rfl ?_
    refine vs_iload_n X dX6_runCommand_150 1 rfl ?_
    refine vs_callVi X  (As := [.int x1, .int x2]) (st' := []) (mtX6_putGrains hl0 x1 x2) (cwV 2 X.2.2.2.2.1 gX6_runCommand_X6_putGrains rfl rfl rfl (by decide +kernel) ⟨Nat.le_of_ble_eq_true rfl, Nat.le_of_ble_eq_true rfl⟩) (by decide) (by decide) rfl rfl rfl (Nat.le_of_ble_eq_true rfl) dX6_runCommand_151 ⟨Nat.le_of_ble_eq_true rfl, Nat.le_of_ble_eq_true rfl⟩ (fun x27 S28 hx27 => ?_)
    exact vs_iret X dX6_runCommand_154 (by decide) (by decide)
  refine vs_tab X (v := 9) (off := 105) (tgt := 155) dX6_runCommand_50 (by decide) (by decide) (by decide) (by decide) (fun _ => ?_) (fun n29 => ?_)
  · refine vs_aload_n X dX6_runCommand_155 3 rfl ?_
    refine vs_iload_n X dX6_runCommand_156 2 rfl ?_
    refine vs_callVi X  (As := [.int x1]) (st' := []) (mtX6_passDays hl0 x1) (cwV 1 X.2.2.2.2.1 gX6_runCommand_X6_passDays rfl rfl rfl (by decide +kernel) ⟨Nat.le_of_ble_eq_true rfl, Nat.le_of_ble_eq_true rfl⟩) (by decide) (by decide) rfl rfl rfl (Nat.le_of_ble_eq_true rfl) dX6_runCommand_157 ⟨Nat.le_of_ble_eq_true rfl, Nat.le_of_ble_eq_true rfl⟩ (fun x30 S31 hx30 => ?_)
    exact vs_iret X dX6_runCommand_160 (by decide) (by decide)
  refine vs_tabD X (tgt := 161) dX6_runCommand_50 (tab_out [1, 2, 3, 4, 5, 6, 7, 8, 9] ⟨n5, n8, n11, n14, n17, n20, n23, n26, n29, trivial⟩ (by decide)) (by decide) ?_
  refine vs_bipush X (v := (-2)) dX6_runCommand_161 (by decide) ?_
  exact vs_iret X dX6_runCommand_163 (by decide) (by decide)

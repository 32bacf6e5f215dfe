def spX1_append (p1 : Int32) (S : Wo) : Option (Int32 × Wo) :=
  (spX4_set 160 60 (S.1 159 1) p1 S).bind (fun S1 => wr (pI S1 159 1 (S1.1 159 1 + 1)) (fun S2 => some (S2.1 159 1, S2)))
set_option maxHeartbeats 4000000 in
set_option maxRecDepth 100000 in
theorem mtX1_append {l : Launch} (hl0 : l.stackTraces = false) {G : Gt} (p1 : Int32) {S : Wo} : ∀ rr, spX1_append p1 S = some rr → MI l yX1_append wsX1_append { frames := 1, cells := 0, slots := 0, locals := 22 } G S [rf G 159, .int p1] rr 0 0 := by
  refine MI_of (cc := cX1_append) (own := RX1) (maxL := 2) (ret := (some .int)) (sp := spX1_append p1 S) (by decide +kernel) rfl rfl (Nat.le_of_ble_eq_true rfl) ?_
  intro p e s m args below meth c X
  have hinX1 : ∀ w ∈ wsX10, w ∈ wsX1_append := by decide +kernel
  show VS G p l e _ s m args below meth c 2 _ _ 0 0 S 0 [(0, rf G 159), (1, .int p1)] []
  unfold spX1_append
  refine vs_aload_n X dX1_append_0 0 rfl ?_
  refine g_Txt  X hinX1 0 (by decide) (by decide +kernel) rfl rfl dX1_append_1 ?_
  refine vs_aload_n X dX1_append_4 0 rfl ?_
  refine g_Txt  X hinX1 1 (by decide) (by decide +kernel) rfl rfl dX1_append_5 ?_
  refine vs_iload_n X dX1_append_8 1 rfl ?_
  refine vs_callVv X  (As := [.int (S.1 159 1), .int p1]) (st' := []) (mtX4_set hl0 isRow_chars (S.1 159 1) p1) (cwV 2 X.2.2.2.2.1 gX1_append_X4_set rfl rfl rfl (by decide +kernel) ⟨Nat.le_of_ble_eq_true rfl, Nat.le_of_ble_eq_true rfl⟩) (by decide) (by decide) rfl rfl rfl (Nat.le_of_ble_eq_true rfl) dX1_append_9 ⟨Nat.le_of_ble_eq_true rfl, Nat.le_of_ble_eq_true rfl⟩ (fun S1 hS1 => ?_)
  refine vs_aload_n X dX1_append_12 0 rfl ?_
  refine vs_dup X dX1_append_13 rfl ?_
  refine g_Txt  X hinX1 1 (by decide) (by decide +kernel) rfl rfl dX1_append_14 ?_
  refine vs_iconst X (v := 1) dX1_append_17 (by decide) ?_
  refine vs_iadd X dX1_append_18 ?_
  refine p_Txt  X hinX1 1 (by decide) (by decide +kernel) rfl rfl rfl rfl rfl rfl dX1_append_19 (fun S2 hS2 => ?_)
  refine vs_aload_n X dX1_append_22 0 rfl ?_
  refine g_Txt  X hinX1 1 (by decide) (by decide +kernel) rfl rfl dX1_append_23 ?_
  exact vs_iret X dX1_append_26 (by decide) (by decide)

def spX1_clear  (S : Wo) : Option (Wo) :=
  wr (pI S 159 1 0) (fun S1 => some S1)
set_option maxHeartbeats 4000000 in
set_option maxRecDepth 100000 in
theorem mtX1_clear {l : Launch} (hl0 : l.stackTraces = false) {G : Gt}  {S : Wo} : ∀ rr, spX1_clear  S = some rr → MV l yX1_clear wsX1_clear { frames := 0, cells := 0, slots := 0, locals := 0 } G S [rf G 159] rr 0 0 := by
  refine MV_of (cc := cX1_clear) (own := RX1) (maxL := 1) (ret := none) (sp := spX1_clear  S) (by decide +kernel) rfl rfl (Nat.le_of_ble_eq_true rfl) ?_
  intro p e s m args below meth c X
  have hinX1 : ∀ w ∈ wsX10, w ∈ wsX1_clear := by decide +kernel
  show VS G p l e _ s m args below meth c 1 _ _ 0 0 S 0 [(0, rf G 159)] []
  unfold spX1_clear
  refine vs_aload_n X dX1_clear_0 0 rfl ?_
  refine vs_iconst X (v := 0) dX1_clear_1 (by decide) ?_
  refine p_Txt  X hinX1 1 (by decide) (by decide +kernel) rfl rfl rfl rfl rfl rfl dX1_clear_2 (fun S1 hS1 => ?_)
  exact vs_vret X dX1_clear_5 (by decide) (by decide)

def spX1_rewind  (S : Wo) : Option (Wo) :=
  wr (pI S 159 2 0) (fun S1 => some S1)
set_option maxHeartbeats 4000000 in
set_option maxRecDepth 100000 in
theorem mtX1_rewind {l : Launch} (hl0 : l.stackTraces = false) {G : Gt}  {S : Wo} : ∀ rr, spX1_rewind  S = some rr → MV l yX1_rewind wsX1_rewind { frames := 0, cells := 0, slots := 0, locals := 0 } G S [rf G 159] rr 0 0 := by
  refine MV_of (cc := cX1_rewind) (own := RX1) (maxL := 1) (ret := none) (sp := spX1_rewind  S) (by decide +kernel) rfl rfl (Nat.le_of_ble_eq_true rfl) ?_
  intro p e s m args below meth c X
  have hinX1 : ∀ w ∈ wsX10, w ∈ wsX1_rewind := by decide +kernel
  show VS G p l e _ s m args below meth c 1 _ _ 0 0 S 0 [(0, rf G 159)] []
  unfold spX1_rewind
  refine vs_aload_n X dX1_rewind_0 0 rfl ?_
  refine vs_iconst X (v := 0) dX1_rewind_1 (by decide) ?_
  refine p_Txt  X hinX1 2 (by decide) (by decide +kernel) rfl rfl rfl rfl rfl rfl dX1_rewind_2 (fun S1 hS1 => ?_)
  exact vs_vret X dX1_rewind_5 (by decide) (by decide)

def spX1_signAt (p1 : Int32) (S : Wo) : Option (Int32) :=
  (if S.1 159 1 ≤ p1 then some (-1) else (spX4_get 160 60 p1 S).bind (fun x1 => some x1))
set_option maxHeartbeats 4000000 in
set_option maxRecDepth 100000 in
theorem mtX1_signAt {l : Launch} (hl0 : l.stackTraces = false) {G : Gt} (p1 : Int32) {S : Wo} : ∀ x, spX1_signAt p1 S = some x → MI l yX1_signAt wsX1_signAt { frames := 1, cells := 0, slots := 0, locals := 21 } G S [rf G 159, .int p1] (x, S) 0 0 := by
  refine MIp_of (cc := cX1_signAt) (own := RX1) (maxL := 2) (ret := (some .int)) (sp := spX1_signAt p1 S) (by decide +kernel) rfl rfl (Nat.le_of_ble_eq_true rfl) ?_
  intro p e s m args below meth c X
  have hinX1 : ∀ w ∈ wsX10, w ∈ wsX1_signAt := by decide +kernel
  show VS G p l e _ s m args below meth c 2 _ _ 0 0 S 0 [(0, rf G 159), (1, .int p1)] []
  unfold spX1_signAt
  refine vs_iload_n X dX1_signAt_0 1 rfl ?_
  refine vs_aload_n X dX1_signAt_1 0 rfl ?_
  refine g_Txt  X hinX1 1 (by decide) (by decide +kernel) rfl rfl dX1_signAt_2 ?_
  refine vs_icmp_ge X (tgt := 19) dX1_signAt_5 (by decide) (fun _ => ?_) (fun _ => ?_)
  · refine vs_iconst X (v := (-1)) dX1_signAt_19 (by decide) ?_
    exact vs_iretp X dX1_signAt_20 (by decide) (by decide)
  · refine vs_aload_n X dX1_signAt_8 0 rfl ?_
    refine g_Txt  X hinX1 0 (by decide) (by decide +kernel) rfl rfl dX1_signAt_9 ?_
    refine vs_iload_n X dX1_signAt_12 1 rfl ?_
    refine vs_callVp X  (As := [.int p1]) (st' := []) (mtX4_get hl0 isRow_chars p1) (cwV 1 X.2.2.2.2.1 gX1_signAt_X4_get rfl rfl rfl (by decide +kernel) ⟨Nat.le_of_ble_eq_true rfl, Nat.le_of_ble_eq_true rfl⟩) (by decide) (by decide) rfl rfl rfl (Nat.le_of_ble_eq_true rfl) dX1_signAt_13 ⟨Nat.le_of_ble_eq_true rfl, Nat.le_of_ble_eq_true rfl⟩ (fun x1 hx1 => ?_)
    refine vs_goto X (tgt := 20) dX1_signAt_16 (by decide) ?_
    exact vs_iretp X dX1_signAt_20 (by decide) (by decide)

def lpX1_countMatching_2 (t1 : Nat) (S : Wo)   : Nat → Int32 → Option (Int32)
  | 0, _ => none
  | f + 1, v2 => (spJ0_length_8abf5 t1 S).bind (fun x2 => (if x2 ≤ v2 then (spJ0_length_8abf5 t1 S).bind (fun x3 => some x3) else (spX1_signAt (S.1 159 2 + v2) S).bind (fun x4 => (spJ0_charAt_5068e t1 v2 S).bind (fun x5 => (if x4 = x5 then lpX1_countMatching_2 t1 S f (v2 + 1) else some v2)))))
def spX1_countMatching (t1 : Nat) (S : Wo) : Option (Int32) :=
  lpX1_countMatching_2 t1 S 200 0
set_option maxHeartbeats 4000000 in
set_option maxRecDepth 100000 in
theorem mtX1_countMatching {l : Launch} (hl0 : l.stackTraces = false) {G : Gt} {t1 : Nat} (ht1 : t1 < 24) {S : Wo} : ∀ x, spX1_countMatching t1 S = some x → MI l yX1_countMatching wsX1_countMatching { frames := 4, cells := 0, slots := 0, locals := 85 } G S [rf G 159, .ref (sad G t1)] (x, S) 0 0 := by
  refine MIp_of (cc := cX1_countMatching) (own := RX1) (maxL := 3) (ret := (some .int)) (sp := spX1_countMatching t1 S) (by decide +kernel) rfl rfl (Nat.le_of_ble_eq_true rfl) ?_
  intro p e s m args below meth c X
  have hinX1 : ∀ w ∈ wsX10, w ∈ wsX1_countMatching := by decide +kernel
  show VS G p l e _ s m args below meth c 3 _ _ 0 0 S 0 [(0, rf G 159), (1, .ref (sad G t1))] []
  unfold spX1_countMatching
  refine vs_iconst X (v := 0) dX1_countMatching_0 (by decide) ?_
  refine vs_istore_n X (lv' := [(2, .int 0), (0, rf G 159), (1, .ref (sad G t1))]) dX1_countMatching_1 (by decide) rfl ?_
  have L1 : ∀ (f : Nat) (v2 : Int32), VS G p l e ({ frames := 4, cells := 0, slots := 0, locals := 85 } : Room) s m args below meth c 3 (fun x => MQ below (QI G (x, S)) args s 0 0 (Af G)) (lpX1_countMatching_2 t1 S f v2) 0 0 S 2 [(0, rf G 159), (1, .ref (sad G t1)), (2, .int v2)] [] := by
    intro f
    induction f with
    | zero => intro v2; exact vs_none rfl
    | succ f ih =>
        intro v2
        rw [lpX1_countMatching_2]
        refine vs_iload_n X dX1_countMatching_2 2 rfl ?_
        refine vs_aload_n X dX1_countMatching_3 1 rfl ?_
        refine vs_callTp X  (As := []) (st' := [.int v2]) ht1 (mtJ0_length_8abf5 hl0 ht1) (cwV 0 X.2.2.2.2.1 gX1_countMatching_J0_length_8abf5 rfl rfl rfl (by decide +kernel) ⟨Nat.le_of_ble_eq_true rfl, Nat.le_of_ble_eq_true rfl⟩) rfl (Nat.le_of_ble_eq_true rfl) dX1_countMatching_4 ⟨Nat.le_of_ble_eq_true rfl, Nat.le_of_ble_eq_true rfl⟩ (fun x2 hx2 => ?_)
        refine vs_icmp_ge X (tgt := 36) dX1_countMatching_7 (by decide) (fun _ => ?_) (fun _ => ?_)
        · refine vs_aload_n X dX1_countMatching_36 1 rfl ?_
          refine vs_callTp X  (As := []) (st' := []) ht1 (mtJ0_length_8abf5 hl0 ht1) (cwV 0 X.2.2.2.2.1 gX1_countMatching_J0_length_8abf5 rfl rfl rfl (by decide +kernel) ⟨Nat.le_of_ble_eq_true rfl, Nat.le_of_ble_eq_true rfl⟩) rfl (Nat.le_of_ble_eq_true rfl) dX1_countMatching_37 ⟨Nat.le_of_ble_eq_true rfl, Nat.le_of_ble_eq_true rfl⟩ (fun x3 hx3 => ?_)
          exact vs_iretp X dX1_countMatching_40 (by decide) (by decide)
        · refine vs_aload_n X dX1_countMatching_10 0 rfl ?_
          refine vs_aload_n X dX1_countMatching_11 0 rfl ?_
          refine g_Txt  X hinX1 2 (by decide) (by decide +kernel) rfl rfl dX1_countMatching_12 ?_
          refine vs_iload_n X dX1_countMatching_15 2 rfl ?_
          refine vs_iadd X dX1_countMatching_16 ?_
          refine vs_callVp X  (As := [.int (S.1 159 2 + v2)]) (st' := []) (mtX1_signAt hl0 (S.1 159 2 + v2)) (cwV 1 X.2.2.2.2.1 gX1_countMatching_X1_signAt rfl rfl rfl (by decide +kernel) ⟨Nat.le_of_ble_eq_true rfl, Nat.le_of_ble_eq_true rfl⟩) (by decide) (by decide) rfl rfl rfl (Nat.le_of_ble_eq_true rfl) dX1_countMatching_17 ⟨Nat.le_of_ble_eq_true rfl, Nat.le_of_ble_eq_true rfl⟩ (fun x4 hx4 => ?_)
          refine vs_aload_n X dX1_countMatching_20 1 rfl ?_
          refine vs_iload_n X dX1_countMatching_21 2 rfl ?_
          refine vs_callTp X  (As := [.int v2]) (st' := [.int x4]) ht1 (mtJ0_charAt_5068e hl0 ht1 v2) (cwV 1 X.2.2.2.2.1 gX1_countMatching_J0_charAt_5068e rfl rfl rfl (by decide +kernel) ⟨Nat.le_of_ble_eq_true rfl, Nat.le_of_ble_eq_true rfl⟩) rfl (Nat.le_of_ble_eq_true rfl) dX1_countMatching_22 ⟨Nat.le_of_ble_eq_true rfl, Nat.le_of_ble_eq_true rfl⟩ (fun x5 hx5 => ?_)
          refine vs_icmp_eq X (tgt := 30) dX1_countMatching_25 (by decide) (fun _ => ?_) (fun _ => ?_)
          · refine vs_iinc X (v := (v2 + 1)) (lv' := [(2, .int (v2 + 1)), (0, rf G 159), (1, .ref (sad G t1))]) dX1_countMatching_30 2 rfl rfl (by decide) rfl ?_
            refine vs_goto X (tgt := 2) dX1_countMatching_33 (by decide) ?_
            refine vs_sub [1, 2, 0] (lv' := [(0, rf G 159), (1, .ref (sad G t1)), (2, .int (v2 + 1))]) rfl ?_
            exact ih (v2 + 1)
          · refine vs_iload_n X dX1_countMatching_28 2 rfl ?_
            exact vs_iretp X dX1_countMatching_29 (by decide) (by decide)
  refine vs_sub [1, 2, 0] (lv' := [(0, rf G 159), (1, .ref (sad G t1)), (2, .int 0)]) rfl ?_
  exact L1 200 0

def spX1_readSign (p1 : Int32) (S : Wo) : Option (Int32 × Wo) :=
  (spX1_signAt (S.1 159 2) S).bind (fun x1 => (if x1 = p1 then wr (pI S 159 2 (S.1 159 2 + 1)) (fun S2 => rz 1 (fun y => some (y, S2))) else rz 0 (fun y => some (y, S))))
set_option maxHeartbeats 4000000 in
set_option maxRecDepth 100000 in
theorem mtX1_readSign {l : Launch} (hl0 : l.stackTraces = false) {G : Gt} (p1 : Int32) {S : Wo} : ∀ rr, spX1_readSign p1 S = some rr → MI l yX1_readSign wsX1_readSign { frames := 2, cells := 0, slots := 0, locals := 42 } G S [rf G 159, .int p1] rr 0 0 := by
  refine MI_of (cc := cX1_readSign) (own := RX1) (maxL := 2) (ret := (some .boolean)) (sp := spX1_readSign p1 S) (by decide +kernel) rfl rfl (Nat.le_of_ble_eq_true rfl) ?_
  intro p e s m args below meth c X
  have hinX1 : ∀ w ∈ wsX10, w ∈ wsX1_readSign := by decide +kernel
  show VS G p l e _ s m args below meth c 2 _ _ 0 0 S 0 [(0, rf G 159), (1, .int p1)] []
  unfold spX1_readSign
  refine vs_aload_n X dX1_readSign_0 0 rfl ?_
  refine vs_aload_n X dX1_readSign_1 0 rfl ?_
  refine g_Txt  X hinX1 2 (by decide) (by decide +kernel) rfl rfl dX1_readSign_2 ?_
  refine vs_callVp X  (As := [.int (S.1 159 2)]) (st' := []) (mtX1_signAt hl0 (S.1 159 2)) (cwV 1 X.2.2.2.2.1 gX1_readSign_X1_signAt rfl rfl rfl (by decide +kernel) ⟨Nat.le_of_ble_eq_true rfl, Nat.le_of_ble_eq_true rfl⟩) (by decide) (by decide) rfl rfl rfl (Nat.le_of_ble_eq_true rfl) dX1_readSign_5 ⟨Nat.le_of_ble_eq_true rfl, Nat.le_of_ble_eq_true rfl⟩ (fun x1 hx1 => ?_)
  refine vs_iload_n X dX1_readSign_8 1 rfl ?_
  refine vs_icmp_eq X (tgt := 14) dX1_readSign_9 (by decide) (fun _ => ?_) (fun _ => ?_)
  · refine vs_aload_n X dX1_readSign_14 0 rfl ?_
    refine vs_dup X dX1_readSign_15 rfl ?_
    refine g_Txt  X hinX1 2 (by decide) (by decide +kernel) rfl rfl dX1_readSign_16 ?_
    refine vs_iconst X (v := 1) dX1_readSign_19 (by decide) ?_
    refine vs_iadd X dX1_readSign_20 ?_
    refine p_Txt  X hinX1 2 (by decide) (by decide +kernel) rfl rfl rfl rfl rfl rfl dX1_readSign_21 (fun S2 hS2 => ?_)
    refine vs_iconst X (v := 1) dX1_readSign_24 (by decide) ?_
    exact vs_zret X dX1_readSign_25 (by decide) (by decide)
  · refine vs_iconst X (v := 0) dX1_readSign_12 (by decide) ?_
    exact vs_zret X dX1_readSign_13 (by decide) (by decide)

def lpX1_readDigits_4 (p1 : Int32)   : Nat → Int32 → Int32 → Wo → Option (Int32 × Wo)
  | 0, _, _, _ => none
  | f + 1, v2, v3, S2 => (if p1 ≤ v3 then some (v2, S2) else (spX1_signAt (S2.1 159 2) S2).bind (fun x3 => (if x3 < 48 then (if v3 = 0 then some ((-1), S2) else some (v2, S2)) else (if x3 ≤ 57 then wr (pI S2 159 2 (S2.1 159 2 + 1)) (fun S4 => lpX1_readDigits_4 p1 f ((10 * v2) + (x3 - 48)) (v3 + 1) S4) else (if v3 = 0 then some ((-1), S2) else some (v2, S2))))))
def spX1_readDigits (p1 : Int32) (S : Wo) : Option (Int32 × Wo) :=
  lpX1_readDigits_4 p1 200 0 0 S
set_option maxHeartbeats 4000000 in
set_option maxRecDepth 100000 in
theorem mtX1_readDigits {l : Launch} (hl0 : l.stackTraces = false) {G : Gt} (p1 : Int32) {S : Wo} : ∀ rr, spX1_readDigits p1 S = some rr → MI l yX1_readDigits wsX1_readDigits { frames := 2, cells := 0, slots := 0, locals := 42 } G S [rf G 159, .int p1] rr 0 0 := by
  refine MI_of (cc := cX1_readDigits) (own := RX1) (maxL := 5) (ret := (some .int)) (sp := spX1_readDigits p1 S) (by decide +kernel) rfl rfl (Nat.le_of_ble_eq_true rfl) ?_
  intro p e s m args below meth c X
  have hinX1 : ∀ w ∈ wsX10, w ∈ wsX1_readDigits := by decide +kernel
  show VS G p l e _ s m args below meth c 5 _ _ 0 0 S 0 [(0, rf G 159), (1, .int p1)] []
  unfold spX1_readDigits
  refine vs_iconst X (v := 0) dX1_readDigits_0 (by decide) ?_
  refine vs_istore_n X (lv' := [(2, .int 0), (0, rf G 159), (1, .int p1)]) dX1_readDigits_1 (by decide) rfl ?_
  refine vs_iconst X (v := 0) dX1_readDigits_2 (by decide) ?_
  refine vs_istore_n X (lv' := [(3, .int 0), (2, .int 0), (0, rf G 159), (1, .int p1)]) dX1_readDigits_3 (by decide) rfl ?_
  have L1 : ∀ (f : Nat) (v2 : Int32) (v3 : Int32) (S2 : Wo), VS G p l e ({ frames := 2, cells := 0, slots := 0, locals := 42 } : Room) s m args below meth c 5 (fun r => MQ below (QI G r) args s 0 0 (Af G)) (lpX1_readDigits_4 p1 f v2 v3 S2) 0 0 S2 4 [(0, rf G 159), (1, .int p1), (2, .int v2), (3, .int v3)] [] := by
    intro f
    induction f with
    | zero => intro v2 v3 S2; exact vs_none rfl
    | succ f ih =>
        intro v2 v3 S2
        rw [lpX1_readDigits_4]
        refine vs_iload_n X dX1_readDigits_4 3 rfl ?_
        refine vs_iload_n X dX1_readDigits_5 1 rfl ?_
        refine vs_icmp_ge X (tgt := 70) dX1_readDigits_6 (by decide) (fun _ => ?_) (fun _ => ?_)
        · refine vs_iload_n X dX1_readDigits_70 2 rfl ?_
          exact vs_iret X dX1_readDigits_71 (by decide) (by decide)
        · refine vs_aload_n X dX1_readDigits_9 0 rfl ?_
          refine vs_aload_n X dX1_readDigits_10 0 rfl ?_
          refine g_Txt  X hinX1 2 (by decide) (by decide +kernel) rfl rfl dX1_readDigits_11 ?_
          refine vs_callVp X  (As := [.int (S2.1 159 2)]) (st' := []) (mtX1_signAt hl0 (S2.1 159 2)) (cwV 1 X.2.2.2.2.1 gX1_readDigits_X1_signAt rfl rfl rfl (by decide +kernel) ⟨Nat.le_of_ble_eq_true rfl, Nat.le_of_ble_eq_true rfl⟩) (by decide) (by decide) rfl rfl rfl (Nat.le_of_ble_eq_true rfl) dX1_readDigits_14 ⟨Nat.le_of_ble_eq_true rfl, Nat.le_of_ble_eq_true rfl⟩ (fun x3 hx3 => ?_)
          refine vs_istore X (lv' := [(4, .int x3), (0, rf G 159), (1, .int p1), (2, .int v2), (3, .int v3)]) dX1_readDigits_17 (by decide) rfl ?_
          refine vs_iload X dX1_readDigits_19 0 rfl ?_
          refine vs_bipush X (v := 48) dX1_readDigits_21 (by decide) ?_
          refine vs_icmp_lt X (tgt := 33) dX1_readDigits_23 (by decide) (fun _ => ?_) (fun _ => ?_)
          · refine vs_iload_n X dX1_readDigits_33 4 rfl ?_
            refine vs_if_ne X (tgt := 41) dX1_readDigits_34 (by decide) (fun _ => ?_) (fun _ => ?_)
            · refine vs_iconst X (v := (-1)) dX1_readDigits_37 (by decide) ?_
              refine vs_goto X (tgt := 42) dX1_readDigits_38 (by decide) ?_
              exact vs_iret X dX1_readDigits_42 (by decide) (by decide)
            · refine vs_iload_n X dX1_readDigits_41 3 rfl ?_
              exact vs_iret X dX1_readDigits_42 (by decide) (by decide)
          · refine vs_iload X dX1_readDigits_26 0 rfl ?_
            refine vs_bipush X (v := 57) dX1_readDigits_28 (by decide) ?_
            refine vs_icmp_le X (tgt := 43) dX1_readDigits_30 (by decide) (fun _ => ?_) (fun _ => ?_)
            · refine vs_bipush X (v := 10) dX1_readDigits_43 (by decide) ?_
              refine vs_iload_n X dX1_readDigits_45 3 rfl ?_
              refine vs_imul X dX1_readDigits_46 ?_
              refine vs_iload X dX1_readDigits_47 0 rfl ?_
              refine vs_bipush X (v := 48) dX1_readDigits_49 (by decide) ?_
              refine vs_isub X dX1_readDigits_51 ?_
              refine vs_iadd X dX1_readDigits_52 ?_
              refine vs_istore_n X (lv' := [(2, .int ((10 * v2) + (x3 - 48))), (4, .int x3), (0, rf G 159), (1, .int p1), (3, .int v3)]) dX1_readDigits_53 (by decide) rfl ?_
              refine vs_aload_n X dX1_readDigits_54 2 rfl ?_
              refine vs_dup X dX1_readDigits_55 rfl ?_
              refine g_Txt  X hinX1 2 (by decide) (by decide +kernel) rfl rfl dX1_readDigits_56 ?_
              refine vs_iconst X (v := 1) dX1_readDigits_59 (by decide) ?_
              refine vs_iadd X dX1_readDigits_60 ?_
              refine p_Txt  X hinX1 2 (by decide) (by decide +kernel) rfl rfl rfl rfl rfl rfl dX1_readDigits_61 (fun S4 hS4 => ?_)
              refine vs_iinc X (v := (v3 + 1)) (lv' := [(3, .int (v3 + 1)), (2, .int ((10 * v2) + (x3 - 48))), (4, .int x3), (0, rf G 159), (1, .int p1)]) dX1_readDigits_64 4 rfl rfl (by decide) rfl ?_
              refine vs_goto X (tgt := 4) dX1_readDigits_67 (by decide) ?_
              refine vs_sub [3, 4, 1, 0] (lv' := [(0, rf G 159), (1, .int p1), (2, .int ((10 * v2) + (x3 - 48))), (3, .int (v3 + 1))]) rfl ?_
              exact ih ((10 * v2) + (x3 - 48)) (v3 + 1) S4
            · refine vs_iload_n X dX1_readDigits_33 4 rfl ?_
              refine vs_if_ne X (tgt := 41) dX1_readDigits_34 (by decide) (fun _ => ?_) (fun _ => ?_)
              · refine vs_iconst X (v := (-1)) dX1_readDigits_37 (by decide) ?_
                refine vs_goto X (tgt := 42) dX1_readDigits_38 (by decide) ?_
                exact vs_iret X dX1_readDigits_42 (by decide) (by decide)
              · refine vs_iload_n X dX1_readDigits_41 3 rfl ?_
                exact vs_iret X dX1_readDigits_42 (by decide) (by decide)
  refine vs_sub [2, 3, 1, 0] (lv' := [(0, rf G 159), (1, .int p1), (2, .int 0), (3, .int 0)]) rfl ?_
  exact L1 200 0 0 S

def lpX1_readParameters_4    : Nat → Int32 → Int32 → Wo → Option (Int32 × Wo)
  | 0, _, _, _ => none
  | f + 1, v1, v2, S2 => (if S2.2.2.1.1 < 9 then (spJ0_length_8abf5 (shpL.getD S2.2.2.1.1 0) S2).bind (fun x3 => (if x3 ≤ v2 then rz 1 (fun y => some (y, S2)) else (if S2.2.2.1.1 < 9 then (spJ0_charAt_5068e (shpL.getD S2.2.2.1.1 0) v2 S2).bind (fun x4 => (if x4 = 100 then jn (β := Int32 → Option (Int32 × Wo)) (fun (x5 : Int32) => bd2 (spX1_readDigits x5 S2) (fun x7 S8 => (if x7 = (-1) then rz 0 (fun y => some (y, S8)) else (spX4_set 162 3 v1 x7 S8).bind (fun S9 => lpX1_readParameters_4  f (v1 + 1) (v2 + 1) S9)))) (fun k6 => (if x4 = 100 then k6 1 else k6 2)) else (if x4 = 110 then jn (β := Int32 → Option (Int32 × Wo)) (fun (x10 : Int32) => bd2 (spX1_readDigits x10 S2) (fun x12 S13 => (if x12 = (-1) then rz 0 (fun y => some (y, S13)) else (spX4_set 162 3 v1 x12 S13).bind (fun S14 => lpX1_readParameters_4  f (v1 + 1) (v2 + 1) S14)))) (fun k11 => (if x4 = 100 then k11 1 else k11 2)) else bd2 (spX1_readSign x4 S2) (fun x15 S16 => (if x15 = 0 then rz 0 (fun y => some (y, S16)) else lpX1_readParameters_4  f v1 (v2 + 1) S16))))) else none))) else none)
def spX1_readParameters  (S : Wo) : Option (Int32 × Wo) :=
  lpX1_readParameters_4  200 0 0 S
set_option maxHeartbeats 4000000 in
set_option maxRecDepth 100000 in
theorem mtX1_readParameters {l : Launch} (hl0 : l.stackTraces = false) {G : Gt}  {S : Wo} : ∀ rr, spX1_readParameters  S = some rr → MI l yX1_readParameters wsX1_readParameters { frames := 4, cells := 0, slots := 0, locals := 85 } G S [rf G 159] rr 0 0 := by
  refine MI_of (cc := cX1_readParameters) (own := RX1) (maxL := 5) (ret := (some .boolean)) (sp := spX1_readParameters  S) (by decide +kernel) rfl rfl (Nat.le_of_ble_eq_true rfl) ?_
  intro p e s m args below meth c X
  have hinX1 : ∀ w ∈ wsX10, w ∈ wsX1_readParameters := by decide +kernel
  show VS G p l e _ s m args below meth c 5 _ _ 0 0 S 0 [(0, rf G 159)] []
  unfold spX1_readParameters
  refine vs_iconst X (v := 0) dX1_readParameters_0 (by decide) ?_
  refine vs_istore_n X (lv' := [(1, .int 0), (0, rf G 159)]) dX1_readParameters_1 (by decide) rfl ?_
  refine vs_iconst X (v := 0) dX1_readParameters_2 (by decide) ?_
  refine vs_istore_n X (lv' := [(2, .int 0), (1, .int 0), (0, rf G 159)]) dX1_readParameters_3 (by decide) rfl ?_
  have L1 : ∀ (f : Nat) (v1 : Int32) (v2 : Int32) (S2 : Wo), VS G p l e ({ frames := 4, cells := 0, slots := 0, locals := 85 } : Room) s m args below meth c 5 (fun r => MQ below (QI G r) args s 0 0 (Af G)) (lpX1_readParameters_4  f v1 v2 S2) 0 0 S2 4 [(0, rf G 159), (1, .int v1), (2, .int v2)] [] := by
    intro f
    induction f with
    | zero => intro v1 v2 S2; exact vs_none rfl
    | succ f ih =>
        intro v1 v2 S2
        rw [lpX1_readParameters_4]
        refine vs_iload_n X dX1_readParameters_4 2 rfl ?_
        refine vs_aload_n X dX1_readParameters_5 0 rfl ?_
        refine g_Txt  X hinX1 3 (by decide) (by decide +kernel) rfl rfl dX1_readParameters_6 ?_
        refine vs_ksh (host := "ScarecrowRegistry") X (by decide +kernel) dX1_readParameters_9 ?_
        refine vs_callTp X  (As := []) (st' := [.int v2]) (shp_lt _) (mtJ0_length_8abf5 hl0 (shp_lt _)) (cwV 0 X.2.2.2.2.1 gX1_readParameters_J0_length_8abf5 rfl rfl rfl (by decide +kernel) ⟨Nat.le_of_ble_eq_true rfl, Nat.le_of_ble_eq_true rfl⟩) rfl (Nat.le_of_ble_eq_true rfl) dX1_readParameters_12 ⟨Nat.le_of_ble_eq_true rfl, Nat.le_of_ble_eq_true rfl⟩ (fun x3 hx3 => ?_)
        refine vs_icmp_ge X (tgt := 99) dX1_readParameters_15 (by decide) (fun _ => ?_) (fun _ => ?_)
        · refine vs_iconst X (v := 1) dX1_readParameters_99 (by decide) ?_
          exact vs_zret X dX1_readParameters_100 (by decide) (by decide)
        · refine vs_aload_n X dX1_readParameters_18 0 rfl ?_
          refine g_Txt  X hinX1 3 (by decide) (by decide +kernel) rfl rfl dX1_readParameters_19 ?_
          refine vs_ksh (host := "ScarecrowRegistry") X (by decide +kernel) dX1_readParameters_22 ?_
          refine vs_iload_n X dX1_readParameters_25 2 rfl ?_
          refine vs_callTp X  (As := [.int v2]) (st' := []) (shp_lt _) (mtJ0_charAt_5068e hl0 (shp_lt _) v2) (cwV 1 X.2.2.2.2.1 gX1_readParameters_J0_charAt_5068e rfl rfl rfl (by decide +kernel) ⟨Nat.le_of_ble_eq_true rfl, Nat.le_of_ble_eq_true rfl⟩) rfl (Nat.le_of_ble_eq_true rfl) dX1_readParameters_26 ⟨Nat.le_of_ble_eq_true rfl, Nat.le_of_ble_eq_true rfl⟩ (fun x4 hx4 => ?_)
          refine vs_istore_n X (lv' := [(3, .int x4), (0, rf G 159), (1, .int v1), (2, .int v2)]) dX1_readParameters_29 (by decide) rfl ?_
          refine vs_iload_n X dX1_readParameters_30 0 rfl ?_
          refine vs_bipush X (v := 100) dX1_readParameters_31 (by decide) ?_
          refine vs_icmp_eq X (tgt := 42) dX1_readParameters_33 (by decide) (fun _ => ?_) (fun _ => ?_)
          · refine vs_aload_n X dX1_readParameters_42 1 rfl ?_
            refine vs_iload_n X dX1_readParameters_43 0 rfl ?_
            refine vs_bipush X (v := 100) dX1_readParameters_44 (by decide) ?_
            refine vs_jn (β := Int32 → Option (Int32 × Wo)) (P := fun k6 => ∀ (x5 : Int32), VS G p l e ({ frames := 4, cells := 0, slots := 0, locals := 85 } : Room) s m args below meth c 5 (fun r => MQ below (QI G r) args s 0 0 (Af G)) (k6 x5) 0 0 S2 54 [(0, rf G 159), (1, .int v1), (2, .int v2), (3, .int x4)] [.int x5, rf G 159]) (fun x5 => ?_) (fun k6 hk6 => ?_)
            · refine vs_callVi X  (As := [.int x5]) (st' := []) (mtX1_readDigits hl0 x5) (cwV 1 X.2.2.2.2.1 gX1_readParameters_X1_readDigits rfl rfl rfl (by decide +kernel) ⟨Nat.le_of_ble_eq_true rfl, Nat.le_of_ble_eq_true rfl⟩) (by decide) (by decide) rfl rfl rfl (Nat.le_of_ble_eq_true rfl) dX1_readParameters_54 ⟨Nat.le_of_ble_eq_true rfl, Nat.le_of_ble_eq_true rfl⟩ (fun x7 S8 hx7 => ?_)
              refine vs_istore X (lv' := [(4, .int x7), (0, rf G 159), (1, .int v1), (2, .int v2), (3, .int x4)]) dX1_readParameters_57 (by decide) rfl ?_
              refine vs_iload X dX1_readParameters_59 0 rfl ?_
              refine vs_iconst X (v := (-1)) dX1_readParameters_61 (by decide) ?_
              refine vs_icmp_ne X (tgt := 67) dX1_readParameters_62 (by decide) (fun _ => ?_) (fun _ => ?_)
              · refine vs_iconst X (v := 0) dX1_readParameters_65 (by decide) ?_
                exact vs_zret X dX1_readParameters_66 (by decide) (by decide)
              · refine vs_aload_n X dX1_readParameters_67 1 rfl ?_
                refine g_Txt  X hinX1 4 (by decide) (by decide +kernel) rfl rfl dX1_readParameters_68 ?_
                refine vs_iload_n X dX1_readParameters_71 2 rfl ?_
                refine vs_iload X dX1_readParameters_72 0 rfl ?_
                refine vs_callVv X  (As := [.int v1, .int x7]) (st' := []) (mtX4_set hl0 isRow_pars v1 x7) (cwV 2 X.2.2.2.2.1 gX1_readParameters_X4_set rfl rfl rfl (by decide +kernel) ⟨Nat.le_of_ble_eq_true rfl, Nat.le_of_ble_eq_true rfl⟩) (by decide) (by decide) rfl rfl rfl (Nat.le_of_ble_eq_true rfl) dX1_readParameters_74 ⟨Nat.le_of_ble_eq_true rfl, Nat.le_of_ble_eq_true rfl⟩ (fun S9 hS9 => ?_)
                refine vs_iinc X (v := (v1 + 1)) (lv' := [(1, .int (v1 + 1)), (4, .int x7), (0, rf G 159), (2, .int v2), (3, .int x4)]) dX1_readParameters_77 2 rfl rfl (by decide) rfl ?_
                refine vs_goto X (tgt := 93) dX1_readParameters_80 (by decide) ?_
                refine vs_iinc X (v := (v2 + 1)) (lv' := [(2, .int (v2 + 1)), (1, .int (v1 + 1)), (4, .int x7), (0, rf G 159), (3, .int x4)]) dX1_readParameters_93 3 rfl rfl (by decide) rfl ?_
                refine vs_goto X (tgt := 4) dX1_readParameters_96 (by decide) ?_
                refine vs_sub [3, 1, 0] (lv' := [(0, rf G 159), (1, .int (v1 + 1)), (2, .int (v2 + 1))]) rfl ?_
                exact ih (v1 + 1) (v2 + 1) S9
            · refine vs_icmp_ne X (tgt := 53) dX1_readParameters_46 (by decide) (fun _ => ?_) (fun _ => ?_)
              · refine vs_iconst X (v := 1) dX1_readParameters_49 (by decide) ?_
                refine vs_goto X (tgt := 54) dX1_readParameters_50 (by decide) ?_
                exact vs_join [1, 2, 3, 0] (Nat.le_of_ble_eq_true rfl) (Nat.le_of_ble_eq_true rfl) rfl (hk6 1)
              · refine vs_iconst X (v := 2) dX1_readParameters_53 (by decide) ?_
                exact vs_join [1, 2, 3, 0] (Nat.le_of_ble_eq_true rfl) (Nat.le_of_ble_eq_true rfl) rfl (hk6 2)
          · refine vs_iload_n X dX1_readParameters_36 0 rfl ?_
            refine vs_bipush X (v := 110) dX1_readParameters_37 (by decide) ?_
            refine vs_icmp_ne X (tgt := 83) dX1_readParameters_39 (by decide) (fun _ => ?_) (fun _ => ?_)
            · refine vs_aload_n X dX1_readParameters_42 1 rfl ?_
              refine vs_iload_n X dX1_readParameters_43 0 rfl ?_
              refine vs_bipush X (v := 100) dX1_readParameters_44 (by decide) ?_
              refine vs_jn (β := Int32 → Option (Int32 × Wo)) (P := fun k11 => ∀ (x10 : Int32), VS G p l e ({ frames := 4, cells := 0, slots := 0, locals := 85 } : Room) s m args below meth c 5 (fun r => MQ below (QI G r) args s 0 0 (Af G)) (k11 x10) 0 0 S2 54 [(0, rf G 159), (1, .int v1), (2, .int v2), (3, .int x4)] [.int x10, rf G 159]) (fun x10 => ?_) (fun k11 hk11 => ?_)
              · refine vs_callVi X  (As := [.int x10]) (st' := []) (mtX1_readDigits hl0 x10) (cwV 1 X.2.2.2.2.1 gX1_readParameters_X1_readDigits rfl rfl rfl (by decide +kernel) ⟨Nat.le_of_ble_eq_true rfl, Nat.le_of_ble_eq_true rfl⟩) (by decide) (by decide) rfl rfl rfl (Nat.le_of_ble_eq_true rfl) dX1_readParameters_54 ⟨Nat.le_of_ble_eq_true rfl, Nat.le_of_ble_eq_true rfl⟩ (fun x12 S13 hx12 => ?_)
                refine vs_istore X (lv' := [(4, .int x12), (0, rf G 159), (1, .int v1), (2, .int v2), (3, .int x4)]) dX1_readParameters_57 (by decide) rfl ?_
                refine vs_iload X dX1_readParameters_59 0 rfl ?_
                refine vs_iconst X (v := (-1)) dX1_readParameters_61 (by decide) ?_
                refine vs_icmp_ne X (tgt := 67) dX1_readParameters_62 (by decide) (fun _ => ?_) (fun _ => ?_)
                · refine vs_iconst X (v := 0) dX1_readParameters_65 (by decide) ?_
                  exact vs_zret X dX1_readParameters_66 (by decide) (by decide)
                · refine vs_aload_n X dX1_readParameters_67 1 rfl ?_
                  refine g_Txt  X hinX1 4 (by decide) (by decide +kernel) rfl rfl dX1_readParameters_68 ?_
                  refine vs_iload_n X dX1_readParameters_71 2 rfl ?_
                  refine vs_iload X dX1_readParameters_72 0 rfl ?_
                  refine vs_callVv X  (As := [.int v1, .int x12]) (st' := []) (mtX4_set hl0 isRow_pars v1 x12) (cwV 2 X.2.2.2.2.1 gX1_readParameters_X4_set rfl rfl rfl (by decide +kernel) ⟨Nat.le_of_ble_eq_true rfl, Nat.le_of_ble_eq_true rfl⟩) (by decide) (by decide) rfl rfl rfl (Nat.le_of_ble_eq_true rfl) dX1_readParameters_74 ⟨Nat.le_of_ble_eq_true rfl, Nat.le_of_ble_eq_true rfl⟩ (fun S14 hS14 => ?_)
                  refine vs_iinc X (v := (v1 + 1)) (lv' := [(1, .int (v1 + 1)), (4, .int x12), (0, rf G 159), (2, .int v2), (3, .int x4)]) dX1_readParameters_77 2 rfl rfl (by decide) rfl ?_
                  refine vs_goto X (tgt := 93) dX1_readParameters_80 (by decide) ?_
                  refine vs_iinc X (v := (v2 + 1)) (lv' := [(2, .int (v2 + 1)), (1, .int (v1 + 1)), (4, .int x12), (0, rf G 159), (3, .int x4)]) dX1_readParameters_93 3 rfl rfl (by decide) rfl ?_
                  refine vs_goto X (tgt := 4) dX1_readParameters_96 (by decide) ?_
                  refine vs_sub [3, 1, 0] (lv' := [(0, rf G 159), (1, .int (v1 + 1)), (2, .int (v2 + 1))]) rfl ?_
                  exact ih (v1 + 1) (v2 + 1) S14
              · refine vs_icmp_ne X (tgt := 53) dX1_readParameters_46 (by decide) (fun _ => ?_) (fun _ => ?_)
                · refine vs_iconst X (v := 1) dX1_readParameters_49 (by decide) ?_
                  refine vs_goto X (tgt := 54) dX1_readParameters_50 (by decide) ?_
                  exact vs_join [1, 2, 3, 0] (Nat.le_of_ble_eq_true rfl) (Nat.le_of_ble_eq_true rfl) rfl (hk11 1)
                · refine vs_iconst X (v := 2) dX1_readParameters_53 (by decide) ?_
                  exact vs_join [1, 2, 3, 0] (Nat.le_of_ble_eq_true rfl) (Nat.le_of_ble_eq_true rfl) rfl (hk11 2)
            · refine vs_aload_n X dX1_readParameters_83 1 rfl ?_
              refine vs_iload_n X dX1_readParameters_84 0 rfl ?_
              refine vs_callVi X  (As := [.int x4]) (st' := []) (mtX1_readSign hl0 x4) (cwV 1 X.2.2.2.2.1 gX1_readParameters_X1_readSign rfl rfl rfl (by decide +kernel) ⟨Nat.le_of_ble_eq_true rfl, Nat.le_of_ble_eq_true rfl⟩) (by decide) (by decide) rfl rfl rfl (Nat.le_of_ble_eq_true rfl) dX1_readParameters_85 ⟨Nat.le_of_ble_eq_true rfl, Nat.le_of_ble_eq_true rfl⟩ (fun x15 S16 hx15 => ?_)
              refine vs_if_ne X (tgt := 93) dX1_readParameters_88 (by decide) (fun _ => ?_) (fun _ => ?_)
              · refine vs_iconst X (v := 0) dX1_readParameters_91 (by decide) ?_
                exact vs_zret X dX1_readParameters_92 (by decide) (by decide)
              · refine vs_iinc X (v := (v2 + 1)) (lv' := [(2, .int (v2 + 1)), (3, .int x4), (0, rf G 159), (1, .int v1)]) dX1_readParameters_93 3 rfl rfl (by decide) rfl ?_
                refine vs_goto X (tgt := 4) dX1_readParameters_96 (by decide) ?_
                refine vs_sub [2, 3, 0] (lv' := [(0, rf G 159), (1, .int v1), (2, .int (v2 + 1))]) rfl ?_
                exact ih v1 (v2 + 1) S16
  refine vs_sub [2, 1, 0] (lv' := [(0, rf G 159), (1, .int 0), (2, .int 0)]) rfl ?_
  exact L1 200 0 0 S

def lpX1_readWord_4    : Nat → Int32 → Int32 → Wo → Option (Int32 × Wo)
  | 0, _, _, _ => none
  | f + 1, v1, v2, S2 => (if (9 : Int32) ≤ v2 then wr (pI S2 159 2 (S2.1 159 2 + v1)) (fun S3 => rz 0 (fun y => some (y, S3))) else (if inb v2 9 = true then (if ix v2 < 9 then (spX1_countMatching (wrdL.getD (ix v2) 0) S2).bind (fun x4 => (if ix v2 < 9 then (spJ0_length_8abf5 (wrdL.getD (ix v2) 0) S2).bind (fun x5 => (if x4 = x5 then wr (pK S2 (ix v2)) (fun S6 => wr (pI S6 159 2 (S6.1 159 2 + x4)) (fun S7 => rz 1 (fun y => some (y, S7)))) else lpX1_readWord_4  f (if v1 < x4 then x4 else v1) (v2 + 1) S2)) else none)) else none) else none))
def spX1_readWord  (S : Wo) : Option (Int32 × Wo) :=
  lpX1_readWord_4  200 0 0 S
set_option maxHeartbeats 4000000 in
set_option maxRecDepth 100000 in
theorem mtX1_readWord {l : Launch} (hl0 : l.stackTraces = false) {G : Gt}  {S : Wo} : ∀ rr, spX1_readWord  S = some rr → MI l yX1_readWord wsX1_readWord { frames := 5, cells := 0, slots := 0, locals := 107 } G S [rf G 159] rr 0 0 := by
  refine MI_of (cc := cX1_readWord) (own := RX1) (maxL := 5) (ret := (some .boolean)) (sp := spX1_readWord  S) (by decide +kernel) rfl rfl (Nat.le_of_ble_eq_true rfl) ?_
  intro p e s m args below meth c X
  have hinX1 : ∀ w ∈ wsX10, w ∈ wsX1_readWord := by decide +kernel
  show VS G p l e _ s m args below meth c 5 _ _ 0 0 S 0 [(0, rf G 159)] []
  unfold spX1_readWord
  refine vs_iconst X (v := 0) dX1_readWord_0 (by decide) ?_
  refine vs_istore_n X (lv' := [(1, .int 0), (0, rf G 159)]) dX1_readWord_1 (by decide) rfl ?_
  refine vs_iconst X (v := 0) dX1_readWord_2 (by decide) ?_
  refine vs_istore_n X (lv' := [(2, .int 0), (1, .int 0), (0, rf G 159)]) dX1_readWord_3 (by decide) rfl ?_
  have L1 : ∀ (f : Nat) (v1 : Int32) (v2 : Int32) (S2 : Wo), VS G p l e ({ frames := 5, cells := 0, slots := 0, locals := 107 } : Room) s m args below meth c 5 (fun r => MQ below (QI G r) args s 0 0 (Af G)) (lpX1_readWord_4  f v1 v2 S2) 0 0 S2 4 [(0, rf G 159), (1, .int v1), (2, .int v2)] [] := by
    intro f
    induction f with
    | zero => intro v1 v2 S2; exact vs_none rfl
    | succ f ih =>
        intro v1 v2 S2
        rw [lpX1_readWord_4]
        refine vs_iload_n X dX1_readWord_4 2 rfl ?_
        refine vs_getsK (host := "ScarecrowRegistry") X (by decide +kernel) dX1_readWord_5 ?_
        refine vs_alenK X dX1_readWord_8 ?_
        refine vs_icmp_ge X (tgt := 71) dX1_readWord_9 (by decide) (fun _ => ?_) (fun _ => ?_)
        · refine vs_aload_n X dX1_readWord_71 0 rfl ?_
          refine vs_dup X dX1_readWord_72 rfl ?_
          refine g_Txt  X hinX1 2 (by decide) (by decide +kernel) rfl rfl dX1_readWord_73 ?_
          refine vs_iload_n X dX1_readWord_76 1 rfl ?_
          refine vs_iadd X dX1_readWord_77 ?_
          refine p_Txt  X hinX1 2 (by decide) (by decide +kernel) rfl rfl rfl rfl rfl rfl dX1_readWord_78 (fun S3 hS3 => ?_)
          refine vs_iconst X (v := 0) dX1_readWord_81 (by decide) ?_
          exact vs_zret X dX1_readWord_82 (by decide) (by decide)
        · refine vs_getsK (host := "ScarecrowRegistry") X (by decide +kernel) dX1_readWord_12 ?_
          refine vs_iload_n X dX1_readWord_15 2 rfl ?_
          refine vs_aaldK X dX1_readWord_16 ?_
          refine vs_astore_n X (lv' := [(3, .ref (adK G (ix v2))), (0, rf G 159), (1, .int v1), (2, .int v2)]) dX1_readWord_17 (by decide) rfl ?_
          refine vs_aload_n X dX1_readWord_18 1 rfl ?_
          refine vs_aload_n X dX1_readWord_19 0 rfl ?_
          refine vs_kwd (host := "ScarecrowRegistry") X (by decide +kernel) dX1_readWord_20 ?_
          refine vs_callVp X  (As := [.ref (sad G (wrdL.getD (ix v2) 0))]) (st' := []) (mtX1_countMatching hl0 (wrd_lt _)) (cwV 1 X.2.2.2.2.1 gX1_readWord_X1_countMatching rfl rfl rfl (by decide +kernel) ⟨Nat.le_of_ble_eq_true rfl, Nat.le_of_ble_eq_true rfl⟩) (by decide) (by decide) rfl rfl rfl (Nat.le_of_ble_eq_true rfl) dX1_readWord_23 ⟨Nat.le_of_ble_eq_true rfl, Nat.le_of_ble_eq_true rfl⟩ (fun x4 hx4 => ?_)
          refine vs_istore X (lv' := [(4, .int x4), (3, .ref (adK G (ix v2))), (0, rf G 159), (1, .int v1), (2, .int v2)]) dX1_readWord_26 (by decide) rfl ?_
          refine vs_iload X dX1_readWord_28 0 rfl ?_
          refine vs_aload_n X dX1_readWord_30 1 rfl ?_
          refine vs_kwd (host := "ScarecrowRegistry") X (by decide +kernel) dX1_readWord_31 ?_
          refine vs_callTp X  (As := []) (st' := [.int x4]) (wrd_lt _) (mtJ0_length_8abf5 hl0 (wrd_lt _)) (cwV 0 X.2.2.2.2.1 gX1_readWord_J0_length_8abf5 rfl rfl rfl (by decide +kernel) ⟨Nat.le_of_ble_eq_true rfl, Nat.le_of_ble_eq_true rfl⟩) rfl (Nat.le_of_ble_eq_true rfl) dX1_readWord_34 ⟨Nat.le_of_ble_eq_true rfl, Nat.le_of_ble_eq_true rfl⟩ (fun x5 hx5 => ?_)
          refine vs_icmp_ne X (tgt := 58) dX1_readWord_37 (by decide) (fun _ => ?_) (fun _ => ?_)
          · refine vs_aload_n X dX1_readWord_40 2 rfl ?_
            refine vs_aload_n X dX1_readWord_41 1 rfl ?_
            refine vs_putK X hinX1 (by decide +kernel) dX1_readWord_42 (fun S6 hS6 => ?_)
            refine vs_aload_n X dX1_readWord_45 2 rfl ?_
            refine vs_dup X dX1_readWord_46 rfl ?_
            refine g_Txt  X hinX1 2 (by decide) (by decide +kernel) rfl rfl dX1_readWord_47 ?_
            refine vs_iload X dX1_readWord_50 0 rfl ?_
            refine vs_iadd X dX1_readWord_52 ?_
            refine p_Txt  X hinX1 2 (by decide) (by decide +kernel) rfl rfl rfl rfl rfl rfl dX1_readWord_53 (fun S7 hS7 => ?_)
            refine vs_iconst X (v := 1) dX1_readWord_56 (by decide) ?_
            exact vs_zret X dX1_readWord_57 (by decide) (by decide)
          · refine vs_iload_n X dX1_readWord_58 3 rfl ?_
            refine vs_iload X dX1_readWord_59 0 rfl ?_
            refine vs_mmax X (by decide +kernel) (by decide +kernel) (by decide +kernel) (by decide +kernel) (Nat.le_of_ble_eq_true rfl) (Nat.le_of_ble_eq_true rfl) (Nat.le_of_ble_eq_true rfl) (Nat.le_of_ble_eq_true rfl) dX1_readWord_61 ?_
            refine vs_istore_n X (lv' := [(1, .int (if v1 < x4 then x4 else v1)), (4, .int x4), (3, .ref (adK G (ix v2))), (0, rf G 159), (2, .int v2)]) dX1_readWord_64 (by decide) rfl ?_
            refine vs_iinc X (v := (v2 + 1)) (lv' := [(2, .int (v2 + 1)), (1, .int (if v1 < x4 then x4 else v1)), (4, .int x4), (3, .ref (adK G (ix v2))), (0, rf G 159)]) dX1_readWord_65 4 rfl rfl (by decide) rfl ?_
            refine vs_goto X (tgt := 4) dX1_readWord_68 (by decide) ?_
            refine vs_sub [4, 1, 0] (lv' := [(0, rf G 159), (1, .int (if v1 < x4 then x4 else v1)), (2, .int (v2 + 1))]) rfl ?_
            exact ih (if v1 < x4 then x4 else v1) (v2 + 1) S2
  refine vs_sub [2, 1, 0] (lv' := [(0, rf G 159), (1, .int 0), (2, .int 0)]) rfl ?_
  exact L1 200 0 0 S

def spX1_readCommand  (S : Wo) : Option (Int32 × Wo) :=
  (if S.1 159 2 = 0 then bd2 (spX1_readWord  S) (fun x1 S2 => (if x1 = 0 then rz 0 (fun y => some (y, S2)) else bd2 (spX1_readParameters  S2) (fun x3 S4 => (if x3 = 0 then rz 0 (fun y => some (y, S4)) else rz 1 (fun y => some (y, S4)))))) else bd2 (spX1_readSign 59 S) (fun x5 S6 => (if x5 = 0 then rz 0 (fun y => some (y, S6)) else bd2 (spX1_readWord  S6) (fun x7 S8 => (if x7 = 0 then rz 0 (fun y => some (y, S8)) else bd2 (spX1_readParameters  S8) (fun x9 S10 => (if x9 = 0 then rz 0 (fun y => some (y, S10)) else rz 1 (fun y => some (y, S10)))))))))
set_option maxHeartbeats 4000000 in
set_option maxRecDepth 100000 in
theorem mtX1_readCommand {l : Launch} (hl0 : l.stackTraces = false) {G : Gt}  {S : Wo} : ∀ rr, spX1_readCommand  S = some rr → MI l yX1_readCommand wsX1_readCommand { frames := 6, cells := 0, slots := 0, locals := 131 } G S [rf G 159] rr 0 0 := by
  refine MI_of (cc := cX1_readCommand) (own := RX1) (maxL := 1) (ret := (some .boolean)) (sp := spX1_readCommand  S) (by decide +kernel) rfl rfl (Nat.le_of_ble_eq_true rfl) ?_
  intro p e s m args below meth c X
  have hinX1 : ∀ w ∈ wsX10, w ∈ wsX1_readCommand := by decide +kernel
  show VS G p l e _ s m args below meth c 1 _ _ 0 0 S 0 [(0, rf G 159)] []
  unfold spX1_readCommand
  refine vs_aload_n X dX1_readCommand_0 0 rfl ?_
  refine g_Txt  X hinX1 2 (by decide) (by decide +kernel) rfl rfl dX1_readCommand_1 ?_
  refine vs_if_eq X (tgt := 16) dX1_readCommand_4 (by decide) (fun _ => ?_) (fun _ => ?_)
  · refine vs_aload_n X dX1_readCommand_16 0 rfl ?_
    refine vs_callVi X  (As := []) (st' := []) (mtX1_readWord hl0 ) (cwV 0 X.2.2.2.2.1 gX1_readCommand_X1_readWord rfl rfl rfl (by decide +kernel) ⟨Nat.le_of_ble_eq_true rfl, Nat.le_of_ble_eq_true rfl⟩) (by decide) (by decide) rfl rfl rfl (Nat.le_of_ble_eq_true rfl) dX1_readCommand_17 ⟨Nat.le_of_ble_eq_true rfl, Nat.le_of_ble_eq_true rfl⟩ (fun x1 S2 hx1 => ?_)
    refine vs_if_eq X (tgt := 34) dX1_readCommand_20 (by decide) (fun _ => ?_) (fun _ => ?_)
    · refine vs_iconst X (v := 0) dX1_readCommand_34 (by decide) ?_
      exact vs_zret X dX1_readCommand_35 (by decide) (by decide)
    · refine vs_aload_n X dX1_readCommand_23 0 rfl ?_
      refine vs_callVi X  (As := []) (st' := []) (mtX1_readParameters hl0 ) (cwV 0 X.2.2.2.2.1 gX1_readCommand_X1_readParameters rfl rfl rfl (by decide +kernel) ⟨Nat.le_of_ble_eq_true rfl, Nat.le_of_ble_eq_true rfl⟩) (by decide) (by decide) rfl rfl rfl (Nat.le_of_ble_eq_true rfl) dX1_readCommand_24 ⟨Nat.le_of_ble_eq_true rfl, Nat.le_of_ble_eq_true rfl⟩ (fun x3 S4 hx3 => ?_)
      refine vs_if_eq X (tgt := 34) dX1_readCommand_27 (by decide) (fun _ => ?_) (fun _ => ?_)
      · refine vs_iconst X (v := 0) dX1_readCommand_34 (by decide) ?_
        exact vs_zret X dX1_readCommand_35 (by decide) (by decide)
      · refine vs_iconst X (v := 1) dX1_readCommand_30 (by decide) ?_
        refine vs_goto X (tgt := 35) dX1_readCommand_31 (by decide) ?_
        exact vs_zret X dX1_readCommand_35 (by decide) (by decide)
  · refine vs_aload_n X dX1_readCommand_7 0 rfl ?_
    refine vs_bipush X (v := 59) dX1_readCommand_8 (by decide) ?_
    refine vs_callVi X  (As := [.int 59]) (st' := []) (mtX1_readSign hl0 59) (cwV 1 X.2.2.2.2.1 gX1_readCommand_X1_readSign rfl rfl rfl (by decide +kernel) ⟨Nat.le_of_ble_eq_true rfl, Nat.le_of_ble_eq_true rfl⟩) (by decide) (by decide) rfl rfl rfl (Nat.le_of_ble_eq_true rfl) dX1_readCommand_10 ⟨Nat.le_of_ble_eq_true rfl, Nat.le_of_ble_eq_true rfl⟩ (fun x5 S6 hx5 => ?_)
    refine vs_if_eq X (tgt := 34) dX1_readCommand_13 (by decide) (fun _ => ?_) (fun _ => ?_)
    · refine vs_iconst X (v := 0) dX1_readCommand_34 (by decide) ?_
      exact vs_zret X dX1_readCommand_35 (by decide) (by decide)
    · refine vs_aload_n X dX1_readCommand_16 0 rfl ?_
      refine vs_callVi X  (As := []) (st' := []) (mtX1_readWord hl0 ) (cwV 0 X.2.2.2.2.1 gX1_readCommand_X1_readWord rfl rfl rfl (by decide +kernel) ⟨Nat.le_of_ble_eq_true rfl, Nat.le_of_ble_eq_true rfl⟩) (by decide) (by decide) rfl rfl rfl (Nat.le_of_ble_eq_true rfl) dX1_readCommand_17 ⟨Nat.le_of_ble_eq_true rfl, Nat.le_of_ble_eq_true rfl⟩ (fun x7 S8 hx7 => ?_)
      refine vs_if_eq X (tgt := 34) dX1_readCommand_20 (by decide) (fun _ => ?_) (fun _ => ?_)
      · refine vs_iconst X (v := 0) dX1_readCommand_34 (by decide) ?_
        exact vs_zret X dX1_readCommand_35 (by decide) (by decide)
      · refine vs_aload_n X dX1_readCommand_23 0 rfl ?_
        refine vs_callVi X  (As := []) (st' := []) (mtX1_readParameters hl0 ) (cwV 0 X.2.2.2.2.1 gX1_readCommand_X1_readParameters rfl rfl rfl (by decide +kernel) ⟨Nat.le_of_ble_eq_true rfl, Nat.le_of_ble_eq_true rfl⟩) (by decide) (by decide) rfl rfl rfl (Nat.le_of_ble_eq_true rfl) dX1_readCommand_24 ⟨Nat.le_of_ble_eq_true rfl, Nat.le_of_ble_eq_true rfl⟩ (fun x9 S10 hx9 => ?_)
        refine vs_if_eq X (tgt := 34) dX1_readCommand_27 (by decide) (fun _ => ?_) (fun _ => ?_)
        · refine vs_iconst X (v := 0) dX1_readCommand_34 (by decide) ?_
          exact vs_zret X dX1_readCommand_35 (by decide) (by decide)
        · refine vs_iconst X (v := 1) dX1_readCommand_30 (by decide) ?_
          refine vs_goto X (tgt := 35) dX1_readCommand_31 (by decide) ?_
          exact vs_zret X dX1_readCommand_35 (by decide) (by decide)

def lpX1_countCommands_6    : Nat → Int32 → Wo → Option (Int32 × Wo)
  | 0, _, _ => none
  | f + 1, v1, S3 => (if (60 : Int32) < v1 then some ((-1), S3) else bd2 (spX1_readCommand  S3) (fun x4 S5 => (if x4 = 0 then some ((-1), S5) else (if S5.1 159 2 = S5.1 159 1 then some (v1, S5) else lpX1_countCommands_6  f (v1 + 1) S5))))
def spX1_countCommands  (S : Wo) : Option (Int32 × Wo) :=
  (spX1_rewind  S).bind (fun S1 => lpX1_countCommands_6  200 1 S1)
set_option maxHeartbeats 4000000 in
set_option maxRecDepth 100000 in
theorem mtX1_countCommands {l : Launch} (hl0 : l.stackTraces = false) {G : Gt}  {S : Wo} : ∀ rr, spX1_countCommands  S = some rr → MI l yX1_countCommands wsX1_countCommands { frames := 7, cells := 0, slots := 0, locals := 151 } G S [rf G 159] rr 0 0 := by
  refine MI_of (cc := cX1_countCommands) (own := RX1) (maxL := 2) (ret := (some .int)) (sp := spX1_countCommands  S) (by decide +kernel) rfl rfl (Nat.le_of_ble_eq_true rfl) ?_
  intro p e s m args below meth c X
  have hinX1 : ∀ w ∈ wsX10, w ∈ wsX1_countCommands := by decide +kernel
  show VS G p l e _ s m args below meth c 2 _ _ 0 0 S 0 [(0, rf G 159)] []
  unfold spX1_countCommands
  refine vs_aload_n X dX1_countCommands_0 0 rfl ?_
  refine vs_callVv X  (As := []) (st' := []) (mtX1_rewind hl0 ) (cwV 0 X.2.2.2.2.1 gX1_countCommands_X1_rewind rfl rfl rfl (by decide +kernel) ⟨Nat.le_of_ble_eq_true rfl, Nat.le_of_ble_eq_true rfl⟩) (by decide) (by decide) rfl rfl rfl (Nat.le_of_ble_eq_true rfl) dX1_countCommands_1 ⟨Nat.le_of_ble_eq_true rfl, Nat.le_of_ble_eq_true rfl⟩ (fun S1 hS1 => ?_)
  refine vs_iconst X (v := 1) dX1_countCommands_4 (by decide) ?_
  refine vs_istore_n X (lv' := [(1, .int 1), (0, rf G 159)]) dX1_countCommands_5 (by decide) rfl ?_
  have L2 : ∀ (f : Nat) (v1 : Int32) (S3 : Wo), VS G p l e ({ frames := 7, cells := 0, slots := 0, locals := 151 } : Room) s m args below meth c 2 (fun r => MQ below (QI G r) args s 0 0 (Af G)) (lpX1_countCommands_6  f v1 S3) 0 0 S3 6 [(0, rf G 159), (1, .int v1)] [] := by
    intro f
    induction f with
    | zero => intro v1 S3; exact vs_none rfl
    | succ f ih =>
        intro v1 S3
        rw [lpX1_countCommands_6]
        refine vs_iload_n X dX1_countCommands_6 1 rfl ?_
        refine vs_bipush X (v := 60) dX1_countCommands_7 (by decide) ?_
        refine vs_icmp_gt X (tgt := 40) dX1_countCommands_9 (by decide) (fun _ => ?_) (fun _ => ?_)
        · refine vs_iconst X (v := (-1)) dX1_countCommands_40 (by decide) ?_
          exact vs_iret X dX1_countCommands_41 (by decide) (by decide)
        · refine vs_aload_n X dX1_countCommands_12 0 rfl ?_
          refine vs_callVi X  (As := []) (st' := []) (mtX1_readCommand hl0 ) (cwV 0 X.2.2.2.2.1 gX1_countCommands_X1_readCommand rfl rfl rfl (by decide +kernel) ⟨Nat.le_of_ble_eq_true rfl, Nat.le_of_ble_eq_true rfl⟩) (by decide) (by decide) rfl rfl rfl (Nat.le_of_ble_eq_true rfl) dX1_countCommands_13 ⟨Nat.le_of_ble_eq_true rfl, Nat.le_of_ble_eq_true rfl⟩ (fun x4 S5 hx4 => ?_)
          refine vs_if_ne X (tgt := 21) dX1_countCommands_16 (by decide) (fun _ => ?_) (fun _ => ?_)
          · refine vs_iconst X (v := (-1)) dX1_countCommands_19 (by decide) ?_
            exact vs_iret X dX1_countCommands_20 (by decide) (by decide)
          · refine vs_aload_n X dX1_countCommands_21 0 rfl ?_
            refine g_Txt  X hinX1 2 (by decide) (by decide +kernel) rfl rfl dX1_countCommands_22 ?_
            refine vs_aload_n X dX1_countCommands_25 0 rfl ?_
            refine g_Txt  X hinX1 1 (by decide) (by decide +kernel) rfl rfl dX1_countCommands_26 ?_
            refine vs_icmp_ne X (tgt := 34) dX1_countCommands_29 (by decide) (fun _ => ?_) (fun _ => ?_)
            · refine vs_iload_n X dX1_countCommands_32 1 rfl ?_
              exact vs_iret X dX1_countCommands_33 (by decide) (by decide)
            · refine vs_iinc X (v := (v1 + 1)) (lv' := [(1, .int (v1 + 1)), (0, rf G 159)]) dX1_countCommands_34 1 rfl rfl (by decide) rfl ?_
              refine vs_goto X (tgt := 6) dX1_countCommands_37 (by decide) ?_
              refine vs_sub [1, 0] (lv' := [(0, rf G 159), (1, .int (v1 + 1))]) rfl ?_
              exact ih (v1 + 1) S5
  refine vs_sub [1, 0] (lv' := [(0, rf G 159), (1, .int 1)]) rfl ?_
  exact L2 200 1 S1

def spX4_get (r N : Nat) (p1 : Int32) (S : Wo) : Option (Int32) :=
  (if p1 < 0 then some 0 else (if (Int32.ofNat N) ≤ p1 then some 0 else (if inb p1 N = true then some (S.2.1 (r + 1) (ix p1)) else none)))
set_option maxHeartbeats 4000000 in
set_option maxRecDepth 100000 in
theorem mtX4_get {l : Launch} (hl0 : l.stackTraces = false) {G : Gt} {r N : Nat} (hw : IsRow r N) (p1 : Int32) {S : Wo} : ∀ x, spX4_get r N p1 S = some x → MI l yX4_get wsX4_get { frames := 0, cells := 0, slots := 0, locals := 0 } G S [rf G r, .int p1] (x, S) 0 0 := by
  refine MIp_of (cc := cX4_get) (own := RX4) (maxL := 2) (ret := (some .int)) (sp := spX4_get r N p1 S) (by decide +kernel) rfl rfl (Nat.le_of_ble_eq_true rfl) ?_
  intro p e s m args below meth c X
  have hinX4 : ∀ w ∈ wsX40, w ∈ wsX4_get := by decide +kernel
  show VS G p l e _ s m args below meth c 2 _ _ 0 0 S 0 [(0, rf G r), (1, .int p1)] []
  unfold spX4_get
  refine vs_iload_n X dX4_get_0 1 rfl ?_
  refine vs_if_lt X (tgt := 22) dX4_get_1 (by decide) (fun _ => ?_) (fun _ => ?_)
  · refine vs_iconst X (v := 0) dX4_get_22 (by decide) ?_
    exact vs_iretp X dX4_get_23 (by decide) (by decide)
  · refine vs_iload_n X dX4_get_4 1 rfl ?_
    refine vs_aload_n X dX4_get_5 0 rfl ?_
    refine g_Row hw X hinX4 0 (by decide) (by decide +kernel) rfl rfl dX4_get_6 ?_
    refine l_Row hw X dX4_get_9 ?_
    refine vs_icmp_ge X (tgt := 22) dX4_get_10 (by decide) (fun _ => ?_) (fun _ => ?_)
    · refine vs_iconst X (v := 0) dX4_get_22 (by decide) ?_
      exact vs_iretp X dX4_get_23 (by decide) (by decide)
    · refine vs_aload_n X dX4_get_13 0 rfl ?_
      refine g_Row hw X hinX4 0 (by decide) (by decide +kernel) rfl rfl dX4_get_14 ?_
      refine vs_iload_n X dX4_get_17 1 rfl ?_
      refine a_Row hw X dX4_get_18 ?_
      refine vs_goto X (tgt := 23) dX4_get_19 (by decide) ?_
      exact vs_iretp X dX4_get_23 (by decide) (by decide)

def spX4_set (r N : Nat) (p1 : Int32) (p2 : Int32) (S : Wo) : Option (Wo) :=
  (if p1 < 0 then some S else (if (Int32.ofNat N) ≤ p1 then some S else (if inb p1 N = true then wr (pF S (r + 1) (upd (S.2.1 (r + 1)) (ix p1) p2)) (fun S1 => some S1) else none)))
set_option maxHeartbeats 4000000 in
set_option maxRecDepth 100000 in
theorem mtX4_set {l : Launch} (hl0 : l.stackTraces = false) {G : Gt} {r N : Nat} (hw : IsRow r N) (p1 : Int32) (p2 : Int32) {S : Wo} : ∀ rr, spX4_set r N p1 p2 S = some rr → MV l yX4_set wsX4_set { frames := 0, cells := 0, slots := 0, locals := 0 } G S [rf G r, .int p1, .int p2] rr 0 0 := by
  refine MV_of (cc := cX4_set) (own := RX4) (maxL := 3) (ret := none) (sp := spX4_set r N p1 p2 S) (by decide +kernel) rfl rfl (Nat.le_of_ble_eq_true rfl) ?_
  intro p e s m args below meth c X
  have hinX4 : ∀ w ∈ wsX40, w ∈ wsX4_set := by decide +kernel
  show VS G p l e _ s m args below meth c 3 _ _ 0 0 S 0 [(0, rf G r), (1, .int p1), (2, .int p2)] []
  unfold spX4_set
  refine vs_iload_n X dX4_set_0 1 rfl ?_
  refine vs_if_lt X (tgt := 20) dX4_set_1 (by decide) (fun _ => ?_) (fun _ => ?_)
  · exact vs_vret X dX4_set_20 (by decide) (by decide)
  · refine vs_iload_n X dX4_set_4 1 rfl ?_
    refine vs_aload_n X dX4_set_5 0 rfl ?_
    refine g_Row hw X hinX4 0 (by decide) (by decide +kernel) rfl rfl dX4_set_6 ?_
    refine l_Row hw X dX4_set_9 ?_
    refine vs_icmp_ge X (tgt := 20) dX4_set_10 (by decide) (fun _ => ?_) (fun _ => ?_)
    · exact vs_vret X dX4_set_20 (by decide) (by decide)
    · refine vs_aload_n X dX4_set_13 0 rfl ?_
      refine g_Row hw X hinX4 0 (by decide) (by decide +kernel) rfl rfl dX4_set_14 ?_
      refine vs_iload_n X dX4_set_17 1 rfl ?_
      refine vs_iload_n X dX4_set_18 2 rfl ?_
      refine s_Row hw X dX4_set_19 (fun S1 hS1 => ?_)
      exact vs_vret X dX4_set_20 (by decide) (by decide)

def lpX4_fill_2 (r N : Nat) (p1 : Int32)   : Nat → Int32 → Wo → Option (Wo)
  | 0, _, _ => none
  | f + 1, v2, S2 => (if (Int32.ofNat N) ≤ v2 then some S2 else (if inb v2 N = true then wr (pF S2 (r + 1) (upd (S2.2.1 (r + 1)) (ix v2) p1)) (fun S3 => lpX4_fill_2 r N p1 f (v2 + 1) S3) else none))
def spX4_fill (r N : Nat) (p1 : Int32) (S : Wo) : Option (Wo) :=
  lpX4_fill_2 r N p1 200 0 S
set_option maxHeartbeats 4000000 in
set_option maxRecDepth 100000 in
theorem mtX4_fill {l : Launch} (hl0 : l.stackTraces = false) {G : Gt} {r N : Nat} (hw : IsRow r N) (p1 : Int32) {S : Wo} : ∀ rr, spX4_fill r N p1 S = some rr → MV l yX4_fill wsX4_fill { frames := 0, cells := 0, slots := 0, locals := 0 } G S [rf G r, .int p1] rr 0 0 := by
  refine MV_of (cc := cX4_fill) (own := RX4) (maxL := 3) (ret := none) (sp := spX4_fill r N p1 S) (by decide +kernel) rfl rfl (Nat.le_of_ble_eq_true rfl) ?_
  intro p e s m args below meth c X
  have hinX4 : ∀ w ∈ wsX40, w ∈ wsX4_fill := by decide +kernel
  show VS G p l e _ s m args below meth c 3 _ _ 0 0 S 0 [(0, rf G r), (1, .int p1)] []
  unfold spX4_fill
  refine vs_iconst X (v := 0) dX4_fill_0 (by decide) ?_
  refine vs_istore_n X (lv' := [(2, .int 0), (0, rf G r), (1, .int p1)]) dX4_fill_1 (by decide) rfl ?_
  have L1 : ∀ (f : Nat) (v2 : Int32) (S2 : Wo), VS G p l e ({ frames := 0, cells := 0, slots := 0, locals := 0 } : Room) s m args below meth c 3 (fun r => MQ below (QV G r) args s 0 0 (Af G)) (lpX4_fill_2 r N p1 f v2 S2) 0 0 S2 2 [(0, rf G r), (1, .int p1), (2, .int v2)] [] := by
    intro f
    induction f with
    | zero => intro v2 S2; exact vs_none rfl
    | succ f ih =>
        intro v2 S2
        rw [lpX4_fill_2]
        refine vs_iload_n X dX4_fill_2 2 rfl ?_
        refine vs_aload_n X dX4_fill_3 0 rfl ?_
        refine g_Row hw X hinX4 0 (by decide) (by decide +kernel) rfl rfl dX4_fill_4 ?_
        refine l_Row hw X dX4_fill_7 ?_
        refine vs_icmp_ge X (tgt := 24) dX4_fill_8 (by decide) (fun _ => ?_) (fun _ => ?_)
        · exact vs_vret X dX4_fill_24 (by decide) (by decide)
        · refine vs_aload_n X dX4_fill_11 0 rfl ?_
          refine g_Row hw X hinX4 0 (by decide) (by decide +kernel) rfl rfl dX4_fill_12 ?_
          refine vs_iload_n X dX4_fill_15 2 rfl ?_
          refine vs_iload_n X dX4_fill_16 1 rfl ?_
          refine s_Row hw X dX4_fill_17 (fun S3 hS3 => ?_)
          refine vs_iinc X (v := (v2 + 1)) (lv' := [(2, .int (v2 + 1)), (0, rf G r), (1, .int p1)]) dX4_fill_18 2 rfl rfl (by decide) rfl ?_
          refine vs_goto X (tgt := 2) dX4_fill_21 (by decide) ?_
          refine vs_sub [1, 2, 0] (lv' := [(0, rf G r), (1, .int p1), (2, .int (v2 + 1))]) rfl ?_
          exact ih (v2 + 1) S3
  refine vs_sub [1, 2, 0] (lv' := [(0, rf G r), (1, .int p1), (2, .int 0)]) rfl ?_
  exact L1 200 0 S

def lpX4_remove_15 (r N : Nat) (p1 : Int32)   : Nat → Int32 → Wo → Option (Wo)
  | 0, _, _ => none
  | f + 1, v2, S2 => (if ((Int32.ofNat N) - 1) ≤ v2 then some S2 else (if inb (v2 + 1) N = true then (if inb v2 N = true then wr (pF S2 (r + 1) (upd (S2.2.1 (r + 1)) (ix v2) (S2.2.1 (r + 1) (ix (v2 + 1))))) (fun S3 => lpX4_remove_15 r N p1 f (v2 + 1) S3) else none) else none))
def spX4_remove (r N : Nat) (p1 : Int32) (S : Wo) : Option (Wo) :=
  (if p1 < 0 then some S else (if (Int32.ofNat N) ≤ p1 then some S else lpX4_remove_15 r N p1 200 p1 S))
set_option maxHeartbeats 4000000 in
set_option maxRecDepth 100000 in
theorem mtX4_remove {l : Launch} (hl0 : l.stackTraces = false) {G : Gt} {r N : Nat} (hw : IsRow r N) (p1 : Int32) {S : Wo} : ∀ rr, spX4_remove r N p1 S = some rr → MV l yX4_remove wsX4_remove { frames := 0, cells := 0, slots := 0, locals := 0 } G S [rf G r, .int p1] rr 0 0 := by
  refine MV_of (cc := cX4_remove) (own := RX4) (maxL := 3) (ret := none) (sp := spX4_remove r N p1 S) (by decide +kernel) rfl rfl (Nat.le_of_ble_eq_true rfl) ?_
  intro p e s m args below meth c X
  have hinX4 : ∀ w ∈ wsX40, w ∈ wsX4_remove := by decide +kernel
  show VS G p l e _ s m args below meth c 3 _ _ 0 0 S 0 [(0, rf G r), (1, .int p1)] []
  unfold spX4_remove
  refine vs_iload_n X dX4_remove_0 1 rfl ?_
  refine vs_if_lt X (tgt := 46) dX4_remove_1 (by decide) (fun _ => ?_) (fun _ => ?_)
  · exact vs_vret X dX4_remove_46 (by decide) (by decide)
  · refine vs_iload_n X dX4_remove_4 1 rfl ?_
    refine vs_aload_n X dX4_remove_5 0 rfl ?_
    refine g_Row hw X hinX4 0 (by decide) (by decide +kernel) rfl rfl dX4_remove_6 ?_
    refine l_Row hw X dX4_remove_9 ?_
    refine vs_icmp_ge X (tgt := 46) dX4_remove_10 (by decide) (fun _ => ?_) (fun _ => ?_)
    · exact vs_vret X dX4_remove_46 (by decide) (by decide)
    · refine vs_iload_n X dX4_remove_13 1 rfl ?_
      refine vs_istore_n X (lv' := [(2, .int p1), (0, rf G r), (1, .int p1)]) dX4_remove_14 (by decide) rfl ?_
      have L1 : ∀ (f : Nat) (v2 : Int32) (S2 : Wo), VS G p l e ({ frames := 0, cells := 0, slots := 0, locals := 0 } : Room) s m args below meth c 3 (fun r => MQ below (QV G r) args s 0 0 (Af G)) (lpX4_remove_15 r N p1 f v2 S2) 0 0 S2 15 [(0, rf G r), (1, .int p1), (2, .int v2)] [] := by
        intro f
        induction f with
        | zero => intro v2 S2; exact vs_none rfl
        | succ f ih =>
            intro v2 S2
            rw [lpX4_remove_15]
            refine vs_iload_n X dX4_remove_15 2 rfl ?_
            refine vs_aload_n X dX4_remove_16 0 rfl ?_
            refine g_Row hw X hinX4 0 (by decide) (by decide +kernel) rfl rfl dX4_remove_17 ?_
            refine l_Row hw X dX4_remove_20 ?_
            refine vs_iconst X (v := 1) dX4_remove_21 (by decide) ?_
            refine vs_isub X dX4_remove_22 ?_
            refine vs_icmp_ge X (tgt := 46) dX4_remove_23 (by decide) (fun _ => ?_) (fun _ => ?_)
            · exact vs_vret X dX4_remove_46 (by decide) (by decide)
            · refine vs_aload_n X dX4_remove_26 0 rfl ?_
              refine g_Row hw X hinX4 0 (by decide) (by decide +kernel) rfl rfl dX4_remove_27 ?_
              refine vs_iload_n X dX4_remove_30 2 rfl ?_
              refine vs_aload_n X dX4_remove_31 0 rfl ?_
              refine g_Row hw X hinX4 0 (by decide) (by decide +kernel) rfl rfl dX4_remove_32 ?_
              refine vs_iload_n X dX4_remove_35 2 rfl ?_
              refine vs_iconst X (v := 1) dX4_remove_36 (by decide) ?_
              refine vs_iadd X dX4_remove_37 ?_
              refine a_Row hw X dX4_remove_38 ?_
              refine s_Row hw X dX4_remove_39 (fun S3 hS3 => ?_)
              refine vs_iinc X (v := (v2 + 1)) (lv' := [(2, .int (v2 + 1)), (0, rf G r), (1, .int p1)]) dX4_remove_40 2 rfl rfl (by decide) rfl ?_
              refine vs_goto X (tgt := 15) dX4_remove_43 (by decide) ?_
              refine vs_sub [1, 2, 0] (lv' := [(0, rf G r), (1, .int p1), (2, .int (v2 + 1))]) rfl ?_
              exact ih (v2 + 1) S3
      refine vs_sub [1, 2, 0] (lv' := [(0, rf G r), (1, .int p1), (2, .int p1)]) rfl ?_
      exact L1 200 p1 S

def spX4_copyFrom (r N : Nat) (r1 N1 : Nat) (S : Wo) : Option (Wo) :=
  (if cpok (if (Int32.ofNat N) < (Int32.ofNat N1) then (Int32.ofNat N) else (Int32.ofNat N1)) N1 N = true then wr (pF S (r + 1) (va_cpy (S.2.1 (r1 + 1)) (S.2.1 (r + 1)) 0 0 (ix (if (Int32.ofNat N) < (Int32.ofNat N1) then (Int32.ofNat N) else (Int32.ofNat N1))))) (fun S1 => some S1) else none)
set_option maxHeartbeats 4000000 in
set_option maxRecDepth 100000 in
theorem mtX4_copyFrom {l : Launch} (hl0 : l.stackTraces = false) {G : Gt} {r N : Nat} (hw : IsRow r N) {r1 N1 : Nat} (hw1 : IsRow r1 N1) {S : Wo} : ∀ rr, spX4_copyFrom r N r1 N1 S = some rr → MV l yX4_copyFrom wsX4_copyFrom { frames := 1, cells := 0, slots := 0, locals := 21 } G S [rf G r, rf G r1] rr 0 0 := by
  refine MV_of (cc := cX4_copyFrom) (own := RX4) (maxL := 2) (ret := none) (sp := spX4_copyFrom r N r1 N1 S) (by decide +kernel) rfl rfl (Nat.le_of_ble_eq_true rfl) ?_
  intro p e s m args below meth c X
  have hinX4 : ∀ w ∈ wsX40, w ∈ wsX4_copyFrom := by decide +kernel
  show VS G p l e _ s m args below meth c 2 _ _ 0 0 S 0 [(0, rf G r), (1, rf G r1)] []
  unfold spX4_copyFrom
  refine vs_aload_n X dX4_copyFrom_0 1 rfl ?_
  refine g_Row hw1 X hinX4 0 (by decide) (by decide +kernel) rfl rfl dX4_copyFrom_1 ?_
  refine vs_iconst X (v := 0) dX4_copyFrom_4 (by decide) ?_
  refine vs_aload_n X dX4_copyFrom_5 0 rfl ?_
  refine g_Row hw X hinX4 0 (by decide) (by decide +kernel) rfl rfl dX4_copyFrom_6 ?_
  refine vs_iconst X (v := 0) dX4_copyFrom_9 (by decide) ?_
  refine vs_aload_n X dX4_copyFrom_10 1 rfl ?_
  refine g_Row hw1 X hinX4 0 (by decide) (by decide +kernel) rfl rfl dX4_copyFrom_11 ?_
  refine l_Row hw1 X dX4_copyFrom_14 ?_
  refine vs_aload_n X dX4_copyFrom_15 0 rfl ?_
  refine g_Row hw X hinX4 0 (by decide) (by decide +kernel) rfl rfl dX4_copyFrom_16 ?_
  refine l_Row hw X dX4_copyFrom_19 ?_
  refine vs_mmin X (by decide +kernel) (by decide +kernel) (by decide +kernel) (by decide +kernel) (Nat.le_of_ble_eq_true rfl) (Nat.le_of_ble_eq_true rfl) (Nat.le_of_ble_eq_true rfl) (Nat.le_of_ble_eq_true rfl) dX4_copyFrom_20 ?_
  refine vs_copyRow hw hw1 X (by decide +kernel) (by decide +kernel) (by decide +kernel) (by decide +kernel) (Nat.le_of_ble_eq_true rfl) (Nat.le_of_ble_eq_true rfl) dX4_copyFrom_23 (fun S1 hS1 => ?_)
  exact vs_vret X dX4_copyFrom_26 (by decide) (by decide)

def spJ9_floorMod_7cf53 (p1 : Int32) (p2 : Int32) (S : Wo) : Option (Int32) :=
  (if p2 = 0 then none else (if (0 : Int32) ≤ (p1 ^^^ p2) then some (p1 - p1 / p2 * p2) else (if (p1 - p1 / p2 * p2) = 0 then some (p1 - p1 / p2 * p2) else some ((p1 - p1 / p2 * p2) + p2))))
set_option maxHeartbeats 4000000 in
set_option maxRecDepth 100000 in
theorem mtJ9_floorMod_7cf53 {l : Launch} (hl0 : l.stackTraces = false) {G : Gt} (p1 : Int32) (p2 : Int32) {S : Wo} : ∀ x, spJ9_floorMod_7cf53 p1 p2 S = some x → MI l yJ9_floorMod_7cf53 wsJ9_floorMod_7cf53 { frames := 0, cells := 0, slots := 0, locals := 0 } G S [.int p1, .int p2] (x, S) 0 0 := by
  refine MIpF_of (cc := cJ9_floorMod_7cf53) (own := RJ9) (maxL := 3) (ret := (some .int)) (sp := spJ9_floorMod_7cf53 p1 p2 S) (by decide +kernel) rfl rfl (Nat.le_of_ble_eq_true rfl) ?_
  intro p e s m args below meth c X
  show VS G p l e _ s m args below meth c 3 _ _ 0 0 S 0 [(0, .int p1), (1, .int p2)] []
  unfold spJ9_floorMod_7cf53
  refine vs_iload_n X dJ9_floorMod_7cf53_0 0 rfl ?_
  refine vs_iload_n X dJ9_floorMod_7cf53_1 1 rfl ?_
  refine vs_iremg X dJ9_floorMod_7cf53_2 (fun _ => ?_)
  refine vs_istore_n X (lv' := [(2, .int (p1 - p1 / p2 * p2)), (0, .int p1), (1, .int p2)]) dJ9_floorMod_7cf53_3 (by decide) rfl ?_
  refine vs_iload_n X dJ9_floorMod_7cf53_4 1 rfl ?_
  refine vs_iload_n X dJ9_floorMod_7cf53_5 2 rfl ?_
  refine vs_ixor X dJ9_floorMod_7cf53_6 ?_
  refine vs_if_ge X (tgt := 18) dJ9_floorMod_7cf53_7 (by decide) (fun _ => ?_) (fun _ => ?_)
  · refine vs_iload_n X dJ9_floorMod_7cf53_18 0 rfl ?_
    exact vs_iretp X dJ9_floorMod_7cf53_19 (by decide) (by decide)
  · refine vs_iload_n X dJ9_floorMod_7cf53_10 0 rfl ?_
    refine vs_if_eq X (tgt := 18) dJ9_floorMod_7cf53_11 (by decide) (fun _ => ?_) (fun _ => ?_)
    · refine vs_iload_n X dJ9_floorMod_7cf53_18 0 rfl ?_
      exact vs_iretp X dJ9_floorMod_7cf53_19 (by decide) (by decide)
    · refine vs_iload_n X dJ9_floorMod_7cf53_14 0 rfl ?_
      refine vs_iload_n X dJ9_floorMod_7cf53_15 2 rfl ?_
      refine vs_iadd X dJ9_floorMod_7cf53_16 ?_
      exact vs_iretp X dJ9_floorMod_7cf53_17 (by decide) (by decide)

def spJ6_bitCount_0f7a4 (p1 : Int32) (S : Wo) : Option (Int32) :=
  nm (p1 - ((((p1 : Int32).toUInt32 >>> ((1 : Int32).toUInt32 &&& Int32.toUInt32 31)).toInt32) &&& 1431655765)) (fun y1 => nm ((y1 &&& 858993459) + ((((y1 : Int32).toUInt32 >>> ((2 : Int32).toUInt32 &&& Int32.toUInt32 31)).toInt32) &&& 858993459)) (fun y2 => nm ((y2 + (((y2 : Int32).toUInt32 >>> ((4 : Int32).toUInt32 &&& Int32.toUInt32 31)).toInt32)) &&& 252645135) (fun y3 => nm (y3 + (((y3 : Int32).toUInt32 >>> ((8 : Int32).toUInt32 &&& Int32.toUInt32 31)).toInt32)) (fun y4 => nm (y4 + (((y4 : Int32).toUInt32 >>> ((16 : Int32).toUInt32 &&& Int32.toUInt32 31)).toInt32)) (fun y5 => some (y5 &&& 63))))))
set_option maxHeartbeats 4000000 in
set_option maxRecDepth 100000 in
theorem mtJ6_bitCount_0f7a4 {l : Launch} (hl0 : l.stackTraces = false) {G : Gt} (p1 : Int32) {S : Wo} : ∀ x, spJ6_bitCount_0f7a4 p1 S = some x → MI l yJ6_bitCount_0f7a4 wsJ6_bitCount_0f7a4 { frames := 0, cells := 0, slots := 0, locals := 0 } G S [.int p1] (x, S) 0 0 := by
  refine MIpF_of (cc := cJ6_bitCount_0f7a4) (own := RJ6) (maxL := 1) (ret := (some .int)) (sp := spJ6_bitCount_0f7a4 p1 S) (by decide +kernel) rfl rfl (Nat.le_of_ble_eq_true rfl) ?_
  intro p e s m args below meth c X
  show VS G p l e _ s m args below meth c 1 _ _ 0 0 S 0 [(0, .int p1)] []
  unfold spJ6_bitCount_0f7a4
  refine vs_iload_n X dJ6_bitCount_0f7a4_0 0 rfl ?_
  refine vs_iload_n X dJ6_bitCount_0f7a4_1 0 rfl ?_
  refine vs_iconst X (v := 1) dJ6_bitCount_0f7a4_2 (by decide) ?_
  refine vs_iushr X (v := (((p1 : Int32).toUInt32 >>> ((1 : Int32).toUInt32 &&& Int32.toUInt32 31)).toInt32)) dJ6_bitCount_0f7a4_3 rfl ?_
  refine vs_ldcw X (i := 1431655765) (by decide +kernel) dJ6_bitCount_0f7a4_4 ?_
  refine vs_iand X dJ6_bitCount_0f7a4_7 ?_
  refine vs_isub X dJ6_bitCount_0f7a4_8 ?_
  refine vs_nm (fun y1 hy1 => ?_)
  refine vs_istore_n X (lv' := [(0, .int y1)]) dJ6_bitCount_0f7a4_9 (by decide) rfl ?_
  refine vs_iload_n X dJ6_bitCount_0f7a4_10 0 rfl ?_
  refine vs_ldcw X (i := 858993459) (by decide +kernel) dJ6_bitCount_0f7a4_11 ?_
  refine vs_iand X dJ6_bitCount_0f7a4_14 ?_
  refine vs_iload_n X dJ6_bitCount_0f7a4_15 0 rfl ?_
  refine vs_iconst X (v := 2) dJ6_bitCount_0f7a4_16 (by decide) ?_
  refine vs_iushr X (v := (((y1 : Int32).toUInt32 >>> ((2 : Int32).toUInt32 &&& Int32.toUInt32 31)).toInt32)) dJ6_bitCount_0f7a4_17 rfl ?_
  refine vs_ldcw X (i := 858993459) (by decide +kernel) dJ6_bitCount_0f7a4_18 ?_
  refine vs_iand X dJ6_bitCount_0f7a4_21 ?_
  refine vs_iadd X dJ6_bitCount_0f7a4_22 ?_
  refine vs_nm (fun y2 hy2 => ?_)
  refine vs_istore_n X (lv' := [(0, .int y2)]) dJ6_bitCount_0f7a4_23 (by decide) rfl ?_
  refine vs_iload_n X dJ6_bitCount_0f7a4_24 0 rfl ?_
  refine vs_iload_n X dJ6_bitCount_0f7a4_25 0 rfl ?_
  refine vs_iconst X (v := 4) dJ6_bitCount_0f7a4_26 (by decide) ?_
  refine vs_iushr X (v := (((y2 : Int32).toUInt32 >>> ((4 : Int32).toUInt32 &&& Int32.toUInt32 31)).toInt32)) dJ6_bitCount_0f7a4_27 rfl ?_
  refine vs_iadd X dJ6_bitCount_0f7a4_28 ?_
  refine vs_ldcw X (i := 252645135) (by decide +kernel) dJ6_bitCount_0f7a4_29 ?_
  refine vs_iand X dJ6_bitCount_0f7a4_32 ?_
  refine vs_nm (fun y3 hy3 => ?_)
  refine vs_istore_n X (lv' := [(0, .int y3)]) dJ6_bitCount_0f7a4_33 (by decide) rfl ?_
  refine vs_iload_n X dJ6_bitCount_0f7a4_34 0 rfl ?_
  refine vs_iload_n X dJ6_bitCount_0f7a4_35 0 rfl ?_
  refine vs_bipush X (v := 8) dJ6_bitCount_0f7a4_36 (by decide) ?_
  refine vs_iushr X (v := (((y3 : Int32).toUInt32 >>> ((8 : Int32).toUInt32 &&& Int32.toUInt32 31)).toInt32)) dJ6_bitCount_0f7a4_38 rfl ?_
  refine vs_iadd X dJ6_bitCount_0f7a4_39 ?_
  refine vs_nm (fun y4 hy4 => ?_)
  refine vs_istore_n X (lv' := [(0, .int y4)]) dJ6_bitCount_0f7a4_40 (by decide) rfl ?_
  refine vs_iload_n X dJ6_bitCount_0f7a4_41 0 rfl ?_
  refine vs_iload_n X dJ6_bitCount_0f7a4_42 0 rfl ?_
  refine vs_bipush X (v := 16) dJ6_bitCount_0f7a4_43 (by decide) ?_
  refine vs_iushr X (v := (((y4 : Int32).toUInt32 >>> ((16 : Int32).toUInt32 &&& Int32.toUInt32 31)).toInt32)) dJ6_bitCount_0f7a4_45 rfl ?_
  refine vs_iadd X dJ6_bitCount_0f7a4_46 ?_
  refine vs_nm (fun y5 hy5 => ?_)
  refine vs_istore_n X (lv' := [(0, .int y5)]) dJ6_bitCount_0f7a4_47 (by decide) rfl ?_
  refine vs_iload_n X dJ6_bitCount_0f7a4_48 0 rfl ?_
  refine vs_bipush X (v := 63) dJ6_bitCount_0f7a4_49 (by decide) ?_
  refine vs_iand X dJ6_bitCount_0f7a4_51 ?_
  exact vs_iretp X dJ6_bitCount_0f7a4_52 (by decide) (by decide)

def spX6_has (p1 : Int32) (p2 : Int32) (S : Wo) : Option (Int32) :=
  (if ((p1 >>> (p2 &&& 31)) &&& 1) = 1 then rz 1 some else rz 0 some)
set_option maxHeartbeats 4000000 in
set_option maxRecDepth 100000 in
theorem mtX6_has {l : Launch} (hl0 : l.stackTraces = false) {G : Gt} (p1 : Int32) (p2 : Int32) {S : Wo} : ∀ x, spX6_has p1 p2 S = some x → MI l yX6_has wsX6_has { frames := 0, cells := 0, slots := 0, locals := 0 } G S [.int p1, .int p2] (x, S) 0 0 := by
  refine MIp_of (cc := cX6_has) (own := RX6) (maxL := 2) (ret := (some .boolean)) (sp := spX6_has p1 p2 S) (by decide +kernel) rfl rfl (Nat.le_of_ble_eq_true rfl) ?_
  intro p e s m args below meth c X
  show VS G p l e _ s m args below meth c 2 _ _ 0 0 S 0 [(0, .int p1), (1, .int p2)] []
  unfold spX6_has
  refine vs_iload_n X dX6_has_0 0 rfl ?_
  refine vs_iload_n X dX6_has_1 1 rfl ?_
  refine vs_ishr X dX6_has_2 ?_
  refine vs_iconst X (v := 1) dX6_has_3 (by decide) ?_
  refine vs_iand X dX6_has_4 ?_
  refine vs_iconst X (v := 1) dX6_has_5 (by decide) ?_
  refine vs_icmp_ne X (tgt := 13) dX6_has_6 (by decide) (fun _ => ?_) (fun _ => ?_)
  · refine vs_iconst X (v := 1) dX6_has_9 (by decide) ?_
    refine vs_goto X (tgt := 14) dX6_has_10 (by decide) ?_
    exact vs_zretp X dX6_has_14 (by decide) (by decide)
  · refine vs_iconst X (v := 0) dX6_has_13 (by decide) ?_
    exact vs_zretp X dX6_has_14 (by decide) (by decide)

def spX6_isField (p1 : Int32) (S : Wo) : Option (Int32) :=
  (if p1 < 0 then rz 0 some else (if (16 : Int32) ≤ p1 then rz 0 some else rz 1 some))
set_option maxHeartbeats 4000000 in
set_option maxRecDepth 100000 in
theorem mtX6_isField {l : Launch} (hl0 : l.stackTraces = false) {G : Gt} (p1 : Int32) {S : Wo} : ∀ x, spX6_isField p1 S = some x → MI l yX6_isField wsX6_isField { frames := 0, cells := 0, slots := 0, locals := 0 } G S [.int p1] (x, S) 0 0 := by
  refine MIp_of (cc := cX6_isField) (own := RX6) (maxL := 1) (ret := (some .boolean)) (sp := spX6_isField p1 S) (by decide +kernel) rfl rfl (Nat.le_of_ble_eq_true rfl) ?_
  intro p e s m args below meth c X
  show VS G p l e _ s m args below meth c 1 _ _ 0 0 S 0 [(0, .int p1)] []
  unfold spX6_isField
  refine vs_iload_n X dX6_isField_0 0 rfl ?_
  refine vs_if_lt X (tgt := 14) dX6_isField_1 (by decide) (fun _ => ?_) (fun _ => ?_)
  · refine vs_iconst X (v := 0) dX6_isField_14 (by decide) ?_
    exact vs_zretp X dX6_isField_15 (by decide) (by decide)
  · refine vs_iload_n X dX6_isField_4 0 rfl ?_
    refine vs_bipush X (v := 16) dX6_isField_5 (by decide) ?_
    refine vs_icmp_ge X (tgt := 14) dX6_isField_7 (by decide) (fun _ => ?_) (fun _ => ?_)
    · refine vs_iconst X (v := 0) dX6_isField_14 (by decide) ?_
      exact vs_zretp X dX6_isField_15 (by decide) (by decide)
    · refine vs_iconst X (v := 1) dX6_isField_10 (by decide) ?_
      refine vs_goto X (tgt := 15) dX6_isField_11 (by decide) ?_
      exact vs_zretp X dX6_isField_15 (by decide) (by decide)

def spX6_canBeHeldFor (p1 : Int32) (S : Wo) : Option (Int32) :=
  (if p1 < 0 then rz 0 some else (if (99 : Int32) < p1 then rz 0 some else rz 1 some))
set_option maxHeartbeats 4000000 in
set_option maxRecDepth 100000 in
theorem mtX6_canBeHeldFor {l : Launch} (hl0 : l.stackTraces = false) {G : Gt} (p1 : Int32) {S : Wo} : ∀ x, spX6_canBeHeldFor p1 S = some x → MI l yX6_canBeHeldFor wsX6_canBeHeldFor { frames := 0, cells := 0, slots := 0, locals := 0 } G S [.int p1] (x, S) 0 0 := by
  refine MIp_of (cc := cX6_canBeHeldFor) (own := RX6) (maxL := 1) (ret := (some .boolean)) (sp := spX6_canBeHeldFor p1 S) (by decide +kernel) rfl rfl (Nat.le_of_ble_eq_true rfl) ?_
  intro p e s m args below meth c X
  show VS G p l e _ s m args below meth c 1 _ _ 0 0 S 0 [(0, .int p1)] []
  unfold spX6_canBeHeldFor
  refine vs_iload_n X dX6_canBeHeldFor_0 0 rfl ?_
  refine vs_if_lt X (tgt := 14) dX6_canBeHeldFor_1 (by decide) (fun _ => ?_) (fun _ => ?_)
  · refine vs_iconst X (v := 0) dX6_canBeHeldFor_14 (by decide) ?_
    exact vs_zretp X dX6_canBeHeldFor_15 (by decide) (by decide)
  · refine vs_iload_n X dX6_canBeHeldFor_4 0 rfl ?_
    refine vs_bipush X (v := 99) dX6_canBeHeldFor_5 (by decide) ?_
    refine vs_icmp_gt X (tgt := 14) dX6_canBeHeldFor_7 (by decide) (fun _ => ?_) (fun _ => ?_)
    · refine vs_iconst X (v := 0) dX6_canBeHeldFor_14 (by decide) ?_
      exact vs_zretp X dX6_canBeHeldFor_15 (by decide) (by decide)
    · refine vs_iconst X (v := 1) dX6_canBeHeldFor_10 (by decide) ?_
      refine vs_goto X (tgt := 15) dX6_canBeHeldFor_11 (by decide) ?_
      exact vs_zretp X dX6_canBeHeldFor_15 (by decide) (by decide)

def spX6_lookOn (p1 : Int32) (S : Wo) : Option (Int32) :=
  (spJ9_floorMod_7cf53 (7 * p1) 16 S).bind (fun x1 => some x1)
set_option maxHeartbeats 4000000 in
set_option maxRecDepth 100000 in
theorem mtX6_lookOn {l : Launch} (hl0 : l.stackTraces = false) {G : Gt} (p1 : Int32) {S : Wo} : ∀ x, spX6_lookOn p1 S = some x → MI l yX6_lookOn wsX6_lookOn { frames := 1, cells := 0, slots := 0, locals := 22 } G S [.int p1] (x, S) 0 0 := by
  refine MIp_of (cc := cX6_lookOn) (own := RX6) (maxL := 1) (ret := (some .int)) (sp := spX6_lookOn p1 S) (by decide +kernel) rfl rfl (Nat.le_of_ble_eq_true rfl) ?_
  intro p e s m args below meth c X
  show VS G p l e _ s m args below meth c 1 _ _ 0 0 S 0 [(0, .int p1)] []
  unfold spX6_lookOn
  refine vs_bipush X (v := 7) dX6_lookOn_0 (by decide) ?_
  refine vs_iload_n X dX6_lookOn_2 0 rfl ?_
  refine vs_imul X dX6_lookOn_3 ?_
  refine vs_bipush X (v := 16) dX6_lookOn_4 (by decide) ?_
  refine vs_callSp X  (As := [.int (7 * p1), .int 16]) (st' := []) (mtJ9_floorMod_7cf53 hl0 (7 * p1) 16) (va_cwS 2 X.2.2.2.2.1 gX6_lookOn_J9_floorMod_7cf53 rfl rfl rfl (by decide +kernel) ⟨Nat.le_of_ble_eq_true rfl, Nat.le_of_ble_eq_true rfl⟩) rfl (Nat.le_of_ble_eq_true rfl) dX6_lookOn_6 ⟨Nat.le_of_ble_eq_true rfl, Nat.le_of_ble_eq_true rfl⟩ (fun x1 hx1 => ?_)
  exact vs_iretp X dX6_lookOn_9 (by decide) (by decide)

def spX6_distance (p1 : Int32) (p2 : Int32) (S : Wo) : Option (Int32) :=
  some ((if 0 ≤ ((p1 / 4) - (p2 / 4)) then ((p1 / 4) - (p2 / 4)) else 0 - ((p1 / 4) - (p2 / 4))) + (if 0 ≤ ((p1 - p1 / 4 * 4) - (p2 - p2 / 4 * 4)) then ((p1 - p1 / 4 * 4) - (p2 - p2 / 4 * 4)) else 0 - ((p1 - p1 / 4 * 4) - (p2 - p2 / 4 * 4))))
set_option maxHeartbeats 4000000 in
set_option maxRecDepth 100000 in
theorem mtX6_distance {l : Launch} (hl0 : l.stackTraces = false) {G : Gt} (p1 : Int32) (p2 : Int32) {S : Wo} : ∀ x, spX6_distance p1 p2 S = some x → MI l yX6_distance wsX6_distance { frames := 1, cells := 0, slots := 0, locals := 15 } G S [.int p1, .int p2] (x, S) 0 0 := by
  refine MIp_of (cc := cX6_distance) (own := RX6) (maxL := 2) (ret := (some .int)) (sp := spX6_distance p1 p2 S) (by decide +kernel) rfl rfl (Nat.le_of_ble_eq_true rfl) ?_
  intro p e s m args below meth c X
  show VS G p l e _ s m args below meth c 2 _ _ 0 0 S 0 [(0, .int p1), (1, .int p2)] []
  unfold spX6_distance
  refine vs_iload_n X dX6_distance_0 0 rfl ?_
  refine vs_iconst X (v := 4) dX6_distance_1 (by decide) ?_
  refine vs_idiv X dX6_distance_2 (by decide) ?_
  refine vs_iload_n X dX6_distance_3 1 rfl ?_
  refine vs_iconst X (v := 4) dX6_distance_4 (by decide) ?_
  refine vs_idiv X dX6_distance_5 (by decide) ?_
  refine vs_isub X dX6_distance_6 ?_
  refine vs_mabs X (by decide +kernel) (by decide +kernel) (by decide +kernel) (by decide +kernel) (Nat.le_of_ble_eq_true rfl) (Nat.le_of_ble_eq_true rfl) (Nat.le_of_ble_eq_true rfl) (Nat.le_of_ble_eq_true rfl) dX6_distance_7 ?_
  refine vs_iload_n X dX6_distance_10 0 rfl ?_
  refine vs_iconst X (v := 4) dX6_distance_11 (by decide) ?_
  refine vs_irem X dX6_distance_12 (by decide) ?_
  refine vs_iload_n X dX6_distance_13 1 rfl ?_
  refine vs_iconst X (v := 4) dX6_distance_14 (by decide) ?_
  refine vs_irem X dX6_distance_15 (by decide) ?_
  refine vs_isub X dX6_distance_16 ?_
  refine vs_mabs X (by decide +kernel) (by decide +kernel) (by decide +kernel) (by decide +kernel) (Nat.le_of_ble_eq_true rfl) (Nat.le_of_ble_eq_true rfl) (Nat.le_of_ble_eq_true rfl) (Nat.le_of_ble_eq_true rfl) dX6_distance_17 ?_
  refine vs_iadd X dX6_distance_20 ?_
  exact vs_iretp X dX6_distance_21 (by decide) (by decide)

def spX6_fieldsNear (p1 : Int32) (S : Wo) : Option (Int32) :=
  jn (β := Int32 → Option (Int32)) (fun (v2 : Int32) => jn (β := Int32 → Option (Int32)) (fun (v4 : Int32) => jn (β := Int32 → Option (Int32)) (fun (v6 : Int32) => (if (3 : Int32) ≤ (p1 - p1 / 4 * 4) then some v6 else some (v6 ||| (1 <<< ((p1 + 1) &&& 31))))) (fun k7 => (if (p1 - p1 / 4 * 4) ≤ 0 then k7 v4 else k7 (v4 ||| (1 <<< ((p1 - 1) &&& 31)))))) (fun k5 => (if (3 : Int32) ≤ (p1 / 4) then k5 v2 else k5 (v2 ||| (1 <<< ((p1 + 4) &&& 31)))))) (fun k3 => (if (p1 / 4) ≤ 0 then k3 (1 <<< (p1 &&& 31)) else nm ((1 <<< (p1 &&& 31)) ||| (1 <<< ((p1 - 4) &&& 31))) (fun y1 => k3 y1)))
set_option maxHeartbeats 4000000 in
set_option maxRecDepth 100000 in
theorem mtX6_fieldsNear {l : Launch} (hl0 : l.stackTraces = false) {G : Gt} (p1 : Int32) {S : Wo} : ∀ x, spX6_fieldsNear p1 S = some x → MI l yX6_fieldsNear wsX6_fieldsNear { frames := 0, cells := 0, slots := 0, locals := 0 } G S [.int p1] (x, S) 0 0 := by
  refine MIp_of (cc := cX6_fieldsNear) (own := RX6) (maxL := 4) (ret := (some .int)) (sp := spX6_fieldsNear p1 S) (by decide +kernel) rfl rfl (Nat.le_of_ble_eq_true rfl) ?_
  intro p e s m args below meth c X
  show VS G p l e _ s m args below meth c 4 _ _ 0 0 S 0 [(0, .int p1)] []
  unfold spX6_fieldsNear
  refine vs_iload_n X dX6_fieldsNear_0 0 rfl ?_
  refine vs_iconst X (v := 4) dX6_fieldsNear_1 (by decide) ?_
  refine vs_idiv X dX6_fieldsNear_2 (by decide) ?_
  refine vs_istore_n X (lv' := [(1, .int (p1 / 4)), (0, .int p1)]) dX6_fieldsNear_3 (by decide) rfl ?_
  refine vs_iload_n X dX6_fieldsNear_4 1 rfl ?_
  refine vs_iconst X (v := 4) dX6_fieldsNear_5 (by decide) ?_
  refine vs_irem X dX6_fieldsNear_6 (by decide) ?_
  refine vs_istore_n X (lv' := [(2, .int (p1 - p1 / 4 * 4)), (1, .int (p1 / 4)), (0, .int p1)]) dX6_fieldsNear_7 (by decide) rfl ?_
  refine vs_iconst X (v := 1) dX6_fieldsNear_8 (by decide) ?_
  refine vs_iload_n X dX6_fieldsNear_9 2 rfl ?_
  refine vs_ishl X dX6_fieldsNear_10 ?_
  refine vs_istore_n X (lv' := [(3, .int (1 <<< (p1 &&& 31))), (2, .int (p1 - p1 / 4 * 4)), (1, .int (p1 / 4)), (0, .int p1)]) dX6_fieldsNear_11 (by decide) rfl ?_
  refine vs_iload_n X dX6_fieldsNear_12 2 rfl ?_
  refine vs_jn (β := Int32 → Option (Int32)) (P := fun k3 => ∀ (v2 : Int32), VS G p l e ({ frames := 0, cells := 0, slots := 0, locals := 0 } : Room) s m args below meth c 4 (fun x => MQ below (QI G (x, S)) args s 0 0 (Af G)) (k3 v2) 0 0 S 24 [(0, .int p1), (1, .int (p1 / 4)), (2, .int (p1 - p1 / 4 * 4)), (3, .int v2)] []) (fun v2 => ?_) (fun k3 hk3 => ?_)
  · refine vs_iload_n X dX6_fieldsNear_24 1 rfl ?_
    refine vs_iconst X (v := 3) dX6_fieldsNear_25 (by decide) ?_
    refine vs_jn (β := Int32 → Option (Int32)) (P := fun k5 => ∀ (v4 : Int32), VS G p l e ({ frames := 0, cells := 0, slots := 0, locals := 0 } : Room) s m args below meth c 4 (fun x => MQ below (QI G (x, S)) args s 0 0 (Af G)) (k5 v4) 0 0 S 37 [(0, .int p1), (1, .int (p1 / 4)), (2, .int (p1 - p1 / 4 * 4)), (3, .int v4)] []) (fun v4 => ?_) (fun k5 hk5 => ?_)
    · refine vs_iload_n X dX6_fieldsNear_37 2 rfl ?_
      refine vs_jn (β := Int32 → Option (Int32)) (P := fun k7 => ∀ (v6 : Int32), VS G p l e ({ frames := 0, cells := 0, slots := 0, locals := 0 } : Room) s m args below meth c 4 (fun x => MQ below (QI G (x, S)) args s 0 0 (Af G)) (k7 v6) 0 0 S 49 [(0, .int p1), (1, .int (p1 / 4)), (2, .int (p1 - p1 / 4 * 4)), (3, .int v6)] []) (fun v6 => ?_) (fun k7 hk7 => ?_)
      · refine vs_iload_n X dX6_fieldsNear_49 2 rfl ?_
        refine vs_iconst X (v := 3) dX6_fieldsNear_50 (by decide) ?_
        refine vs_icmp_ge X (tgt := 62) dX6_fieldsNear_51 (by decide) (fun _ => ?_) (fun _ => ?_)
        · refine vs_iload_n X dX6_fieldsNear_62 3 rfl ?_
          exact vs_iretp X dX6_fieldsNear_63 (by decide) (by decide)
        · refine vs_iload_n X dX6_fieldsNear_54 3 rfl ?_
          refine vs_iconst X (v := 1) dX6_fieldsNear_55 (by decide) ?_
          refine vs_iload_n X dX6_fieldsNear_56 0 rfl ?_
          refine vs_iconst X (v := 1) dX6_fieldsNear_57 (by decide) ?_
          refine vs_iadd X dX6_fieldsNear_58 ?_
          refine vs_ishl X dX6_fieldsNear_59 ?_
          refine vs_ior X dX6_fieldsNear_60 ?_
          refine vs_istore_n X (lv' := [(3, .int (v6 ||| (1 <<< ((p1 + 1) &&& 31)))), (0, .int p1), (1, .int (p1 / 4)), (2, .int (p1 - p1 / 4 * 4))]) dX6_fieldsNear_61 (by decide) rfl ?_
          refine vs_iload_n X dX6_fieldsNear_62 0 rfl ?_
          exact vs_iretp X dX6_fieldsNear_63 (by decide) (by decide)
      · refine vs_if_le X (tgt := 49) dX6_fieldsNear_38 (by decide) (fun _ => ?_) (fun _ => ?_)
        · exact vs_join [0, 1, 2, 3] (Nat.le_of_ble_eq_true rfl) (Nat.le_of_ble_eq_true rfl) rfl (hk7 v4)
        · refine vs_iload_n X dX6_fieldsNear_41 3 rfl ?_
          refine vs_iconst X (v := 1) dX6_fieldsNear_42 (by decide) ?_
          refine vs_iload_n X dX6_fieldsNear_43 0 rfl ?_
          refine vs_iconst X (v := 1) dX6_fieldsNear_44 (by decide) ?_
          refine vs_isub X dX6_fieldsNear_45 ?_
          refine vs_ishl X dX6_fieldsNear_46 ?_
          refine vs_ior X dX6_fieldsNear_47 ?_
          refine vs_istore_n X (lv' := [(3, .int (v4 ||| (1 <<< ((p1 - 1) &&& 31)))), (0, .int p1), (1, .int (p1 / 4)), (2, .int (p1 - p1 / 4 * 4))]) dX6_fieldsNear_48 (by decide) rfl ?_
          exact vs_join [1, 2, 3, 0] (Nat.le_of_ble_eq_true rfl) (Nat.le_of_ble_eq_true rfl) rfl (hk7 (v4 ||| (1 <<< ((p1 - 1) &&& 31))))
    · refine vs_icmp_ge X (tgt := 37) dX6_fieldsNear_26 (by decide) (fun _ => ?_) (fun _ => ?_)
      · exact vs_join [0, 1, 2, 3] (Nat.le_of_ble_eq_true rfl) (Nat.le_of_ble_eq_true rfl) rfl (hk5 v2)
      · refine vs_iload_n X dX6_fieldsNear_29 3 rfl ?_
        refine vs_iconst X (v := 1) dX6_fieldsNear_30 (by decide) ?_
        refine vs_iload_n X dX6_fieldsNear_31 0 rfl ?_
        refine vs_iconst X (v := 4) dX6_fieldsNear_32 (by decide) ?_
        refine vs_iadd X dX6_fieldsNear_33 ?_
        refine vs_ishl X dX6_fieldsNear_34 ?_
        refine vs_ior X dX6_fieldsNear_35 ?_
        refine vs_istore_n X (lv' := [(3, .int (v2 ||| (1 <<< ((p1 + 4) &&& 31)))), (0, .int p1), (1, .int (p1 / 4)), (2, .int (p1 - p1 / 4 * 4))]) dX6_fieldsNear_36 (by decide) rfl ?_
        exact vs_join [1, 2, 3, 0] (Nat.le_of_ble_eq_true rfl) (Nat.le_of_ble_eq_true rfl) rfl (hk5 (v2 ||| (1 <<< ((p1 + 4) &&& 31))))
  · refine vs_if_le X (tgt := 24) dX6_fieldsNear_13 (by decide) (fun _ => ?_) (fun _ => ?_)
    · exact vs_join [3, 2, 1, 0] (Nat.le_of_ble_eq_true rfl) (Nat.le_of_ble_eq_true rfl) rfl (hk3 (1 <<< (p1 &&& 31)))
    · refine vs_iload_n X dX6_fieldsNear_16 0 rfl ?_
      refine vs_iconst X (v := 1) dX6_fieldsNear_17 (by decide) ?_
      refine vs_iload_n X dX6_fieldsNear_18 3 rfl ?_
      refine vs_iconst X (v := 4) dX6_fieldsNear_19 (by decide) ?_
      refine vs_isub X dX6_fieldsNear_20 ?_
      refine vs_ishl X dX6_fieldsNear_21 ?_
      refine vs_ior X dX6_fieldsNear_22 ?_
      refine vs_nm (fun y1 hy1 => ?_)
      refine vs_istore_n X (lv' := [(3, .int y1), (2, .int (p1 - p1 / 4 * 4)), (1, .int (p1 / 4)), (0, .int p1)]) dX6_fieldsNear_23 (by decide) rfl ?_
      exact vs_join [3, 2, 1, 0] (Nat.le_of_ble_eq_true rfl) (Nat.le_of_ble_eq_true rfl) rfl (hk3 y1)

def spX5_copyFrom (o : Nat) (o1 : Nat) (S : Wo) : Option (Wo) :=
  (spX4_copyFrom (o + 1) 10 (o1 + 1) 10 S).bind (fun S1 => wr (pI S1 o 1 (S1.1 o1 1)) (fun S2 => wr (pI S2 o 2 (S2.1 o1 2)) (fun S3 => (spX4_copyFrom (o + 3) 20 (o1 + 3) 20 S3).bind (fun S4 => (spX4_copyFrom (o + 5) 20 (o1 + 5) 20 S4).bind (fun S5 => (spX4_copyFrom (o + 7) 20 (o1 + 7) 20 S5).bind (fun S6 => (spX4_copyFrom (o + 9) 20 (o1 + 9) 20 S6).bind (fun S7 => wr (pI S7 o 7 (S7.1 o1 7)) (fun S8 => (spX4_copyFrom (o + 11) 16 (o1 + 11) 16 S8).bind (fun S9 => wr (pI S9 o 9 (S9.1 o1 9)) (fun S10 => wr (pI S10 o 10 (S10.1 o1 10)) (fun S11 => wr (pI S11 o 11 (S11.1 o1 11)) (fun S12 => some S12))))))))))))
set_option maxHeartbeats 4000000 in
set_option maxRecDepth 100000 in
theorem mtX5_copyFrom {l : Launch} (hl0 : l.stackTraces = false) {G : Gt} {o : Nat} (ho : o ∈ stL) {o1 : Nat} (ho1 : o1 ∈ stL) {S : Wo} : ∀ rr, spX5_copyFrom o o1 S = some rr → MV l yX5_copyFrom wsX5_copyFrom { frames := 2, cells := 0, slots := 0, locals := 42 } G S [rf G o, rf G o1] rr 0 0 := by
  refine MV_of (cc := cX5_copyFrom) (own := RX5) (maxL := 2) (ret := none) (sp := spX5_copyFrom o o1 S) (by decide +kernel) rfl rfl (Nat.le_of_ble_eq_true rfl) ?_
  intro p e s m args below meth c X
  have hinX5 : ∀ w ∈ wsX50, w ∈ wsX5_copyFrom := by decide +kernel
  show VS G p l e _ s m args below meth c 2 _ _ 0 0 S 0 [(0, rf G o), (1, rf G o1)] []
  unfold spX5_copyFrom
  refine vs_aload_n X dX5_copyFrom_0 0 rfl ?_
  refine g_St ho X hinX5 0 (by decide) (by decide +kernel) rfl rfl dX5_copyFrom_1 ?_
  refine vs_aload_n X dX5_copyFrom_4 1 rfl ?_
  refine g_St ho1 X hinX5 0 (by decide) (by decide +kernel) rfl rfl dX5_copyFrom_5 ?_
  refine vs_callVv X  (As := [rf G (o1 + 1)]) (st' := []) (mtX4_copyFrom hl0 (isRow_st ho).1 (isRow_st ho1).1) (cwV 1 X.2.2.2.2.1 gX5_copyFrom_X4_copyFrom rfl rfl rfl (by decide +kernel) ⟨Nat.le_of_ble_eq_true rfl, Nat.le_of_ble_eq_true rfl⟩) (by have := ((isRow_st ho).1).2.1; omega) (by have := ((isRow_st ho).1).2.1; omega) (((isRow_st ho).1).1 G S).1 rfl rfl (Nat.le_of_ble_eq_true rfl) dX5_copyFrom_8 ⟨Nat.le_of_ble_eq_true rfl, Nat.le_of_ble_eq_true rfl⟩ (fun S1 hS1 => ?_)
  refine vs_aload_n X dX5_copyFrom_11 0 rfl ?_
  refine vs_aload_n X dX5_copyFrom_12 1 rfl ?_
  refine g_St ho1 X hinX5 1 (by decide) (by decide +kernel) rfl rfl dX5_copyFrom_13 ?_
  refine p_St ho X hinX5 1 (by decide) (by decide +kernel) rfl rfl rfl rfl rfl (celw_1 ho) dX5_copyFrom_16 (fun S2 hS2 => ?_)
  refine vs_aload_n X dX5_copyFrom_19 0 rfl ?_
  refine vs_aload_n X dX5_copyFrom_20 1 rfl ?_
  refine g_St ho1 X hinX5 2 (by decide) (by decide +kernel) rfl rfl dX5_copyFrom_21 ?_
  refine p_St ho X hinX5 2 (by decide) (by decide +kernel) rfl rfl rfl rfl rfl (celw_2 ho) dX5_copyFrom_24 (fun S3 hS3 => ?_)
  refine vs_aload_n X dX5_copyFrom_27 0 rfl ?_
  refine g_St ho X hinX5 3 (by decide) (by decide +kernel) rfl rfl dX5_copyFrom_28 ?_
  refine vs_aload_n X dX5_copyFrom_31 1 rfl ?_
  refine g_St ho1 X hinX5 3 (by decide) (by decide +kernel) rfl rfl dX5_copyFrom_32 ?_
  refine vs_callVv X  (As := [rf G (o1 + 3)]) (st' := []) (mtX4_copyFrom hl0 (isRow_st ho).2.1 (isRow_st ho1).2.1) (cwV 1 X.2.2.2.2.1 gX5_copyFrom_X4_copyFrom rfl rfl rfl (by decide +kernel) ⟨Nat.le_of_ble_eq_true rfl, Nat.le_of_ble_eq_true rfl⟩) (by have := ((isRow_st ho).2.1).2.1; omega) (by have := ((isRow_st ho).2.1).2.1; omega) (((isRow_st ho).2.1).1 G S3).1 rfl rfl (Nat.le_of_ble_eq_true rfl) dX5_copyFrom_35 ⟨Nat.le_of_ble_eq_true rfl, Nat.le_of_ble_eq_true rfl⟩ (fun S4 hS4 => ?_)
  refine vs_aload_n X dX5_copyFrom_38 0 rfl ?_
  refine g_St ho X hinX5 4 (by decide) (by decide +kernel) rfl rfl dX5_copyFrom_39 ?_
  refine vs_aload_n X dX5_copyFrom_42 1 rfl ?_
  refine g_St ho1 X hinX5 4 (by decide) (by decide +kernel) rfl rfl dX5_copyFrom_43 ?_
  refine vs_callVv X  (As := [rf G (o1 + 5)]) (st' := []) (mtX4_copyFrom hl0 (isRow_st ho).2.2.1 (isRow_st ho1).2.2.1) (cwV 1 X.2.2.2.2.1 gX5_copyFrom_X4_copyFrom rfl rfl rfl (by decide +kernel) ⟨Nat.le_of_ble_eq_true rfl, Nat.le_of_ble_eq_true rfl⟩) (by have := ((isRow_st ho).2.2.1).2.1; omega) (by have := ((isRow_st ho).2.2.1).2.1; omega) (((isRow_st ho).2.2.1).1 G S4).1 rfl rfl (Nat.le_of_ble_eq_true rfl) dX5_copyFrom_46 ⟨Nat.le_of_ble_eq_true rfl, Nat.le_of_ble_eq_true rfl⟩ (fun S5 hS5 => ?_)
  refine vs_aload_n X dX5_copyFrom_49 0 rfl ?_
  refine g_St ho X hinX5 5 (by decide) (by decide +kernel) rfl rfl dX5_copyFrom_50 ?_
  refine vs_aload_n X dX5_copyFrom_53 1 rfl ?_
  refine g_St ho1 X hinX5 5 (by decide) (by decide +kernel) rfl rfl dX5_copyFrom_54 ?_
  refine vs_callVv X  (As := [rf G (o1 + 7)]) (st' := []) (mtX4_copyFrom hl0 (isRow_st ho).2.2.2.1 (isRow_st ho1).2.2.2.1) (cwV 1 X.2.2.2.2.1 gX5_copyFrom_X4_copyFrom rfl rfl rfl (by decide +kernel) ⟨Nat.le_of_ble_eq_true rfl, Nat.le_of_ble_eq_true rfl⟩) (by have := ((isRow_st ho).2.2.2.1).2.1; omega) (by have := ((isRow_st ho).2.2.2.1).2.1; omega) (((isRow_st ho).2.2.2.1).1 G S5).1 rfl rfl (Nat.le_of_ble_eq_true rfl) dX5_copyFrom_57 ⟨Nat.le_of_ble_eq_true rfl, Nat.le_of_ble_eq_true rfl⟩ (fun S6 hS6 => ?_)
  refine vs_aload_n X dX5_copyFrom_60 0 rfl ?_
  refine g_St ho X hinX5 6 (by decide) (by decide +kernel) rfl rfl dX5_copyFrom_61 ?_
  refine vs_aload_n X dX5_copyFrom_64 1 rfl ?_
  refine g_St ho1 X hinX5 6 (by decide) (by decide +kernel) rfl rfl dX5_copyFrom_65 ?_
  refine vs_callVv X  (As := [rf G (o1 + 9)]) (st' := []) (mtX4_copyFrom hl0 (isRow_st ho).2.2.2.2.1 (isRow_st ho1).2.2.2.2.1) (cwV 1 X.2.2.2.2.1 gX5_copyFrom_X4_copyFrom rfl rfl rfl (by decide +kernel) ⟨Nat.le_of_ble_eq_true rfl, Nat.le_of_ble_eq_true rfl⟩) (by have := ((isRow_st ho).2.2.2.2.1).2.1; omega) (by have := ((isRow_st ho).2.2.2.2.1).2.1; omega) (((isRow_st ho).2.2.2.2.1).1 G S6).1 rfl rfl (Nat.le_of_ble_eq_true rfl) dX5_copyFrom_68 ⟨Nat.le_of_ble_eq_true rfl, Nat.le_of_ble_eq_true rfl⟩ (fun S7 hS7 => ?_)
  refine vs_aload_n X dX5_copyFrom_71 0 rfl ?_
  refine vs_aload_n X dX5_copyFrom_72 1 rfl ?_
  refine g_St ho1 X hinX5 7 (by decide) (by decide +kernel) rfl rfl dX5_copyFrom_73 ?_
  refine p_St ho X hinX5 7 (by decide) (by decide +kernel) rfl rfl rfl rfl rfl (celw_7 ho) dX5_copyFrom_76 (fun S8 hS8 => ?_)
  refine vs_aload_n X dX5_copyFrom_79 0 rfl ?_
  refine g_St ho X hinX5 8 (by decide) (by decide +kernel) rfl rfl dX5_copyFrom_80 ?_
  refine vs_aload_n X dX5_copyFrom_83 1 rfl ?_
  refine g_St ho1 X hinX5 8 (by decide) (by decide +kernel) rfl rfl dX5_copyFrom_84 ?_
  refine vs_callVv X  (As := [rf G (o1 + 11)]) (st' := []) (mtX4_copyFrom hl0 (isRow_st ho).2.2.2.2.2 (isRow_st ho1).2.2.2.2.2) (cwV 1 X.2.2.2.2.1 gX5_copyFrom_X4_copyFrom rfl rfl rfl (by decide +kernel) ⟨Nat.le_of_ble_eq_true rfl, Nat.le_of_ble_eq_true rfl⟩) (by have := ((isRow_st ho).2.2.2.2.2).2.1; omega) (by have := ((isRow_st ho).2.2.2.2.2).2.1; omega) (((isRow_st ho).2.2.2.2.2).1 G S8).1 rfl rfl (Nat.le_of_ble_eq_true rfl) dX5_copyFrom_87 ⟨Nat.le_of_ble_eq_true rfl, Nat.le_of_ble_eq_true rfl⟩ (fun S9 hS9 => ?_)
  refine vs_aload_n X dX5_copyFrom_90 0 rfl ?_
  refine vs_aload_n X dX5_copyFrom_91 1 rfl ?_
  refine g_St ho1 X hinX5 9 (by decide) (by decide +kernel) rfl rfl dX5_copyFrom_92 ?_
  refine p_St ho X hinX5 9 (by decide) (by decide +kernel) rfl rfl rfl rfl rfl (celw_9 ho) dX5_copyFrom_95 (fun S10 hS10 => ?_)
  refine vs_aload_n X dX5_copyFrom_98 0 rfl ?_
  refine vs_aload_n X dX5_copyFrom_99 1 rfl ?_
  refine g_St ho1 X hinX5 10 (by decide) (by decide +kernel) rfl rfl dX5_copyFrom_100 ?_
  refine p_St ho X hinX5 10 (by decide) (by decide +kernel) rfl rfl rfl rfl rfl (celw_10 ho) dX5_copyFrom_103 (fun S11 hS11 => ?_)
  refine vs_aload_n X dX5_copyFrom_106 0 rfl ?_
  refine vs_aload_n X dX5_copyFrom_107 1 rfl ?_
  refine g_St ho1 X hinX5 11 (by decide) (by decide +kernel) rfl rfl dX5_copyFrom_108 ?_
  refine p_St ho X hinX5 11 (by decide) (by decide +kernel) rfl rfl rfl rfl rfl (celw_11 ho) dX5_copyFrom_111 (fun S12 hS12 => ?_)
  exact vs_vret X dX5_copyFrom_114 (by decide) (by decide)

def spX5_hasScarecrow (o : Nat) (p1 : Int32) (S : Wo) : Option (Int32) :=
  (if p1 < 0 then rz 0 some else (if S.1 o 1 ≤ p1 then rz 0 some else rz 1 some))
set_option maxHeartbeats 4000000 in
set_option maxRecDepth 100000 in
theorem mtX5_hasScarecrow {l : Launch} (hl0 : l.stackTraces = false) {G : Gt} {o : Nat} (ho : o ∈ stL) (p1 : Int32) {S : Wo} : ∀ x, spX5_hasScarecrow o p1 S = some x → MI l yX5_hasScarecrow wsX5_hasScarecrow { frames := 0, cells := 0, slots := 0, locals := 0 } G S [rf G o, .int p1] (x, S) 0 0 := by
  refine MIp_of (cc := cX5_hasScarecrow) (own := RX5) (maxL := 2) (ret := (some .boolean)) (sp := spX5_hasScarecrow o p1 S) (by decide +kernel) rfl rfl (Nat.le_of_ble_eq_true rfl) ?_
  intro p e s m args below meth c X
  have hinX5 : ∀ w ∈ wsX50, w ∈ wsX5_hasScarecrow := by decide +kernel
  show VS G p l e _ s m args below meth c 2 _ _ 0 0 S 0 [(0, rf G o), (1, .int p1)] []
  unfold spX5_hasScarecrow
  refine vs_iload_n X dX5_hasScarecrow_0 1 rfl ?_
  refine vs_if_lt X (tgt := 16) dX5_hasScarecrow_1 (by decide) (fun _ => ?_) (fun _ => ?_)
  · refine vs_iconst X (v := 0) dX5_hasScarecrow_16 (by decide) ?_
    exact vs_zretp X dX5_hasScarecrow_17 (by decide) (by decide)
  · refine vs_iload_n X dX5_hasScarecrow_4 1 rfl ?_
    refine vs_aload_n X dX5_hasScarecrow_5 0 rfl ?_
    refine g_St ho X hinX5 1 (by decide) (by decide +kernel) rfl rfl dX5_hasScarecrow_6 ?_
    refine vs_icmp_ge X (tgt := 16) dX5_hasScarecrow_9 (by decide) (fun _ => ?_) (fun _ => ?_)
    · refine vs_iconst X (v := 0) dX5_hasScarecrow_16 (by decide) ?_
      exact vs_zretp X dX5_hasScarecrow_17 (by decide) (by decide)
    · refine vs_iconst X (v := 1) dX5_hasScarecrow_12 (by decide) ?_
      refine vs_goto X (tgt := 17) dX5_hasScarecrow_13 (by decide) ?_
      exact vs_zretp X dX5_hasScarecrow_17 (by decide) (by decide)

def spX5_hasCertificate (o : Nat) (p1 : Int32) (S : Wo) : Option (Int32) :=
  (if p1 < 0 then rz 0 some else (if S.1 o 7 ≤ p1 then rz 0 some else rz 1 some))
set_option maxHeartbeats 4000000 in
set_option maxRecDepth 100000 in
theorem mtX5_hasCertificate {l : Launch} (hl0 : l.stackTraces = false) {G : Gt} {o : Nat} (ho : o ∈ stL) (p1 : Int32) {S : Wo} : ∀ x, spX5_hasCertificate o p1 S = some x → MI l yX5_hasCertificate wsX5_hasCertificate { frames := 0, cells := 0, slots := 0, locals := 0 } G S [rf G o, .int p1] (x, S) 0 0 := by
  refine MIp_of (cc := cX5_hasCertificate) (own := RX5) (maxL := 2) (ret := (some .boolean)) (sp := spX5_hasCertificate o p1 S) (by decide +kernel) rfl rfl (Nat.le_of_ble_eq_true rfl) ?_
  intro p e s m args below meth c X
  have hinX5 : ∀ w ∈ wsX50, w ∈ wsX5_hasCertificate := by decide +kernel
  show VS G p l e _ s m args below meth c 2 _ _ 0 0 S 0 [(0, rf G o), (1, .int p1)] []
  unfold spX5_hasCertificate
  refine vs_iload_n X dX5_hasCertificate_0 1 rfl ?_
  refine vs_if_lt X (tgt := 16) dX5_hasCertificate_1 (by decide) (fun _ => ?_) (fun _ => ?_)
  · refine vs_iconst X (v := 0) dX5_hasCertificate_16 (by decide) ?_
    exact vs_zretp X dX5_hasCertificate_17 (by decide) (by decide)
  · refine vs_iload_n X dX5_hasCertificate_4 1 rfl ?_
    refine vs_aload_n X dX5_hasCertificate_5 0 rfl ?_
    refine g_St ho X hinX5 7 (by decide) (by decide +kernel) rfl rfl dX5_hasCertificate_6 ?_
    refine vs_icmp_ge X (tgt := 16) dX5_hasCertificate_9 (by decide) (fun _ => ?_) (fun _ => ?_)
    · refine vs_iconst X (v := 0) dX5_hasCertificate_16 (by decide) ?_
      exact vs_zretp X dX5_hasCertificate_17 (by decide) (by decide)
    · refine vs_iconst X (v := 1) dX5_hasCertificate_12 (by decide) ?_
      refine vs_goto X (tgt := 17) dX5_hasCertificate_13 (by decide) ?_
      exact vs_zretp X dX5_hasCertificate_17 (by decide) (by decide)

def lpX5_scarecrowAt_2 (o : Nat) (p1 : Int32) (S : Wo)   : Nat → Int32 → Option (Int32)
  | 0, _ => none
  | f + 1, v2 => (if S.1 o 1 ≤ v2 then some (-1) else (spX4_get (o + 1) 10 v2 S).bind (fun x2 => (if x2 = p1 then some v2 else lpX5_scarecrowAt_2 o p1 S f (v2 + 1))))
def spX5_scarecrowAt (o : Nat) (p1 : Int32) (S : Wo) : Option (Int32) :=
  lpX5_scarecrowAt_2 o p1 S 200 0
set_option maxHeartbeats 4000000 in
set_option maxRecDepth 100000 in
theorem mtX5_scarecrowAt {l : Launch} (hl0 : l.stackTraces = false) {G : Gt} {o : Nat} (ho : o ∈ stL) (p1 : Int32) {S : Wo} : ∀ x, spX5_scarecrowAt o p1 S = some x → MI l yX5_scarecrowAt wsX5_scarecrowAt { frames := 1, cells := 0, slots := 0, locals := 21 } G S [rf G o, .int p1] (x, S) 0 0 := by
  refine MIp_of (cc := cX5_scarecrowAt) (own := RX5) (maxL := 3) (ret := (some .int)) (sp := spX5_scarecrowAt o p1 S) (by decide +kernel) rfl rfl (Nat.le_of_ble_eq_true rfl) ?_
  intro p e s m args below meth c X
  have hinX5 : ∀ w ∈ wsX50, w ∈ wsX5_scarecrowAt := by decide +kernel
  show VS G p l e _ s m args below meth c 3 _ _ 0 0 S 0 [(0, rf G o), (1, .int p1)] []
  unfold spX5_scarecrowAt
  refine vs_iconst X (v := 0) dX5_scarecrowAt_0 (by decide) ?_
  refine vs_istore_n X (lv' := [(2, .int 0), (0, rf G o), (1, .int p1)]) dX5_scarecrowAt_1 (by decide) rfl ?_
  have L1 : ∀ (f : Nat) (v2 : Int32), VS G p l e ({ frames := 1, cells := 0, slots := 0, locals := 21 } : Room) s m args below meth c 3 (fun x => MQ below (QI G (x, S)) args s 0 0 (Af G)) (lpX5_scarecrowAt_2 o p1 S f v2) 0 0 S 2 [(0, rf G o), (1, .int p1), (2, .int v2)] [] := by
    intro f
    induction f with
    | zero => intro v2; exact vs_none rfl
    | succ f ih =>
        intro v2
        rw [lpX5_scarecrowAt_2]
        refine vs_iload_n X dX5_scarecrowAt_2 2 rfl ?_
        refine vs_aload_n X dX5_scarecrowAt_3 0 rfl ?_
        refine g_St ho X hinX5 1 (by decide) (by decide +kernel) rfl rfl dX5_scarecrowAt_4 ?_
        refine vs_icmp_ge X (tgt := 30) dX5_scarecrowAt_7 (by decide) (fun _ => ?_) (fun _ => ?_)
        · refine vs_iconst X (v := (-1)) dX5_scarecrowAt_30 (by decide) ?_
          exact vs_iretp X dX5_scarecrowAt_31 (by decide) (by decide)
        · refine vs_aload_n X dX5_scarecrowAt_10 0 rfl ?_
          refine g_St ho X hinX5 0 (by decide) (by decide +kernel) rfl rfl dX5_scarecrowAt_11 ?_
          refine vs_iload_n X dX5_scarecrowAt_14 2 rfl ?_
          refine vs_callVp X  (As := [.int v2]) (st' := []) (mtX4_get hl0 (isRow_st ho).1 v2) (cwV 1 X.2.2.2.2.1 gX5_scarecrowAt_X4_get rfl rfl rfl (by decide +kernel) ⟨Nat.le_of_ble_eq_true rfl, Nat.le_of_ble_eq_true rfl⟩) (by have := ((isRow_st ho).1).2.1; omega) (by have := ((isRow_st ho).1).2.1; omega) (((isRow_st ho).1).1 G S).1 rfl rfl (Nat.le_of_ble_eq_true rfl) dX5_scarecrowAt_15 ⟨Nat.le_of_ble_eq_true rfl, Nat.le_of_ble_eq_true rfl⟩ (fun x2 hx2 => ?_)
          refine vs_iload_n X dX5_scarecrowAt_18 1 rfl ?_
          refine vs_icmp_ne X (tgt := 24) dX5_scarecrowAt_19 (by decide) (fun _ => ?_) (fun _ => ?_)
          · refine vs_iload_n X dX5_scarecrowAt_22 2 rfl ?_
            exact vs_iretp X dX5_scarecrowAt_23 (by decide) (by decide)
          · refine vs_iinc X (v := (v2 + 1)) (lv' := [(2, .int (v2 + 1)), (0, rf G o), (1, .int p1)]) dX5_scarecrowAt_24 2 rfl rfl (by decide) rfl ?_
            refine vs_goto X (tgt := 2) dX5_scarecrowAt_27 (by decide) ?_
            refine vs_sub [1, 2, 0] (lv' := [(0, rf G o), (1, .int p1), (2, .int (v2 + 1))]) rfl ?_
            exact ih (v2 + 1)
  refine vs_sub [1, 2, 0] (lv' := [(0, rf G o), (1, .int p1), (2, .int 0)]) rfl ?_
  exact L1 200 0

def spX5_addScarecrow (o : Nat) (p1 : Int32) (S : Wo) : Option (Int32 × Wo) :=
  (spX4_set (o + 1) 10 (S.1 o 1) p1 S).bind (fun S1 => wr (pI S1 o 1 (S1.1 o 1 + 1)) (fun S2 => some (S.1 o 1, S2)))
set_option maxHeartbeats 4000000 in
set_option maxRecDepth 100000 in
theorem mtX5_addScarecrow {l : Launch} (hl0 : l.stackTraces = false) {G : Gt} {o : Nat} (ho : o ∈ stL) (p1 : Int32) {S : Wo} : ∀ rr, spX5_addScarecrow o p1 S = some rr → MI l yX5_addScarecrow wsX5_addScarecrow { frames := 1, cells := 0, slots := 0, locals := 22 } G S [rf G o, .int p1] rr 0 0 := by
  refine MI_of (cc := cX5_addScarecrow) (own := RX5) (maxL := 3) (ret := (some .int)) (sp := spX5_addScarecrow o p1 S) (by decide +kernel) rfl rfl (Nat.le_of_ble_eq_true rfl) ?_
  intro p e s m args below meth c X
  have hinX5 : ∀ w ∈ wsX50, w ∈ wsX5_addScarecrow := by decide +kernel
  show VS G p l e _ s m args below meth c 3 _ _ 0 0 S 0 [(0, rf G o), (1, .int p1)] []
  unfold spX5_addScarecrow
  refine vs_aload_n X dX5_addScarecrow_0 0 rfl ?_
  refine g_St ho X hinX5 1 (by decide) (by decide +kernel) rfl rfl dX5_addScarecrow_1 ?_
  refine vs_istore_n X (lv' := [(2, .int (S.1 o 1)), (0, rf G o), (1, .int p1)]) dX5_addScarecrow_4 (by decide) rfl ?_
  refine vs_aload_n X dX5_addScarecrow_5 1 rfl ?_
  refine g_St ho X hinX5 0 (by decide) (by decide +kernel) rfl rfl dX5_addScarecrow_6 ?_
  refine vs_iload_n X dX5_addScarecrow_9 0 rfl ?_
  refine vs_iload_n X dX5_addScarecrow_10 2 rfl ?_
  refine vs_callVv X  (As := [.int (S.1 o 1), .int p1]) (st' := []) (mtX4_set hl0 (isRow_st ho).1 (S.1 o 1) p1) (cwV 2 X.2.2.2.2.1 gX5_addScarecrow_X4_set rfl rfl rfl (by decide +kernel) ⟨Nat.le_of_ble_eq_true rfl, Nat.le_of_ble_eq_true rfl⟩) (by have := ((isRow_st ho).1).2.1; omega) (by have := ((isRow_st ho).1).2.1; omega) (((isRow_st ho).1).1 G S).1 rfl rfl (Nat.le_of_ble_eq_true rfl) dX5_addScarecrow_11 ⟨Nat.le_of_ble_eq_true rfl, Nat.le_of_ble_eq_true rfl⟩ (fun S1 hS1 => ?_)
  refine vs_aload_n X dX5_addScarecrow_14 1 rfl ?_
  refine vs_dup X dX5_addScarecrow_15 rfl ?_
  refine g_St ho X hinX5 1 (by decide) (by decide +kernel) rfl rfl dX5_addScarecrow_16 ?_
  refine vs_iconst X (v := 1) dX5_addScarecrow_19 (by decide) ?_
  refine vs_iadd X dX5_addScarecrow_20 ?_
  refine p_St ho X hinX5 1 (by decide) (by decide +kernel) rfl rfl rfl rfl rfl (celw_1 ho) dX5_addScarecrow_21 (fun S2 hS2 => ?_)
  refine vs_iload_n X dX5_addScarecrow_24 0 rfl ?_
  exact vs_iret X dX5_addScarecrow_25 (by decide) (by decide)

def spX5_addCertificate (o : Nat) (p1 : Int32) (p2 : Int32) (p3 : Int32) (S : Wo) : Option (Int32 × Wo) :=
  (spX4_set (o + 3) 20 (S.1 o 7) p1 S).bind (fun S1 => (spX4_set (o + 5) 20 (S.1 o 7) p2 S1).bind (fun S2 => (spX4_get (o + 1) 10 p2 S2).bind (fun x3 => (spX4_set (o + 7) 20 (S.1 o 7) x3 S2).bind (fun S4 => (spX4_set (o + 9) 20 (S.1 o 7) (S4.1 o 9 + p3) S4).bind (fun S5 => wr (pI S5 o 7 (S5.1 o 7 + 1)) (fun S6 => some (S.1 o 7, S6)))))))
set_option maxHeartbeats 4000000 in
set_option maxRecDepth 100000 in
theorem mtX5_addCertificate {l : Launch} (hl0 : l.stackTraces = false) {G : Gt} {o : Nat} (ho : o ∈ stL) (p1 : Int32) (p2 : Int32) (p3 : Int32) {S : Wo} : ∀ rr, spX5_addCertificate o p1 p2 p3 S = some rr → MI l yX5_addCertificate wsX5_addCertificate { frames := 1, cells := 0, slots := 0, locals := 22 } G S [rf G o, .int p1, .int p2, .int p3] rr 0 0 := by
  refine MI_of (cc := cX5_addCertificate) (own := RX5) (maxL := 5) (ret := (some .int)) (sp := spX5_addCertificate o p1 p2 p3 S) (by decide +kernel) rfl rfl (Nat.le_of_ble_eq_true rfl) ?_
  intro p e s m args below meth c X
  have hinX5 : ∀ w ∈ wsX50, w ∈ wsX5_addCertificate := by decide +kernel
  show VS G p l e _ s m args below meth c 5 _ _ 0 0 S 0 [(0, rf G o), (1, .int p1), (2, .int p2), (3, .int p3)] []
  unfold spX5_addCertificate
  refine vs_aload_n X dX5_addCertificate_0 0 rfl ?_
  refine g_St ho X hinX5 7 (by decide) (by decide +kernel) rfl rfl dX5_addCertificate_1 ?_
  refine vs_istore X (lv' := [(4, .int (S.1 o 7)), (0, rf G o), (1, .int p1), (2, .int p2), (3, .int p3)]) dX5_addCertificate_4 (by decide) rfl ?_
  refine vs_aload_n X dX5_addCertificate_6 1 rfl ?_
  refine g_St ho X hinX5 3 (by decide) (by decide +kernel) rfl rfl dX5_addCertificate_7 ?_
  refine vs_iload X dX5_addCertificate_10 0 rfl ?_
  refine vs_iload_n X dX5_addCertificate_12 2 rfl ?_
  refine vs_callVv X  (As := [.int (S.1 o 7), .int p1]) (st' := []) (mtX4_set hl0 (isRow_st ho).2.1 (S.1 o 7) p1) (cwV 2 X.2.2.2.2.1 gX5_addCertificate_X4_set rfl rfl rfl (by decide +kernel) ⟨Nat.le_of_ble_eq_true rfl, Nat.le_of_ble_eq_true rfl⟩) (by have := ((isRow_st ho).2.1).2.1; omega) (by have := ((isRow_st ho).2.1).2.1; omega) (((isRow_st ho).2.1).1 G S).1 rfl rfl (Nat.le_of_ble_eq_true rfl) dX5_addCertificate_13 ⟨Nat.le_of_ble_eq_true rfl, Nat.le_of_ble_eq_true rfl⟩ (fun S1 hS1 => ?_)
  refine vs_aload_n X dX5_addCertificate_16 1 rfl ?_
  refine g_St ho X hinX5 4 (by decide) (by decide +kernel) rfl rfl dX5_addCertificate_17 ?_
  refine vs_iload X dX5_addCertificate_20 0 rfl ?_
  refine vs_iload_n X dX5_addCertificate_22 3 rfl ?_
  refine vs_callVv X  (As := [.int (S.1 o 7), .int p2]) (st' := []) (mtX4_set hl0 (isRow_st ho).2.2.1 (S.1 o 7) p2) (cwV 2 X.2.2.2.2.1 gX5_addCertificate_X4_set rfl rfl rfl (by decide +kernel) ⟨Nat.le_of_ble_eq_true rfl, Nat.le_of_ble_eq_true rfl⟩) (by have := ((isRow_st ho).2.2.1).2.1; omega) (by have := ((isRow_st ho).2.2.1).2.1; omega) (((isRow_st ho).2.2.1).1 G S1).1 rfl rfl (Nat.le_of_ble_eq_true rfl) dX5_addCertificate_23 ⟨Nat.le_of_ble_eq_true rfl, Nat.le_of_ble_eq_true rfl⟩ (fun S2 hS2 => ?_)
  refine vs_aload_n X dX5_addCertificate_26 1 rfl ?_
  refine g_St ho X hinX5 5 (by decide) (by decide +kernel) rfl rfl dX5_addCertificate_27 ?_
  refine vs_iload X dX5_addCertificate_30 0 rfl ?_
  refine vs_aload_n X dX5_addCertificate_32 1 rfl ?_
  refine g_St ho X hinX5 0 (by decide) (by decide +kernel) rfl rfl dX5_addCertificate_33 ?_
  refine vs_iload_n X dX5_addCertificate_36 3 rfl ?_
  refine vs_callVp X  (As := [.int p2]) (st' := [.int (S.1 o 7), rf G (o + 7)]) (mtX4_get hl0 (isRow_st ho).1 p2) (cwV 1 X.2.2.2.2.1 gX5_addCertificate_X4_get rfl rfl rfl (by decide +kernel) ⟨Nat.le_of_ble_eq_true rfl, Nat.le_of_ble_eq_true rfl⟩) (by have := ((isRow_st ho).1).2.1; omega) (by have := ((isRow_st ho).1).2.1; omega) (((isRow_st ho).1).1 G S2).1 rfl rfl (Nat.le_of_ble_eq_true rfl) dX5_addCertificate_37 ⟨Nat.le_of_ble_eq_true rfl, Nat.le_of_ble_eq_true rfl⟩ (fun x3 hx3 => ?_)
  refine vs_callVv X  (As := [.int (S.1 o 7), .int x3]) (st' := []) (mtX4_set hl0 (isRow_st ho).2.2.2.1 (S.1 o 7) x3) (cwV 2 X.2.2.2.2.1 gX5_addCertificate_X4_set rfl rfl rfl (by decide +kernel) ⟨Nat.le_of_ble_eq_true rfl, Nat.le_of_ble_eq_true rfl⟩) (by have := ((isRow_st ho).2.2.2.1).2.1; omega) (by have := ((isRow_st ho).2.2.2.1).2.1; omega) (((isRow_st ho).2.2.2.1).1 G S2).1 rfl rfl (Nat.le_of_ble_eq_true rfl) dX5_addCertificate_40 ⟨Nat.le_of_ble_eq_true rfl, Nat.le_of_ble_eq_true rfl⟩ (fun S4 hS4 => ?_)
  refine vs_aload_n X dX5_addCertificate_43 1 rfl ?_
  refine g_St ho X hinX5 6 (by decide) (by decide +kernel) rfl rfl dX5_addCertificate_44 ?_
  refine vs_iload X dX5_addCertificate_47 0 rfl ?_
  refine vs_aload_n X dX5_addCertificate_49 1 rfl ?_
  refine g_St ho X hinX5 9 (by decide) (by decide +kernel) rfl rfl dX5_addCertificate_50 ?_
  refine vs_iload_n X dX5_addCertificate_53 4 rfl ?_
  refine vs_iadd X dX5_addCertificate_54 ?_
  refine vs_callVv X  (As := [.int (S.1 o 7), .int (S4.1 o 9 + p3)]) (st' := []) (mtX4_set hl0 (isRow_st ho).2.2.2.2.1 (S.1 o 7) (S4.1 o 9 + p3)) (cwV 2 X.2.2.2.2.1 gX5_addCertificate_X4_set rfl rfl rfl (by decide +kernel) ⟨Nat.le_of_ble_eq_true rfl, Nat.le_of_ble_eq_true rfl⟩) (by have := ((isRow_st ho).2.2.2.2.1).2.1; omega) (by have := ((isRow_st ho).2.2.2.2.1).2.1; omega) (((isRow_st ho).2.2.2.2.1).1 G S4).1 rfl rfl (Nat.le_of_ble_eq_true rfl) dX5_addCertificate_55 ⟨Nat.le_of_ble_eq_true rfl, Nat.le_of_ble_eq_true rfl⟩ (fun S5 hS5 => ?_)
  refine vs_aload_n X dX5_addCertificate_58 1 rfl ?_
  refine vs_dup X dX5_addCertificate_59 rfl ?_
  refine g_St ho X hinX5 7 (by decide) (by decide +kernel) rfl rfl dX5_addCertificate_60 ?_
  refine vs_iconst X (v := 1) dX5_addCertificate_63 (by decide) ?_
  refine vs_iadd X dX5_addCertificate_64 ?_
  refine p_St ho X hinX5 7 (by decide) (by decide +kernel) rfl rfl rfl rfl rfl (celw_7 ho) dX5_addCertificate_65 (fun S6 hS6 => ?_)
  refine vs_iload X dX5_addCertificate_68 0 rfl ?_
  exact vs_iret X dX5_addCertificate_70 (by decide) (by decide)

def spX5_removeCertificate (o : Nat) (p1 : Int32) (S : Wo) : Option (Wo) :=
  (spX4_remove (o + 3) 20 p1 S).bind (fun S1 => (spX4_remove (o + 5) 20 p1 S1).bind (fun S2 => (spX4_remove (o + 7) 20 p1 S2).bind (fun S3 => (spX4_remove (o + 9) 20 p1 S3).bind (fun S4 => wr (pI S4 o 7 (S4.1 o 7 - 1)) (fun S5 => some S5)))))
set_option maxHeartbeats 4000000 in
set_option maxRecDepth 100000 in
theorem mtX5_removeCertificate {l : Launch} (hl0 : l.stackTraces = false) {G : Gt} {o : Nat} (ho : o ∈ stL) (p1 : Int32) {S : Wo} : ∀ rr, spX5_removeCertificate o p1 S = some rr → MV l yX5_removeCertificate wsX5_removeCertificate { frames := 1, cells := 0, slots := 0, locals := 22 } G S [rf G o, .int p1] rr 0 0 := by
  refine MV_of (cc := cX5_removeCertificate) (own := RX5) (maxL := 2) (ret := none) (sp := spX5_removeCertificate o p1 S) (by decide +kernel) rfl rfl (Nat.le_of_ble_eq_true rfl) ?_
  intro p e s m args below meth c X
  have hinX5 : ∀ w ∈ wsX50, w ∈ wsX5_removeCertificate := by decide +kernel
  show VS G p l e _ s m args below meth c 2 _ _ 0 0 S 0 [(0, rf G o), (1, .int p1)] []
  unfold spX5_removeCertificate
  refine vs_aload_n X dX5_removeCertificate_0 0 rfl ?_
  refine g_St ho X hinX5 3 (by decide) (by decide +kernel) rfl rfl dX5_removeCertificate_1 ?_
  refine vs_iload_n X dX5_removeCertificate_4 1 rfl ?_
  refine vs_callVv X  (As := [.int p1]) (st' := []) (mtX4_remove hl0 (isRow_st ho).2.1 p1) (cwV 1 X.2.2.2.2.1 gX5_removeCertificate_X4_remove rfl rfl rfl (by decide +kernel) ⟨Nat.le_of_ble_eq_true rfl, Nat.le_of_ble_eq_true rfl⟩) (by have := ((isRow_st ho).2.1).2.1; omega) (by have := ((isRow_st ho).2.1).2.1; omega) (((isRow_st ho).2.1).1 G S).1 rfl rfl (Nat.le_of_ble_eq_true rfl) dX5_removeCertificate_5 ⟨Nat.le_of_ble_eq_true rfl, Nat.le_of_ble_eq_true rfl⟩ (fun S1 hS1 => ?_)
  refine vs_aload_n X dX5_removeCertificate_8 0 rfl ?_
  refine g_St ho X hinX5 4 (by decide) (by decide +kernel) rfl rfl dX5_removeCertificate_9 ?_
  refine vs_iload_n X dX5_removeCertificate_12 1 rfl ?_
  refine vs_callVv X  (As := [.int p1]) (st' := []) (mtX4_remove hl0 (isRow_st ho).2.2.1 p1) (cwV 1 X.2.2.2.2.1 gX5_removeCertificate_X4_remove rfl rfl rfl (by decide +kernel) ⟨Nat.le_of_ble_eq_true rfl, Nat.le_of_ble_eq_true rfl⟩) (by have := ((isRow_st ho).2.2.1).2.1; omega) (by have := ((isRow_st ho).2.2.1).2.1; omega) (((isRow_st ho).2.2.1).1 G S1).1 rfl rfl (Nat.le_of_ble_eq_true rfl) dX5_removeCertificate_13 ⟨Nat.le_of_ble_eq_true rfl, Nat.le_of_ble_eq_true rfl⟩ (fun S2 hS2 => ?_)
  refine vs_aload_n X dX5_removeCertificate_16 0 rfl ?_
  refine g_St ho X hinX5 5 (by decide) (by decide +kernel) rfl rfl dX5_removeCertificate_17 ?_
  refine vs_iload_n X dX5_removeCertificate_20 1 rfl ?_
  refine vs_callVv X  (As := [.int p1]) (st' := []) (mtX4_remove hl0 (isRow_st ho).2.2.2.1 p1) (cwV 1 X.2.2.2.2.1 gX5_removeCertificate_X4_remove rfl rfl rfl (by decide +kernel) ⟨Nat.le_of_ble_eq_true rfl, Nat.le_of_ble_eq_true rfl⟩) (by have := ((isRow_st ho).2.2.2.1).2.1; omega) (by have := ((isRow_st ho).2.2.2.1).2.1; omega) (((isRow_st ho).2.2.2.1).1 G S2).1 rfl rfl (Nat.le_of_ble_eq_true rfl) dX5_removeCertificate_21 ⟨Nat.le_of_ble_eq_true rfl, Nat.le_of_ble_eq_true rfl⟩ (fun S3 hS3 => ?_)
  refine vs_aload_n X dX5_removeCertificate_24 0 rfl ?_
  refine g_St ho X hinX5 6 (by decide) (by decide +kernel) rfl rfl dX5_removeCertificate_25 ?_
  refine vs_iload_n X dX5_removeCertificate_28 1 rfl ?_
  refine vs_callVv X  (As := [.int p1]) (st' := []) (mtX4_remove hl0 (isRow_st ho).2.2.2.2.1 p1) (cwV 1 X.2.2.2.2.1 gX5_removeCertificate_X4_remove rfl rfl rfl (by decide +kernel) ⟨Nat.le_of_ble_eq_true rfl, Nat.le_of_ble_eq_true rfl⟩) (by have := ((isRow_st ho).2.2.2.2.1).2.1; omega) (by have := ((isRow_st ho).2.2.2.2.1).2.1; omega) (((isRow_st ho).2.2.2.2.1).1 G S3).1 rfl rfl (Nat.le_of_ble_eq_true rfl) dX5_removeCertificate_29 ⟨Nat.le_of_ble_eq_true rfl, Nat.le_of_ble_eq_true rfl⟩ (fun S4 hS4 => ?_)
  refine vs_aload_n X dX5_removeCertificate_32 0 rfl ?_
  refine vs_dup X dX5_removeCertificate_33 rfl ?_
  refine g_St ho X hinX5 7 (by decide) (by decide +kernel) rfl rfl dX5_removeCertificate_34 ?_
  refine vs_iconst X (v := 1) dX5_removeCertificate_37 (by decide) ?_
  refine vs_isub X dX5_removeCertificate_38 ?_
  refine p_St ho X hinX5 7 (by decide) (by decide +kernel) rfl rfl rfl rfl rfl (celw_7 ho) dX5_removeCertificate_39 (fun S5 hS5 => ?_)
  exact vs_vret X dX5_removeCertificate_42 (by decide) (by decide)

def lpX5_backedBy_5 (o : Nat) (p1 : Int32) (p2 : Int32) (S : Wo)   : Nat → Int32 → Int32 → Option (Int32)
  | 0, _, _ => none
  | f + 1, v3, v4 => (if S.1 o 7 ≤ v4 then some v3 else (spX4_get (o + 3) 20 v4 S).bind (fun x2 => jn (β := Int32 → Option (Int32)) (fun (x4 : Int32) => (spX4_get (o + 5) 20 v4 S).bind (fun x6 => (spX4_get (o + 1) 10 x6 S).bind (fun x7 => (spX4_get (o + 7) 20 v4 S).bind (fun x8 => jn (β := Int32 → Option (Int32)) (fun (x9 : Int32) => (if x4 = 0 then lpX5_backedBy_5 o p1 p2 S f v3 (v4 + 1) else (if x9 = 0 then lpX5_backedBy_5 o p1 p2 S f v3 (v4 + 1) else (spX4_get (o + 9) 20 v4 S).bind (fun x11 => (if x11 < p2 then lpX5_backedBy_5 o p1 p2 S f v3 (v4 + 1) else lpX5_backedBy_5 o p1 p2 S f (v3 ||| (1 <<< (v4 &&& 31))) (v4 + 1)))))) (fun k10 => (if x7 = x8 then k10 1 else k10 0)))))) (fun k5 => (if x2 = (-1) then k5 1 else (spX6_has p1 x2 S).bind (fun x3 => (if x3 = 0 then k5 0 else k5 1))))))
def spX5_backedBy (o : Nat) (p1 : Int32) (p2 : Int32) (S : Wo) : Option (Int32) :=
  lpX5_backedBy_5 o p1 p2 S 200 0 0
set_option maxHeartbeats 4000000 in
set_option maxRecDepth 100000 in
theorem mtX5_backedBy {l : Launch} (hl0 : l.stackTraces = false) {G : Gt} {o : Nat} (ho : o ∈ stL) (p1 : Int32) (p2 : Int32) {S : Wo} : ∀ x, spX5_backedBy o p1 p2 S = some x → MI l yX5_backedBy wsX5_backedBy { frames := 1, cells := 0, slots := 0, locals := 21 } G S [rf G o, .int p1, .int p2] (x, S) 0 0 := by
  refine MIp_of (cc := cX5_backedBy) (own := RX5) (maxL := 8) (ret := (some .int)) (sp := spX5_backedBy o p1 p2 S) (by decide +kernel) rfl rfl (Nat.le_of_ble_eq_true rfl) ?_
  intro p e s m args below meth c X
  have hinX5 : ∀ w ∈ wsX50, w ∈ wsX5_backedBy := by decide +kernel
  show VS G p l e _ s m args below meth c 8 _ _ 0 0 S 0 [(0, rf G o), (1, .int p1), (2, .int p2)] []
  unfold spX5_backedBy
  refine vs_iconst X (v := 0) dX5_backedBy_0 (by decide) ?_
  refine vs_istore_n X (lv' := [(3, .int 0), (0, rf G o), (1, .int p1), (2, .int p2)]) dX5_backedBy_1 (by decide) rfl ?_
  refine vs_iconst X (v := 0) dX5_backedBy_2 (by decide) ?_
  refine vs_istore X (lv' := [(4, .int 0), (3, .int 0), (0, rf G o), (1, .int p1), (2, .int p2)]) dX5_backedBy_3 (by decide) rfl ?_
  have L1 : ∀ (f : Nat) (v3 : Int32) (v4 : Int32), VS G p l e ({ frames := 1, cells := 0, slots := 0, locals := 21 } : Room) s m args below meth c 8 (fun x => MQ below (QI G (x, S)) args s 0 0 (Af G)) (lpX5_backedBy_5 o p1 p2 S f v3 v4) 0 0 S 5 [(0, rf G o), (1, .int p1), (2, .int p2), (3, .int v3), (4, .int v4)] [] := by
    intro f
    induction f with
    | zero => intro v3 v4; exact vs_none rfl
    | succ f ih =>
        intro v3 v4
        rw [lpX5_backedBy_5]
        refine vs_iload X dX5_backedBy_5 4 rfl ?_
        refine vs_aload_n X dX5_backedBy_7 0 rfl ?_
        refine g_St ho X hinX5 7 (by decide) (by decide +kernel) rfl rfl dX5_backedBy_8 ?_
        refine vs_icmp_ge X (tgt := 118) dX5_backedBy_11 (by decide) (fun _ => ?_) (fun _ => ?_)
        · refine vs_iload_n X dX5_backedBy_118 3 rfl ?_
          exact vs_iretp X dX5_backedBy_119 (by decide) (by decide)
        · refine vs_aload_n X dX5_backedBy_14 0 rfl ?_
          refine g_St ho X hinX5 3 (by decide) (by decide +kernel) rfl rfl dX5_backedBy_15 ?_
          refine vs_iload X dX5_backedBy_18 4 rfl ?_
          refine vs_callVp X  (As := [.int v4]) (st' := []) (mtX4_get hl0 (isRow_st ho).2.1 v4) (cwV 1 X.2.2.2.2.1 gX5_backedBy_X4_get rfl rfl rfl (by decide +kernel) ⟨Nat.le_of_ble_eq_true rfl, Nat.le_of_ble_eq_true rfl⟩) (by have := ((isRow_st ho).2.1).2.1; omega) (by have := ((isRow_st ho).2.1).2.1; omega) (((isRow_st ho).2.1).1 G S).1 rfl rfl (Nat.le_of_ble_eq_true rfl) dX5_backedBy_20 ⟨Nat.le_of_ble_eq_true rfl, Nat.le_of_ble_eq_true rfl⟩ (fun x2 hx2 => ?_)
          refine vs_istore X (lv' := [(5, .int x2), (0, rf G o), (1, .int p1), (2, .int p2), (3, .int v3), (4, .int v4)]) dX5_backedBy_23 (by decide) rfl ?_
          refine vs_iload X dX5_backedBy_25 0 rfl ?_
          refine vs_iconst X (v := (-1)) dX5_backedBy_27 (by decide) ?_
          refine vs_jn (β := Int32 → Option (Int32)) (P := fun k5 => ∀ (x4 : Int32), VS G p l e ({ frames := 1, cells := 0, slots := 0, locals := 21 } : Room) s m args below meth c 8 (fun x => MQ below (QI G (x, S)) args s 0 0 (Af G)) (k5 x4) 0 0 S 45 [(0, rf G o), (1, .int p1), (2, .int p2), (3, .int v3), (4, .int v4), (5, .int x2)] [.int x4]) (fun x4 => ?_) (fun k5 hk5 => ?_)
          · refine vs_istore X (lv' := [(6, .int x4), (0, rf G o), (1, .int p1), (2, .int p2), (3, .int v3), (4, .int v4), (5, .int x2)]) dX5_backedBy_45 (by decide) rfl ?_
            refine vs_aload_n X dX5_backedBy_47 1 rfl ?_
            refine g_St ho X hinX5 0 (by decide) (by decide +kernel) rfl rfl dX5_backedBy_48 ?_
            refine vs_aload_n X dX5_backedBy_51 1 rfl ?_
            refine g_St ho X hinX5 4 (by decide) (by decide +kernel) rfl rfl dX5_backedBy_52 ?_
            refine vs_iload X dX5_backedBy_55 5 rfl ?_
            refine vs_callVp X  (As := [.int v4]) (st' := [rf G (o + 1)]) (mtX4_get hl0 (isRow_st ho).2.2.1 v4) (cwV 1 X.2.2.2.2.1 gX5_backedBy_X4_get rfl rfl rfl (by decide +kernel) ⟨Nat.le_of_ble_eq_true rfl, Nat.le_of_ble_eq_true rfl⟩) (by have := ((isRow_st ho).2.2.1).2.1; omega) (by have := ((isRow_st ho).2.2.1).2.1; omega) (((isRow_st ho).2.2.1).1 G S).1 rfl rfl (Nat.le_of_ble_eq_true rfl) dX5_backedBy_57 ⟨Nat.le_of_ble_eq_true rfl, Nat.le_of_ble_eq_true rfl⟩ (fun x6 hx6 => ?_)
            refine vs_callVp X  (As := [.int x6]) (st' := []) (mtX4_get hl0 (isRow_st ho).1 x6) (cwV 1 X.2.2.2.2.1 gX5_backedBy_X4_get rfl rfl rfl (by decide +kernel) ⟨Nat.le_of_ble_eq_true rfl, Nat.le_of_ble_eq_true rfl⟩) (by have := ((isRow_st ho).1).2.1; omega) (by have := ((isRow_st ho).1).2.1; omega) (((isRow_st ho).1).1 G S).1 rfl rfl (Nat.le_of_ble_eq_true rfl) dX5_backedBy_60 ⟨Nat.le_of_ble_eq_true rfl, Nat.le_of_ble_eq_true rfl⟩ (fun x7 hx7 => ?_)
            refine vs_aload_n X dX5_backedBy_63 1 rfl ?_
            refine g_St ho X hinX5 5 (by decide) (by decide +kernel) rfl rfl dX5_backedBy_64 ?_
            refine vs_iload X dX5_backedBy_67 5 rfl ?_
            refine vs_callVp X  (As := [.int v4]) (st' := [.int x7]) (mtX4_get hl0 (isRow_st ho).2.2.2.1 v4) (cwV 1 X.2.2.2.2.1 gX5_backedBy_X4_get rfl rfl rfl (by decide +kernel) ⟨Nat.le_of_ble_eq_true rfl, Nat.le_of_ble_eq_true rfl⟩) (by have := ((isRow_st ho).2.2.2.1).2.1; omega) (by have := ((isRow_st ho).2.2.2.1).2.1; omega) (((isRow_st ho).2.2.2.1).1 G S).1 rfl rfl (Nat.le_of_ble_eq_true rfl) dX5_backedBy_69 ⟨Nat.le_of_ble_eq_true rfl, Nat.le_of_ble_eq_true rfl⟩ (fun x8 hx8 => ?_)
            refine vs_jn (β := Int32 → Option (Int32)) (P := fun k10 => ∀ (x9 : Int32), VS G p l e ({ frames := 1, cells := 0, slots := 0, locals := 21 } : Room) s m args below meth c 8 (fun x => MQ below (QI G (x, S)) args s 0 0 (Af G)) (k10 x9) 0 0 S 80 [(0, rf G o), (1, .int p1), (2, .int p2), (3, .int v3), (4, .int v4), (5, .int x2), (6, .int x4)] [.int x9]) (fun x9 => ?_) (fun k10 hk10 => ?_)
            · refine vs_istore X (lv' := [(7, .int x9), (0, rf G o), (1, .int p1), (2, .int p2), (3, .int v3), (4, .int v4), (5, .int x2), (6, .int x4)]) dX5_backedBy_80 (by decide) rfl ?_
              refine vs_iload X dX5_backedBy_82 7 rfl ?_
              refine vs_if_eq X (tgt := 112) dX5_backedBy_84 (by decide) (fun _ => ?_) (fun _ => ?_)
              · refine vs_iinc X (v := (v4 + 1)) (lv' := [(4, .int (v4 + 1)), (7, .int x9), (0, rf G o), (1, .int p1), (2, .int p2), (3, .int v3), (5, .int x2), (6, .int x4)]) dX5_backedBy_112 5 rfl rfl (by decide) rfl ?_
                refine vs_goto X (tgt := 5) dX5_backedBy_115 (by decide) ?_
                refine vs_sub [2, 3, 4, 5, 0] (lv' := [(0, rf G o), (1, .int p1), (2, .int p2), (3, .int v3), (4, .int (v4 + 1))]) rfl ?_
                exact ih v3 (v4 + 1)
              · refine vs_iload X dX5_backedBy_87 0 rfl ?_
                refine vs_if_eq X (tgt := 112) dX5_backedBy_89 (by decide) (fun _ => ?_) (fun _ => ?_)
                · refine vs_iinc X (v := (v4 + 1)) (lv' := [(4, .int (v4 + 1)), (7, .int x9), (0, rf G o), (1, .int p1), (2, .int p2), (3, .int v3), (5, .int x2), (6, .int x4)]) dX5_backedBy_112 5 rfl rfl (by decide) rfl ?_
                  refine vs_goto X (tgt := 5) dX5_backedBy_115 (by decide) ?_
                  refine vs_sub [2, 3, 4, 5, 0] (lv' := [(0, rf G o), (1, .int p1), (2, .int p2), (3, .int v3), (4, .int (v4 + 1))]) rfl ?_
                  exact ih v3 (v4 + 1)
                · refine vs_aload_n X dX5_backedBy_92 1 rfl ?_
                  refine g_St ho X hinX5 6 (by decide) (by decide +kernel) rfl rfl dX5_backedBy_93 ?_
                  refine vs_iload X dX5_backedBy_96 5 rfl ?_
                  refine vs_callVp X  (As := [.int v4]) (st' := []) (mtX4_get hl0 (isRow_st ho).2.2.2.2.1 v4) (cwV 1 X.2.2.2.2.1 gX5_backedBy_X4_get rfl rfl rfl (by decide +kernel) ⟨Nat.le_of_ble_eq_true rfl, Nat.le_of_ble_eq_true rfl⟩) (by have := ((isRow_st ho).2.2.2.2.1).2.1; omega) (by have := ((isRow_st ho).2.2.2.2.1).2.1; omega) (((isRow_st ho).2.2.2.2.1).1 G S).1 rfl rfl (Nat.le_of_ble_eq_true rfl) dX5_backedBy_98 ⟨Nat.le_of_ble_eq_true rfl, Nat.le_of_ble_eq_true rfl⟩ (fun x11 hx11 => ?_)
                  refine vs_iload_n X dX5_backedBy_101 3 rfl ?_
                  refine vs_icmp_lt X (tgt := 112) dX5_backedBy_102 (by decide) (fun _ => ?_) (fun _ => ?_)
                  · refine vs_iinc X (v := (v4 + 1)) (lv' := [(4, .int (v4 + 1)), (7, .int x9), (0, rf G o), (1, .int p1), (2, .int p2), (3, .int v3), (5, .int x2), (6, .int x4)]) dX5_backedBy_112 5 rfl rfl (by decide) rfl ?_
                    refine vs_goto X (tgt := 5) dX5_backedBy_115 (by decide) ?_
                    refine vs_sub [2, 3, 4, 5, 0] (lv' := [(0, rf G o), (1, .int p1), (2, .int p2), (3, .int v3), (4, .int (v4 + 1))]) rfl ?_
                    exact ih v3 (v4 + 1)
                  · refine vs_iload_n X dX5_backedBy_105 4 rfl ?_
                    refine vs_iconst X (v := 1) dX5_backedBy_106 (by decide) ?_
                    refine vs_iload X dX5_backedBy_107 5 rfl ?_
                    refine vs_ishl X dX5_backedBy_109 ?_
                    refine vs_ior X dX5_backedBy_110 ?_
                    refine vs_istore_n X (lv' := [(3, .int (v3 ||| (1 <<< (v4 &&& 31)))), (7, .int x9), (0, rf G o), (1, .int p1), (2, .int p2), (4, .int v4), (5, .int x2), (6, .int x4)]) dX5_backedBy_111 (by decide) rfl ?_
                    refine vs_iinc X (v := (v4 + 1)) (lv' := [(4, .int (v4 + 1)), (3, .int (v3 ||| (1 <<< (v4 &&& 31)))), (7, .int x9), (0, rf G o), (1, .int p1), (2, .int p2), (5, .int x2), (6, .int x4)]) dX5_backedBy_112 5 rfl rfl (by decide) rfl ?_
                    refine vs_goto X (tgt := 5) dX5_backedBy_115 (by decide) ?_
                    refine vs_sub [3, 4, 5, 1, 0] (lv' := [(0, rf G o), (1, .int p1), (2, .int p2), (3, .int (v3 ||| (1 <<< (v4 &&& 31)))), (4, .int (v4 + 1))]) rfl ?_
                    exact ih (v3 ||| (1 <<< (v4 &&& 31))) (v4 + 1)
            · refine vs_icmp_ne X (tgt := 79) dX5_backedBy_72 (by decide) (fun _ => ?_) (fun _ => ?_)
              · refine vs_iconst X (v := 1) dX5_backedBy_75 (by decide) ?_
                refine vs_goto X (tgt := 80) dX5_backedBy_76 (by decide) ?_
                exact vs_join [1, 2, 3, 4, 5, 6, 0] (Nat.le_of_ble_eq_true rfl) (Nat.le_of_ble_eq_true rfl) rfl (hk10 1)
              · refine vs_iconst X (v := 0) dX5_backedBy_79 (by decide) ?_
                exact vs_join [1, 2, 3, 4, 5, 6, 0] (Nat.le_of_ble_eq_true rfl) (Nat.le_of_ble_eq_true rfl) rfl (hk10 0)
          · refine vs_icmp_eq X (tgt := 40) dX5_backedBy_28 (by decide) (fun _ => ?_) (fun _ => ?_)
            · refine vs_iconst X (v := 1) dX5_backedBy_40 (by decide) ?_
              refine vs_goto X (tgt := 45) dX5_backedBy_41 (by decide) ?_
              exact vs_join [1, 2, 3, 4, 5, 0] (Nat.le_of_ble_eq_true rfl) (Nat.le_of_ble_eq_true rfl) rfl (hk5 1)
            · refine vs_iload_n X dX5_backedBy_31 2 rfl ?_
              refine vs_iload X dX5_backedBy_32 0 rfl ?_
              refine vs_callSNp X  (As := [.int p1, .int x2]) (st' := []) (mtX6_has hl0 p1 x2) ⟨va_cnB 2 X.2.2.2.2.1 gX5_backedBy_X6_has_n72 rfl rfl rfl (X.2.2.2.2.2.2.2.2.1.2 (RX5, 72, yX6_has, "ScarecrowRegistry") (by decide +kernel)) (X.2.2.2.2.1 _ (by decide +kernel)) (by decide +kernel) ⟨Nat.le_of_ble_eq_true rfl, Nat.le_of_ble_eq_true rfl⟩, X.2.2.2.2.1 (.static yX6_has) (by decide +kernel), trivial⟩ rfl (Nat.le_of_ble_eq_true rfl) dX5_backedBy_34 ⟨Nat.le_of_ble_eq_true rfl, Nat.le_of_ble_eq_true rfl⟩ (fun x3 hx3 => ?_)
              refine vs_if_eq X (tgt := 44) dX5_backedBy_37 (by decide) (fun _ => ?_) (fun _ => ?_)
              · refine vs_iconst X (v := 0) dX5_backedBy_44 (by decide) ?_
                exact vs_join [1, 2, 3, 4, 5, 0] (Nat.le_of_ble_eq_true rfl) (Nat.le_of_ble_eq_true rfl) rfl (hk5 0)
              · refine vs_iconst X (v := 1) dX5_backedBy_40 (by decide) ?_
                refine vs_goto X (tgt := 45) dX5_backedBy_41 (by decide) ?_
                exact vs_join [1, 2, 3, 4, 5, 0] (Nat.le_of_ble_eq_true rfl) (Nat.le_of_ble_eq_true rfl) rfl (hk5 1)
  refine vs_sub [2, 3, 4, 1, 0] (lv' := [(0, rf G o), (1, .int p1), (2, .int p2), (3, .int 0), (4, .int 0)]) rfl ?_
  exact L1 200 0 0

def lpX5_subjectsOf_4 (o : Nat) (p1 : Int32) (S : Wo)   : Nat → Int32 → Int32 → Option (Int32)
  | 0, _, _ => none
  | f + 1, v2, v3 => (if S.1 o 7 ≤ v3 then some v2 else (spX6_has p1 v3 S).bind (fun x2 => (if x2 = 0 then lpX5_subjectsOf_4 o p1 S f v2 (v3 + 1) else (spX4_get (o + 5) 20 v3 S).bind (fun x3 => lpX5_subjectsOf_4 o p1 S f (v2 ||| (1 <<< (x3 &&& 31))) (v3 + 1)))))
def spX5_subjectsOf (o : Nat) (p1 : Int32) (S : Wo) : Option (Int32) :=
  lpX5_subjectsOf_4 o p1 S 200 0 0
set_option maxHeartbeats 4000000 in
set_option maxRecDepth 100000 in
theorem mtX5_subjectsOf {l : Launch} (hl0 : l.stackTraces = false) {G : Gt} {o : Nat} (ho : o ∈ stL) (p1 : Int32) {S : Wo} : ∀ x, spX5_subjectsOf o p1 S = some x → MI l yX5_subjectsOf wsX5_subjectsOf { frames := 1, cells := 0, slots := 0, locals := 21 } G S [rf G o, .int p1] (x, S) 0 0 := by
  refine MIp_of (cc := cX5_subjectsOf) (own := RX5) (maxL := 4) (ret := (some .int)) (sp := spX5_subjectsOf o p1 S) (by decide +kernel) rfl rfl (Nat.le_of_ble_eq_true rfl) ?_
  intro p e s m args below meth c X
  have hinX5 : ∀ w ∈ wsX50, w ∈ wsX5_subjectsOf := by decide +kernel
  show VS G p l e _ s m args below meth c 4 _ _ 0 0 S 0 [(0, rf G o), (1, .int p1)] []
  unfold spX5_subjectsOf
  refine vs_iconst X (v := 0) dX5_subjectsOf_0 (by decide) ?_
  refine vs_istore_n X (lv' := [(2, .int 0), (0, rf G o), (1, .int p1)]) dX5_subjectsOf_1 (by decide) rfl ?_
  refine vs_iconst X (v := 0) dX5_subjectsOf_2 (by decide) ?_
  refine vs_istore_n X (lv' := [(3, .int 0), (2, .int 0), (0, rf G o), (1, .int p1)]) dX5_subjectsOf_3 (by decide) rfl ?_
  have L1 : ∀ (f : Nat) (v2 : Int32) (v3 : Int32), VS G p l e ({ frames := 1, cells := 0, slots := 0, locals := 21 } : Room) s m args below meth c 4 (fun x => MQ below (QI G (x, S)) args s 0 0 (Af G)) (lpX5_subjectsOf_4 o p1 S f v2 v3) 0 0 S 4 [(0, rf G o), (1, .int p1), (2, .int v2), (3, .int v3)] [] := by
    intro f
    induction f with
    | zero => intro v2 v3; exact vs_none rfl
    | succ f ih =>
        intro v2 v3
        rw [lpX5_subjectsOf_4]
        refine vs_iload_n X dX5_subjectsOf_4 3 rfl ?_
        refine vs_aload_n X dX5_subjectsOf_5 0 rfl ?_
        refine g_St ho X hinX5 7 (by decide) (by decide +kernel) rfl rfl dX5_subjectsOf_6 ?_
        refine vs_icmp_ge X (tgt := 39) dX5_subjectsOf_9 (by decide) (fun _ => ?_) (fun _ => ?_)
        · refine vs_iload_n X dX5_subjectsOf_39 2 rfl ?_
          exact vs_iretp X dX5_subjectsOf_40 (by decide) (by decide)
        · refine vs_iload_n X dX5_subjectsOf_12 1 rfl ?_
          refine vs_iload_n X dX5_subjectsOf_13 3 rfl ?_
          refine vs_callSNp X  (As := [.int p1, .int v3]) (st' := []) (mtX6_has hl0 p1 v3) ⟨va_cnB 2 X.2.2.2.2.1 gX5_subjectsOf_X6_has_n72 rfl rfl rfl (X.2.2.2.2.2.2.2.2.1.2 (RX5, 72, yX6_has, "ScarecrowRegistry") (by decide +kernel)) (X.2.2.2.2.1 _ (by decide +kernel)) (by decide +kernel) ⟨Nat.le_of_ble_eq_true rfl, Nat.le_of_ble_eq_true rfl⟩, X.2.2.2.2.1 (.static yX6_has) (by decide +kernel), trivial⟩ rfl (Nat.le_of_ble_eq_true rfl) dX5_subjectsOf_14 ⟨Nat.le_of_ble_eq_true rfl, Nat.le_of_ble_eq_true rfl⟩ (fun x2 hx2 => ?_)
          refine vs_if_eq X (tgt := 33) dX5_subjectsOf_17 (by decide) (fun _ => ?_) (fun _ => ?_)
          · refine vs_iinc X (v := (v3 + 1)) (lv' := [(3, .int (v3 + 1)), (0, rf G o), (1, .int p1), (2, .int v2)]) dX5_subjectsOf_33 3 rfl rfl (by decide) rfl ?_
            refine vs_goto X (tgt := 4) dX5_subjectsOf_36 (by decide) ?_
            refine vs_sub [1, 2, 3, 0] (lv' := [(0, rf G o), (1, .int p1), (2, .int v2), (3, .int (v3 + 1))]) rfl ?_
            exact ih v2 (v3 + 1)
          · refine vs_iload_n X dX5_subjectsOf_20 2 rfl ?_
            refine vs_iconst X (v := 1) dX5_subjectsOf_21 (by decide) ?_
            refine vs_aload_n X dX5_subjectsOf_22 0 rfl ?_
            refine g_St ho X hinX5 4 (by decide) (by decide +kernel) rfl rfl dX5_subjectsOf_23 ?_
            refine vs_iload_n X dX5_subjectsOf_26 3 rfl ?_
            refine vs_callVp X  (As := [.int v3]) (st' := [.int 1, .int v2]) (mtX4_get hl0 (isRow_st ho).2.2.1 v3) (cwV 1 X.2.2.2.2.1 gX5_subjectsOf_X4_get rfl rfl rfl (by decide +kernel) ⟨Nat.le_of_ble_eq_true rfl, Nat.le_of_ble_eq_true rfl⟩) (by have := ((isRow_st ho).2.2.1).2.1; omega) (by have := ((isRow_st ho).2.2.1).2.1; omega) (((isRow_st ho).2.2.1).1 G S).1 rfl rfl (Nat.le_of_ble_eq_true rfl) dX5_subjectsOf_27 ⟨Nat.le_of_ble_eq_true rfl, Nat.le_of_ble_eq_true rfl⟩ (fun x3 hx3 => ?_)
            refine vs_ishl X dX5_subjectsOf_30 ?_
            refine vs_ior X dX5_subjectsOf_31 ?_
            refine vs_istore_n X (lv' := [(2, .int (v2 ||| (1 <<< (x3 &&& 31)))), (0, rf G o), (1, .int p1), (3, .int v3)]) dX5_subjectsOf_32 (by decide) rfl ?_
            refine vs_iinc X (v := (v3 + 1)) (lv' := [(3, .int (v3 + 1)), (2, .int (v2 ||| (1 <<< (x3 &&& 31)))), (0, rf G o), (1, .int p1)]) dX5_subjectsOf_33 3 rfl rfl (by decide) rfl ?_
            refine vs_goto X (tgt := 4) dX5_subjectsOf_36 (by decide) ?_
            refine vs_sub [2, 3, 1, 0] (lv' := [(0, rf G o), (1, .int p1), (2, .int (v2 ||| (1 <<< (x3 &&& 31)))), (3, .int (v3 + 1))]) rfl ?_
            exact ih (v2 ||| (1 <<< (x3 &&& 31))) (v3 + 1)
  refine vs_sub [2, 3, 1, 0] (lv' := [(0, rf G o), (1, .int p1), (2, .int 0), (3, .int 0)]) rfl ?_
  exact L1 200 0 0

def lpX5_certifiedWithin_8 (o : Nat) (p1 : Int32) (p2 : Int32) (S : Wo)   : Nat → Int32 → Int32 → Int32 → Option (Int32)
  | 0, _, _, _ => none
  | f + 1, v3, v4, v5 => (if p1 ≤ v5 then some v3 else (if v3 = v4 then some v3 else (spX5_backedBy o v3 p2 S).bind (fun x2 => (spX5_subjectsOf o x2 S).bind (fun x3 => lpX5_certifiedWithin_8 o p1 p2 S f (x3 &&& (S.1 o 2 ^^^ (-1))) v3 (v5 + 1)))))
def spX5_certifiedWithin (o : Nat) (p1 : Int32) (p2 : Int32) (S : Wo) : Option (Int32) :=
  lpX5_certifiedWithin_8 o p1 p2 S 200 0 (-1) 0
set_option maxHeartbeats 4000000 in
set_option maxRecDepth 100000 in
theorem mtX5_certifiedWithin {l : Launch} (hl0 : l.stackTraces = false) {G : Gt} {o : Nat} (ho : o ∈ stL) (p1 : Int32) (p2 : Int32) {S : Wo} : ∀ x, spX5_certifiedWithin o p1 p2 S = some x → MI l yX5_certifiedWithin wsX5_certifiedWithin { frames := 2, cells := 0, slots := 0, locals := 48 } G S [rf G o, .int p1, .int p2] (x, S) 0 0 := by
  refine MIp_of (cc := cX5_certifiedWithin) (own := RX5) (maxL := 6) (ret := (some .int)) (sp := spX5_certifiedWithin o p1 p2 S) (by decide +kernel) rfl rfl (Nat.le_of_ble_eq_true rfl) ?_
  intro p e s m args below meth c X
  have hinX5 : ∀ w ∈ wsX50, w ∈ wsX5_certifiedWithin := by decide +kernel
  show VS G p l e _ s m args below meth c 6 _ _ 0 0 S 0 [(0, rf G o), (1, .int p1), (2, .int p2)] []
  unfold spX5_certifiedWithin
  refine vs_iconst X (v := 0) dX5_certifiedWithin_0 (by decide) ?_
  refine vs_istore_n X (lv' := [(3, .int 0), (0, rf G o), (1, .int p1), (2, .int p2)]) dX5_certifiedWithin_1 (by decide) rfl ?_
  refine vs_iconst X (v := (-1)) dX5_certifiedWithin_2 (by decide) ?_
  refine vs_istore X (lv' := [(4, .int (-1)), (3, .int 0), (0, rf G o), (1, .int p1), (2, .int p2)]) dX5_certifiedWithin_3 (by decide) rfl ?_
  refine vs_iconst X (v := 0) dX5_certifiedWithin_5 (by decide) ?_
  refine vs_istore X (lv' := [(5, .int 0), (4, .int (-1)), (3, .int 0), (0, rf G o), (1, .int p1), (2, .int p2)]) dX5_certifiedWithin_6 (by decide) rfl ?_
  have L1 : ∀ (f : Nat) (v3 : Int32) (v4 : Int32) (v5 : Int32), VS G p l e ({ frames := 2, cells := 0, slots := 0, locals := 48 } : Room) s m args below meth c 6 (fun x => MQ below (QI G (x, S)) args s 0 0 (Af G)) (lpX5_certifiedWithin_8 o p1 p2 S f v3 v4 v5) 0 0 S 8 [(0, rf G o), (1, .int p1), (2, .int p2), (3, .int v3), (4, .int v4), (5, .int v5)] [] := by
    intro f
    induction f with
    | zero => intro v3 v4 v5; exact vs_none rfl
    | succ f ih =>
        intro v3 v4 v5
        rw [lpX5_certifiedWithin_8]
        refine vs_iload X dX5_certifiedWithin_8 5 rfl ?_
        refine vs_iload_n X dX5_certifiedWithin_10 1 rfl ?_
        refine vs_icmp_ge X (tgt := 47) dX5_certifiedWithin_11 (by decide) (fun _ => ?_) (fun _ => ?_)
        · refine vs_iload_n X dX5_certifiedWithin_47 3 rfl ?_
          exact vs_iretp X dX5_certifiedWithin_48 (by decide) (by decide)
        · refine vs_iload_n X dX5_certifiedWithin_14 3 rfl ?_
          refine vs_iload X dX5_certifiedWithin_15 4 rfl ?_
          refine vs_icmp_eq X (tgt := 47) dX5_certifiedWithin_17 (by decide) (fun _ => ?_) (fun _ => ?_)
          · refine vs_iload_n X dX5_certifiedWithin_47 3 rfl ?_
            exact vs_iretp X dX5_certifiedWithin_48 (by decide) (by decide)
          · refine vs_iload_n X dX5_certifiedWithin_20 3 rfl ?_
            refine vs_istore X (lv' := [(4, .int v3), (0, rf G o), (1, .int p1), (2, .int p2), (3, .int v3), (5, .int v5)]) dX5_certifiedWithin_21 (by decide) rfl ?_
            refine vs_aload_n X dX5_certifiedWithin_23 1 rfl ?_
            refine vs_aload_n X dX5_certifiedWithin_24 1 rfl ?_
            refine vs_iload_n X dX5_certifiedWithin_25 4 rfl ?_
            refine vs_iload_n X dX5_certifiedWithin_26 3 rfl ?_
            refine vs_callVp X  (As := [.int v3, .int p2]) (st' := [rf G o]) (mtX5_backedBy hl0 ho v3 p2) (cwV 2 X.2.2.2.2.1 gX5_certifiedWithin_X5_backedBy rfl rfl rfl (by decide +kernel) ⟨Nat.le_of_ble_eq_true rfl, Nat.le_of_ble_eq_true rfl⟩) (by have := stL_lt ho; omega) (by have := stL_lt ho; omega) (cel_st ho) rfl rfl (Nat.le_of_ble_eq_true rfl) dX5_certifiedWithin_27 ⟨Nat.le_of_ble_eq_true rfl, Nat.le_of_ble_eq_true rfl⟩ (fun x2 hx2 => ?_)
            refine vs_callVp X  (As := [.int x2]) (st' := []) (mtX5_subjectsOf hl0 ho x2) (cwV 1 X.2.2.2.2.1 gX5_certifiedWithin_X5_subjectsOf rfl rfl rfl (by decide +kernel) ⟨Nat.le_of_ble_eq_true rfl, Nat.le_of_ble_eq_true rfl⟩) (by have := stL_lt ho; omega) (by have := stL_lt ho; omega) (cel_st ho) rfl rfl (Nat.le_of_ble_eq_true rfl) dX5_certifiedWithin_30 ⟨Nat.le_of_ble_eq_true rfl, Nat.le_of_ble_eq_true rfl⟩ (fun x3 hx3 => ?_)
            refine vs_aload_n X dX5_certifiedWithin_33 1 rfl ?_
            refine g_St ho X hinX5 2 (by decide) (by decide +kernel) rfl rfl dX5_certifiedWithin_34 ?_
            refine vs_iconst X (v := (-1)) dX5_certifiedWithin_37 (by decide) ?_
            refine vs_ixor X dX5_certifiedWithin_38 ?_
            refine vs_iand X dX5_certifiedWithin_39 ?_
            refine vs_istore_n X (lv' := [(3, .int (x3 &&& (S.1 o 2 ^^^ (-1)))), (4, .int v3), (0, rf G o), (1, .int p1), (2, .int p2), (5, .int v5)]) dX5_certifiedWithin_40 (by decide) rfl ?_
            refine vs_iinc X (v := (v5 + 1)) (lv' := [(5, .int (v5 + 1)), (3, .int (x3 &&& (S.1 o 2 ^^^ (-1)))), (4, .int v3), (0, rf G o), (1, .int p1), (2, .int p2)]) dX5_certifiedWithin_41 5 rfl rfl (by decide) rfl ?_
            refine vs_goto X (tgt := 8) dX5_certifiedWithin_44 (by decide) ?_
            refine vs_sub [3, 4, 5, 1, 2, 0] (lv' := [(0, rf G o), (1, .int p1), (2, .int p2), (3, .int (x3 &&& (S.1 o 2 ^^^ (-1)))), (4, .int v3), (5, .int (v5 + 1))]) rfl ?_
            exact ih (x3 &&& (S.1 o 2 ^^^ (-1))) v3 (v5 + 1)
  refine vs_sub [3, 4, 5, 2, 1, 0] (lv' := [(0, rf G o), (1, .int p1), (2, .int p2), (3, .int 0), (4, .int (-1)), (5, .int 0)]) rfl ?_
  exact L1 200 0 (-1) 0

def spX5_certifiedNow (o : Nat) (S : Wo) : Option (Int32) :=
  (spX5_certifiedWithin o 10 (S.1 o 9) S).bind (fun x1 => some x1)
set_option maxHeartbeats 4000000 in
set_option maxRecDepth 100000 in
theorem mtX5_certifiedNow {l : Launch} (hl0 : l.stackTraces = false) {G : Gt} {o : Nat} (ho : o ∈ stL) {S : Wo} : ∀ x, spX5_certifiedNow o S = some x → MI l yX5_certifiedNow wsX5_certifiedNow { frames := 3, cells := 0, slots := 0, locals := 73 } G S [rf G o] (x, S) 0 0 := by
  refine MIp_of (cc := cX5_certifiedNow) (own := RX5) (maxL := 1) (ret := (some .int)) (sp := spX5_certifiedNow o S) (by decide +kernel) rfl rfl (Nat.le_of_ble_eq_true rfl) ?_
  intro p e s m args below meth c X
  have hinX5 : ∀ w ∈ wsX50, w ∈ wsX5_certifiedNow := by decide +kernel
  show VS G p l e _ s m args below meth c 1 _ _ 0 0 S 0 [(0, rf G o)] []
  unfold spX5_certifiedNow
  refine vs_aload_n X dX5_certifiedNow_0 0 rfl ?_
  refine vs_bipush X (v := 10) dX5_certifiedNow_1 (by decide) ?_
  refine vs_aload_n X dX5_certifiedNow_3 0 rfl ?_
  refine g_St ho X hinX5 9 (by decide) (by decide +kernel) rfl rfl dX5_certifiedNow_4 ?_
  refine vs_callVp X  (As := [.int 10, .int (S.1 o 9)]) (st' := []) (mtX5_certifiedWithin hl0 ho 10 (S.1 o 9)) (cwV 2 X.2.2.2.2.1 gX5_certifiedNow_X5_certifiedWithin rfl rfl rfl (by decide +kernel) ⟨Nat.le_of_ble_eq_true rfl, Nat.le_of_ble_eq_true rfl⟩) (by have := stL_lt ho; omega) (by have := stL_lt ho; omega) (cel_st ho) rfl rfl (Nat.le_of_ble_eq_true rfl) dX5_certifiedNow_7 ⟨Nat.le_of_ble_eq_true rfl, Nat.le_of_ble_eq_true rfl⟩ (fun x1 hx1 => ?_)
  exact vs_iretp X dX5_certifiedNow_10 (by decide) (by decide)

def spX5_inForceNow (o : Nat) (S : Wo) : Option (Int32) :=
  (spX5_certifiedNow o S).bind (fun x1 => (spX5_backedBy o x1 (S.1 o 9) S).bind (fun x2 => some x2))
set_option maxHeartbeats 4000000 in
set_option maxRecDepth 100000 in
theorem mtX5_inForceNow {l : Launch} (hl0 : l.stackTraces = false) {G : Gt} {o : Nat} (ho : o ∈ stL) {S : Wo} : ∀ x, spX5_inForceNow o S = some x → MI l yX5_inForceNow wsX5_inForceNow { frames := 4, cells := 0, slots := 0, locals := 93 } G S [rf G o] (x, S) 0 0 := by
  refine MIp_of (cc := cX5_inForceNow) (own := RX5) (maxL := 1) (ret := (some .int)) (sp := spX5_inForceNow o S) (by decide +kernel) rfl rfl (Nat.le_of_ble_eq_true rfl) ?_
  intro p e s m args below meth c X
  have hinX5 : ∀ w ∈ wsX50, w ∈ wsX5_inForceNow := by decide +kernel
  show VS G p l e _ s m args below meth c 1 _ _ 0 0 S 0 [(0, rf G o)] []
  unfold spX5_inForceNow
  refine vs_aload_n X dX5_inForceNow_0 0 rfl ?_
  refine vs_aload_n X dX5_inForceNow_1 0 rfl ?_
  refine vs_callVp X  (As := []) (st' := [rf G o]) (mtX5_certifiedNow hl0 ho) (cwV 0 X.2.2.2.2.1 gX5_inForceNow_X5_certifiedNow rfl rfl rfl (by decide +kernel) ⟨Nat.le_of_ble_eq_true rfl, Nat.le_of_ble_eq_true rfl⟩) (by have := stL_lt ho; omega) (by have := stL_lt ho; omega) (cel_st ho) rfl rfl (Nat.le_of_ble_eq_true rfl) dX5_inForceNow_2 ⟨Nat.le_of_ble_eq_true rfl, Nat.le_of_ble_eq_true rfl⟩ (fun x1 hx1 => ?_)
  refine vs_aload_n X dX5_inForceNow_5 0 rfl ?_
  refine g_St ho X hinX5 9 (by decide) (by decide +kernel) rfl rfl dX5_inForceNow_6 ?_
  refine vs_callVp X  (As := [.int x1, .int (S.1 o 9)]) (st' := []) (mtX5_backedBy hl0 ho x1 (S.1 o 9)) (cwV 2 X.2.2.2.2.1 gX5_inForceNow_X5_backedBy rfl rfl rfl (by decide +kernel) ⟨Nat.le_of_ble_eq_true rfl, Nat.le_of_ble_eq_true rfl⟩) (by have := stL_lt ho; omega) (by have := stL_lt ho; omega) (cel_st ho) rfl rfl (Nat.le_of_ble_eq_true rfl) dX5_inForceNow_9 ⟨Nat.le_of_ble_eq_true rfl, Nat.le_of_ble_eq_true rfl⟩ (fun x2 hx2 => ?_)
  exact vs_iretp X dX5_inForceNow_12 (by decide) (by decide)

def lpX5_leadsBackToRegistry_22 (o : Nat) (p1 : Int32) (S : Wo) (w3 : Int32) (K : Int32 → Int32 → Option (Int32)) : Nat → Int32 → Int32 → Option (Int32)
  | 0, _, _ => none
  | f + 1, v2, v4 => (if S.1 o 7 ≤ v4 then K v2 v4 else (spX4_get (o + 5) 20 v4 S).bind (fun x4 => (spX6_has v2 x4 S).bind (fun x5 => (if x5 = 0 then lpX5_leadsBackToRegistry_22 o p1 S w3 K f v2 (v4 + 1) else (spX4_get (o + 1) 10 x4 S).bind (fun x6 => (spX4_get (o + 7) 20 v4 S).bind (fun x7 => (if x6 = x7 then (spX4_get (o + 3) 20 v4 S).bind (fun x8 => (if x8 = (-1) then rz 1 some else nm (v2 ||| ((1 <<< (x8 &&& 31)) &&& (S.1 o 2 ^^^ (-1)))) (fun y9 => lpX5_leadsBackToRegistry_22 o p1 S w3 K f y9 (v4 + 1)))) else lpX5_leadsBackToRegistry_22 o p1 S w3 K f v2 (v4 + 1))))))))
def lpX5_leadsBackToRegistry_13 (o : Nat) (p1 : Int32) (S : Wo)   : Nat → Int32 → Int32 → Option (Int32)
  | 0, _, _ => none
  | f + 1, v2, v3 => (if (10 : Int32) ≤ v3 then rz 0 some else lpX5_leadsBackToRegistry_22 o p1 S v3 (fun (u10 : Int32) (u11 : Int32) => lpX5_leadsBackToRegistry_13 o p1 S f u10 (v3 + 1)) 200 v2 0)
def spX5_leadsBackToRegistry (o : Nat) (p1 : Int32) (S : Wo) : Option (Int32) :=
  nm ((1 <<< (p1 &&& 31)) &&& (S.1 o 2 ^^^ (-1))) (fun y1 => lpX5_leadsBackToRegistry_13 o p1 S 200 y1 0)
set_option maxHeartbeats 4000000 in
set_option maxRecDepth 100000 in
theorem mtX5_leadsBackToRegistry {l : Launch} (hl0 : l.stackTraces = false) {G : Gt} {o : Nat} (ho : o ∈ stL) (p1 : Int32) {S : Wo} : ∀ x, spX5_leadsBackToRegistry o p1 S = some x → MI l yX5_leadsBackToRegistry wsX5_leadsBackToRegistry { frames := 1, cells := 0, slots := 0, locals := 21 } G S [rf G o, .int p1] (x, S) 0 0 := by
  refine MIp_of (cc := cX5_leadsBackToRegistry) (own := RX5) (maxL := 7) (ret := (some .boolean)) (sp := spX5_leadsBackToRegistry o p1 S) (by decide +kernel) rfl rfl (Nat.le_of_ble_eq_true rfl) ?_
  intro p e s m args below meth c X
  have hinX5 : ∀ w ∈ wsX50, w ∈ wsX5_leadsBackToRegistry := by decide +kernel
  show VS G p l e _ s m args below meth c 7 _ _ 0 0 S 0 [(0, rf G o), (1, .int p1)] []
  unfold spX5_leadsBackToRegistry
  refine vs_iconst X (v := 1) dX5_leadsBackToRegistry_0 (by decide) ?_
  refine vs_iload_n X dX5_leadsBackToRegistry_1 1 rfl ?_
  refine vs_ishl X dX5_leadsBackToRegistry_2 ?_
  refine vs_aload_n X dX5_leadsBackToRegistry_3 0 rfl ?_
  refine g_St ho X hinX5 2 (by decide) (by decide +kernel) rfl rfl dX5_leadsBackToRegistry_4 ?_
  refine vs_iconst X (v := (-1)) dX5_leadsBackToRegistry_7 (by decide) ?_
  refine vs_ixor X dX5_leadsBackToRegistry_8 ?_
  refine vs_iand X dX5_leadsBackToRegistry_9 ?_
  refine vs_nm (fun y1 hy1 => ?_)
  refine vs_istore_n X (lv' := [(2, .int y1), (0, rf G o), (1, .int p1)]) dX5_leadsBackToRegistry_10 (by decide) rfl ?_
  refine vs_iconst X (v := 0) dX5_leadsBackToRegistry_11 (by decide) ?_
  refine vs_istore_n X (lv' := [(3, .int 0), (2, .int y1), (0, rf G o), (1, .int p1)]) dX5_leadsBackToRegistry_12 (by decide) rfl ?_
  have L2 : ∀ (f : Nat) (v2 : Int32) (v3 : Int32), VS G p l e ({ frames := 1, cells := 0, slots := 0, locals := 21 } : Room) s m args below meth c 7 (fun x => MQ below (QI G (x, S)) args s 0 0 (Af G)) (lpX5_leadsBackToRegistry_13 o p1 S f v2 v3) 0 0 S 13 [(0, rf G o), (1, .int p1), (2, .int v2), (3, .int v3)] [] := by
    intro f
    induction f with
    | zero => intro v2 v3; exact vs_none rfl
    | succ f ih =>
        intro v2 v3
        rw [lpX5_leadsBackToRegistry_13]
        refine vs_iload_n X dX5_leadsBackToRegistry_13 3 rfl ?_
        refine vs_bipush X (v := 10) dX5_leadsBackToRegistry_14 (by decide) ?_
        refine vs_icmp_ge X (tgt := 117) dX5_leadsBackToRegistry_16 (by decide) (fun _ => ?_) (fun _ => ?_)
        · refine vs_iconst X (v := 0) dX5_leadsBackToRegistry_117 (by decide) ?_
          exact vs_zretp X dX5_leadsBackToRegistry_118 (by decide) (by decide)
        · refine vs_iconst X (v := 0) dX5_leadsBackToRegistry_19 (by decide) ?_
          refine vs_istore X (lv' := [(4, .int 0), (0, rf G o), (1, .int p1), (2, .int v2), (3, .int v3)]) dX5_leadsBackToRegistry_20 (by decide) rfl ?_
          have L3 : ∀ (w3 : Int32) (K : Int32 → Int32 → Option (Int32)) (hK : ∀ (v2 : Int32) (v4 : Int32), VS G p l e ({ frames := 1, cells := 0, slots := 0, locals := 21 } : Room) s m args below meth c 7 (fun x => MQ below (QI G (x, S)) args s 0 0 (Af G)) (K v2 v4) 0 0 S 111 [(0, rf G o), (1, .int p1), (2, .int v2), (3, .int w3), (4, .int v4)] []) (f : Nat) (v2 : Int32) (v4 : Int32), VS G p l e ({ frames := 1, cells := 0, slots := 0, locals := 21 } : Room) s m args below meth c 7 (fun x => MQ below (QI G (x, S)) args s 0 0 (Af G)) (lpX5_leadsBackToRegistry_22 o p1 S w3 K f v2 v4) 0 0 S 22 [(0, rf G o), (1, .int p1), (2, .int v2), (3, .int w3), (4, .int v4)] [] := by
            intro w3 K hK f
            induction f with
            | zero => intro v2 v4; exact vs_none rfl
            | succ f ih =>
                intro v2 v4
                rw [lpX5_leadsBackToRegistry_22]
                refine vs_iload X dX5_leadsBackToRegistry_22 4 rfl ?_
                refine vs_aload_n X dX5_leadsBackToRegistry_24 0 rfl ?_
                refine g_St ho X hinX5 7 (by decide) (by decide +kernel) rfl rfl dX5_leadsBackToRegistry_25 ?_
                refine vs_icmp_ge X (tgt := 111) dX5_leadsBackToRegistry_28 (by decide) (fun _ => ?_) (fun _ => ?_)
                · refine vs_sub [0, 1, 2, 3, 4] (lv' := [(0, rf G o), (1, .int p1), (2, .int v2), (3, .int w3), (4, .int v4)]) rfl ?_
                  exact hK v2 v4
                · refine vs_aload_n X dX5_leadsBackToRegistry_31 0 rfl ?_
                  refine g_St ho X hinX5 4 (by decide) (by decide +kernel) rfl rfl dX5_leadsBackToRegistry_32 ?_
                  refine vs_iload X dX5_leadsBackToRegistry_35 4 rfl ?_
                  refine vs_callVp X  (As := [.int v4]) (st' := []) (mtX4_get hl0 (isRow_st ho).2.2.1 v4) (cwV 1 X.2.2.2.2.1 gX5_leadsBackToRegistry_X4_get rfl rfl rfl (by decide +kernel) ⟨Nat.le_of_ble_eq_true rfl, Nat.le_of_ble_eq_true rfl⟩) (by have := ((isRow_st ho).2.2.1).2.1; omega) (by have := ((isRow_st ho).2.2.1).2.1; omega) (((isRow_st ho).2.2.1).1 G S).1 rfl rfl (Nat.le_of_ble_eq_true rfl) dX5_leadsBackToRegistry_37 ⟨Nat.le_of_ble_eq_true rfl, Nat.le_of_ble_eq_true rfl⟩ (fun x4 hx4 => ?_)
                  refine vs_istore X (lv' := [(5, .int x4), (0, rf G o), (1, .int p1), (2, .int v2), (3, .int w3), (4, .int v4)]) dX5_leadsBackToRegistry_40 (by decide) rfl ?_
                  refine vs_iload_n X dX5_leadsBackToRegistry_42 3 rfl ?_
                  refine vs_iload X dX5_leadsBackToRegistry_43 0 rfl ?_
                  refine vs_callSNp X  (As := [.int v2, .int x4]) (st' := []) (mtX6_has hl0 v2 x4) ⟨va_cnB 2 X.2.2.2.2.1 gX5_leadsBackToRegistry_X6_has_n72 rfl rfl rfl (X.2.2.2.2.2.2.2.2.1.2 (RX5, 72, yX6_has, "ScarecrowRegistry") (by decide +kernel)) (X.2.2.2.2.1 _ (by decide +kernel)) (by decide +kernel) ⟨Nat.le_of_ble_eq_true rfl, Nat.le_of_ble_eq_true rfl⟩, X.2.2.2.2.1 (.static yX6_has) (by decide +kernel), trivial⟩ rfl (Nat.le_of_ble_eq_true rfl) dX5_leadsBackToRegistry_45 ⟨Nat.le_of_ble_eq_true rfl, Nat.le_of_ble_eq_true rfl⟩ (fun x5 hx5 => ?_)
                  refine vs_if_eq X (tgt := 105) dX5_leadsBackToRegistry_48 (by decide) (fun _ => ?_) (fun _ => ?_)
                  · refine vs_iinc X (v := (v4 + 1)) (lv' := [(4, .int (v4 + 1)), (5, .int x4), (0, rf G o), (1, .int p1), (2, .int v2), (3, .int w3)]) dX5_leadsBackToRegistry_105 5 rfl rfl (by decide) rfl ?_
                    refine vs_goto X (tgt := 22) dX5_leadsBackToRegistry_108 (by decide) ?_
                    refine vs_sub [2, 3, 4, 5, 0] (lv' := [(0, rf G o), (1, .int p1), (2, .int v2), (3, .int w3), (4, .int (v4 + 1))]) rfl ?_
                    exact ih v2 (v4 + 1)
                  · refine vs_aload_n X dX5_leadsBackToRegistry_51 1 rfl ?_
                    refine g_St ho X hinX5 0 (by decide) (by decide +kernel) rfl rfl dX5_leadsBackToRegistry_52 ?_
                    refine vs_iload X dX5_leadsBackToRegistry_55 0 rfl ?_
                    refine vs_callVp X  (As := [.int x4]) (st' := []) (mtX4_get hl0 (isRow_st ho).1 x4) (cwV 1 X.2.2.2.2.1 gX5_leadsBackToRegistry_X4_get rfl rfl rfl (by decide +kernel) ⟨Nat.le_of_ble_eq_true rfl, Nat.le_of_ble_eq_true rfl⟩) (by have := ((isRow_st ho).1).2.1; omega) (by have := ((isRow_st ho).1).2.1; omega) (((isRow_st ho).1).1 G S).1 rfl rfl (Nat.le_of_ble_eq_true rfl) dX5_leadsBackToRegistry_57 ⟨Nat.le_of_ble_eq_true rfl, Nat.le_of_ble_eq_true rfl⟩ (fun x6 hx6 => ?_)
                    refine vs_aload_n X dX5_leadsBackToRegistry_60 1 rfl ?_
                    refine g_St ho X hinX5 5 (by decide) (by decide +kernel) rfl rfl dX5_leadsBackToRegistry_61 ?_
                    refine vs_iload X dX5_leadsBackToRegistry_64 5 rfl ?_
                    refine vs_callVp X  (As := [.int v4]) (st' := [.int x6]) (mtX4_get hl0 (isRow_st ho).2.2.2.1 v4) (cwV 1 X.2.2.2.2.1 gX5_leadsBackToRegistry_X4_get rfl rfl rfl (by decide +kernel) ⟨Nat.le_of_ble_eq_true rfl, Nat.le_of_ble_eq_true rfl⟩) (by have := ((isRow_st ho).2.2.2.1).2.1; omega) (by have := ((isRow_st ho).2.2.2.1).2.1; omega) (((isRow_st ho).2.2.2.1).1 G S).1 rfl rfl (Nat.le_of_ble_eq_true rfl) dX5_leadsBackToRegistry_66 ⟨Nat.le_of_ble_eq_true rfl, Nat.le_of_ble_eq_true rfl⟩ (fun x7 hx7 => ?_)
                    refine vs_icmp_ne X (tgt := 105) dX5_leadsBackToRegistry_69 (by decide) (fun _ => ?_) (fun _ => ?_)
                    · refine vs_aload_n X dX5_leadsBackToRegistry_72 1 rfl ?_
                      refine g_St ho X hinX5 3 (by decide) (by decide +kernel) rfl rfl dX5_leadsBackToRegistry_73 ?_
                      refine vs_iload X dX5_leadsBackToRegistry_76 5 rfl ?_
                      refine vs_callVp X  (As := [.int v4]) (st' := []) (mtX4_get hl0 (isRow_st ho).2.1 v4) (cwV 1 X.2.2.2.2.1 gX5_leadsBackToRegistry_X4_get rfl rfl rfl (by decide +kernel) ⟨Nat.le_of_ble_eq_true rfl, Nat.le_of_ble_eq_true rfl⟩) (by have := ((isRow_st ho).2.1).2.1; omega) (by have := ((isRow_st ho).2.1).2.1; omega) (((isRow_st ho).2.1).1 G S).1 rfl rfl (Nat.le_of_ble_eq_true rfl) dX5_leadsBackToRegistry_78 ⟨Nat.le_of_ble_eq_true rfl, Nat.le_of_ble_eq_true rfl⟩ (fun x8 hx8 => ?_)
                      refine vs_istore X (lv' := [(6, .int x8), (5, .int x4), (0, rf G o), (1, .int p1), (2, .int v2), (3, .int w3), (4, .int v4)]) dX5_leadsBackToRegistry_81 (by decide) rfl ?_
                      refine vs_iload X dX5_leadsBackToRegistry_83 0 rfl ?_
                      refine vs_iconst X (v := (-1)) dX5_leadsBackToRegistry_85 (by decide) ?_
                      refine vs_icmp_ne X (tgt := 91) dX5_leadsBackToRegistry_86 (by decide) (fun _ => ?_) (fun _ => ?_)
                      · refine vs_iconst X (v := 1) dX5_leadsBackToRegistry_89 (by decide) ?_
                        exact vs_zretp X dX5_leadsBackToRegistry_90 (by decide) (by decide)
                      · refine vs_iload_n X dX5_leadsBackToRegistry_91 4 rfl ?_
                        refine vs_iconst X (v := 1) dX5_leadsBackToRegistry_92 (by decide) ?_
                        refine vs_iload X dX5_leadsBackToRegistry_93 0 rfl ?_
                        refine vs_ishl X dX5_leadsBackToRegistry_95 ?_
                        refine vs_aload_n X dX5_leadsBackToRegistry_96 2 rfl ?_
                        refine g_St ho X hinX5 2 (by decide) (by decide +kernel) rfl rfl dX5_leadsBackToRegistry_97 ?_
                        refine vs_iconst X (v := (-1)) dX5_leadsBackToRegistry_100 (by decide) ?_
                        refine vs_ixor X dX5_leadsBackToRegistry_101 ?_
                        refine vs_iand X dX5_leadsBackToRegistry_102 ?_
                        refine vs_ior X dX5_leadsBackToRegistry_103 ?_
                        refine vs_nm (fun y9 hy9 => ?_)
                        refine vs_istore_n X (lv' := [(2, .int y9), (6, .int x8), (5, .int x4), (0, rf G o), (1, .int p1), (3, .int w3), (4, .int v4)]) dX5_leadsBackToRegistry_104 (by decide) rfl ?_
                        refine vs_iinc X (v := (v4 + 1)) (lv' := [(4, .int (v4 + 1)), (2, .int y9), (6, .int x8), (5, .int x4), (0, rf G o), (1, .int p1), (3, .int w3)]) dX5_leadsBackToRegistry_105 6 rfl rfl (by decide) rfl ?_
                        refine vs_goto X (tgt := 22) dX5_leadsBackToRegistry_108 (by decide) ?_
                        refine vs_sub [4, 5, 1, 6, 0] (lv' := [(0, rf G o), (1, .int p1), (2, .int y9), (3, .int w3), (4, .int (v4 + 1))]) rfl ?_
                        exact ih y9 (v4 + 1)
                    · refine vs_iinc X (v := (v4 + 1)) (lv' := [(4, .int (v4 + 1)), (5, .int x4), (0, rf G o), (1, .int p1), (2, .int v2), (3, .int w3)]) dX5_leadsBackToRegistry_105 5 rfl rfl (by decide) rfl ?_
                      refine vs_goto X (tgt := 22) dX5_leadsBackToRegistry_108 (by decide) ?_
                      refine vs_sub [2, 3, 4, 5, 0] (lv' := [(0, rf G o), (1, .int p1), (2, .int v2), (3, .int w3), (4, .int (v4 + 1))]) rfl ?_
                      exact ih v2 (v4 + 1)
          refine vs_sub [1, 2, 3, 4, 0] (lv' := [(0, rf G o), (1, .int p1), (2, .int v2), (3, .int v3), (4, .int 0)]) rfl ?_
          refine L3 v3 (fun (u10 : Int32) (u11 : Int32) => lpX5_leadsBackToRegistry_13 o p1 S f u10 (v3 + 1)) (fun u10 u11 => ?_) 200 v2 0
          refine vs_iinc X (v := (v3 + 1)) (lv' := [(3, .int (v3 + 1)), (0, rf G o), (1, .int p1), (2, .int u10), (4, .int u11)]) dX5_leadsBackToRegistry_111 3 rfl rfl (by decide) rfl ?_
          refine vs_goto X (tgt := 13) dX5_leadsBackToRegistry_114 (by decide) ?_
          refine vs_sub [1, 2, 3, 0] (lv' := [(0, rf G o), (1, .int p1), (2, .int u10), (3, .int (v3 + 1))]) rfl ?_
          exact ih u10 (v3 + 1)
  refine vs_sub [2, 3, 1, 0] (lv' := [(0, rf G o), (1, .int p1), (2, .int y1), (3, .int 0)]) rfl ?_
  exact L2 200 y1 0

def lpX5_countFor_5 (o : Nat) (p1 : Int32) (p2 : Int32) (S : Wo)   : Nat → Int32 → Int32 → Option (Int32)
  | 0, _, _ => none
  | f + 1, v3, v4 => (if S.1 o 7 ≤ v4 then some v3 else (spX6_has p2 v4 S).bind (fun x2 => (if x2 = 0 then lpX5_countFor_5 o p1 p2 S f v3 (v4 + 1) else (spX4_get (o + 5) 20 v4 S).bind (fun x3 => (if x3 = p1 then lpX5_countFor_5 o p1 p2 S f (v3 + 1) (v4 + 1) else lpX5_countFor_5 o p1 p2 S f v3 (v4 + 1))))))
def spX5_countFor (o : Nat) (p1 : Int32) (p2 : Int32) (S : Wo) : Option (Int32) :=
  lpX5_countFor_5 o p1 p2 S 200 0 0
set_option maxHeartbeats 4000000 in
set_option maxRecDepth 100000 in
theorem mtX5_countFor {l : Launch} (hl0 : l.stackTraces = false) {G : Gt} {o : Nat} (ho : o ∈ stL) (p1 : Int32) (p2 : Int32) {S : Wo} : ∀ x, spX5_countFor o p1 p2 S = some x → MI l yX5_countFor wsX5_countFor { frames := 1, cells := 0, slots := 0, locals := 21 } G S [rf G o, .int p1, .int p2] (x, S) 0 0 := by
  refine MIp_of (cc := cX5_countFor) (own := RX5) (maxL := 5) (ret := (some .int)) (sp := spX5_countFor o p1 p2 S) (by decide +kernel) rfl rfl (Nat.le_of_ble_eq_true rfl) ?_
  intro p e s m args below meth c X
  have hinX5 : ∀ w ∈ wsX50, w ∈ wsX5_countFor := by decide +kernel
  show VS G p l e _ s m args below meth c 5 _ _ 0 0 S 0 [(0, rf G o), (1, .int p1), (2, .int p2)] []
  unfold spX5_countFor
  refine vs_iconst X (v := 0) dX5_countFor_0 (by decide) ?_
  refine vs_istore_n X (lv' := [(3, .int 0), (0, rf G o), (1, .int p1), (2, .int p2)]) dX5_countFor_1 (by decide) rfl ?_
  refine vs_iconst X (v := 0) dX5_countFor_2 (by decide) ?_
  refine vs_istore X (lv' := [(4, .int 0), (3, .int 0), (0, rf G o), (1, .int p1), (2, .int p2)]) dX5_countFor_3 (by decide) rfl ?_
  have L1 : ∀ (f : Nat) (v3 : Int32) (v4 : Int32), VS G p l e ({ frames := 1, cells := 0, slots := 0, locals := 21 } : Room) s m args below meth c 5 (fun x => MQ below (QI G (x, S)) args s 0 0 (Af G)) (lpX5_countFor_5 o p1 p2 S f v3 v4) 0 0 S 5 [(0, rf G o), (1, .int p1), (2, .int p2), (3, .int v3), (4, .int v4)] [] := by
    intro f
    induction f with
    | zero => intro v3 v4; exact vs_none rfl
    | succ f ih =>
        intro v3 v4
        rw [lpX5_countFor_5]
        refine vs_iload X dX5_countFor_5 4 rfl ?_
        refine vs_aload_n X dX5_countFor_7 0 rfl ?_
        refine g_St ho X hinX5 7 (by decide) (by decide +kernel) rfl rfl dX5_countFor_8 ?_
        refine vs_icmp_ge X (tgt := 45) dX5_countFor_11 (by decide) (fun _ => ?_) (fun _ => ?_)
        · refine vs_iload_n X dX5_countFor_45 3 rfl ?_
          exact vs_iretp X dX5_countFor_46 (by decide) (by decide)
        · refine vs_iload_n X dX5_countFor_14 2 rfl ?_
          refine vs_iload X dX5_countFor_15 4 rfl ?_
          refine vs_callSNp X  (As := [.int p2, .int v4]) (st' := []) (mtX6_has hl0 p2 v4) ⟨va_cnB 2 X.2.2.2.2.1 gX5_countFor_X6_has_n72 rfl rfl rfl (X.2.2.2.2.2.2.2.2.1.2 (RX5, 72, yX6_has, "ScarecrowRegistry") (by decide +kernel)) (X.2.2.2.2.1 _ (by decide +kernel)) (by decide +kernel) ⟨Nat.le_of_ble_eq_true rfl, Nat.le_of_ble_eq_true rfl⟩, X.2.2.2.2.1 (.static yX6_has) (by decide +kernel), trivial⟩ rfl (Nat.le_of_ble_eq_true rfl) dX5_countFor_17 ⟨Nat.le_of_ble_eq_true rfl, Nat.le_of_ble_eq_true rfl⟩ (fun x2 hx2 => ?_)
          refine vs_if_eq X (tgt := 39) dX5_countFor_20 (by decide) (fun _ => ?_) (fun _ => ?_)
          · refine vs_iinc X (v := (v4 + 1)) (lv' := [(4, .int (v4 + 1)), (0, rf G o), (1, .int p1), (2, .int p2), (3, .int v3)]) dX5_countFor_39 4 rfl rfl (by decide) rfl ?_
            refine vs_goto X (tgt := 5) dX5_countFor_42 (by decide) ?_
            refine vs_sub [1, 2, 3, 4, 0] (lv' := [(0, rf G o), (1, .int p1), (2, .int p2), (3, .int v3), (4, .int (v4 + 1))]) rfl ?_
            exact ih v3 (v4 + 1)
          · refine vs_aload_n X dX5_countFor_23 0 rfl ?_
            refine g_St ho X hinX5 4 (by decide) (by decide +kernel) rfl rfl dX5_countFor_24 ?_
            refine vs_iload X dX5_countFor_27 4 rfl ?_
            refine vs_callVp X  (As := [.int v4]) (st' := []) (mtX4_get hl0 (isRow_st ho).2.2.1 v4) (cwV 1 X.2.2.2.2.1 gX5_countFor_X4_get rfl rfl rfl (by decide +kernel) ⟨Nat.le_of_ble_eq_true rfl, Nat.le_of_ble_eq_true rfl⟩) (by have := ((isRow_st ho).2.2.1).2.1; omega) (by have := ((isRow_st ho).2.2.1).2.1; omega) (((isRow_st ho).2.2.1).1 G S).1 rfl rfl (Nat.le_of_ble_eq_true rfl) dX5_countFor_29 ⟨Nat.le_of_ble_eq_true rfl, Nat.le_of_ble_eq_true rfl⟩ (fun x3 hx3 => ?_)
            refine vs_iload_n X dX5_countFor_32 1 rfl ?_
            refine vs_icmp_ne X (tgt := 39) dX5_countFor_33 (by decide) (fun _ => ?_) (fun _ => ?_)
            · refine vs_iinc X (v := (v3 + 1)) (lv' := [(3, .int (v3 + 1)), (0, rf G o), (1, .int p1), (2, .int p2), (4, .int v4)]) dX5_countFor_36 3 rfl rfl (by decide) rfl ?_
              refine vs_iinc X (v := (v4 + 1)) (lv' := [(4, .int (v4 + 1)), (3, .int (v3 + 1)), (0, rf G o), (1, .int p1), (2, .int p2)]) dX5_countFor_39 4 rfl rfl (by decide) rfl ?_
              refine vs_goto X (tgt := 5) dX5_countFor_42 (by decide) ?_
              refine vs_sub [2, 3, 4, 1, 0] (lv' := [(0, rf G o), (1, .int p1), (2, .int p2), (3, .int (v3 + 1)), (4, .int (v4 + 1))]) rfl ?_
              exact ih (v3 + 1) (v4 + 1)
            · refine vs_iinc X (v := (v4 + 1)) (lv' := [(4, .int (v4 + 1)), (0, rf G o), (1, .int p1), (2, .int p2), (3, .int v3)]) dX5_countFor_39 4 rfl rfl (by decide) rfl ?_
              refine vs_goto X (tgt := 5) dX5_countFor_42 (by decide) ?_
              refine vs_sub [1, 2, 3, 4, 0] (lv' := [(0, rf G o), (1, .int p1), (2, .int p2), (3, .int v3), (4, .int (v4 + 1))]) rfl ?_
              exact ih v3 (v4 + 1)
  refine vs_sub [2, 3, 4, 1, 0] (lv' := [(0, rf G o), (1, .int p1), (2, .int p2), (3, .int 0), (4, .int 0)]) rfl ?_
  exact L1 200 0 0

def lpX5_rankOf_13 (o : Nat) (p1 : Int32) (p2 : Int32) (S : Wo) (w3 : Int32)  : Nat → Int32 → Int32 → Option (Int32)
  | 0, _, _ => none
  | f + 1, v4, v5 => (if S.1 o 1 ≤ v5 then some v4 else (spX5_countFor o v5 p2 S).bind (fun x3 => (if w3 < x3 then lpX5_rankOf_13 o p1 p2 S w3 f (v4 + 1) (v5 + 1) else (if x3 = w3 then (if p1 ≤ v5 then lpX5_rankOf_13 o p1 p2 S w3 f v4 (v5 + 1) else lpX5_rankOf_13 o p1 p2 S w3 f (v4 + 1) (v5 + 1)) else lpX5_rankOf_13 o p1 p2 S w3 f v4 (v5 + 1)))))
def spX5_rankOf (o : Nat) (p1 : Int32) (p2 : Int32) (S : Wo) : Option (Int32) :=
  (spX5_countFor o p1 p2 S).bind (fun x1 => lpX5_rankOf_13 o p1 p2 S x1 200 0 0)
set_option maxHeartbeats 4000000 in
set_option maxRecDepth 100000 in
theorem mtX5_rankOf {l : Launch} (hl0 : l.stackTraces = false) {G : Gt} {o : Nat} (ho : o ∈ stL) (p1 : Int32) (p2 : Int32) {S : Wo} : ∀ x, spX5_rankOf o p1 p2 S = some x → MI l yX5_rankOf wsX5_rankOf { frames := 2, cells := 0, slots := 0, locals := 45 } G S [rf G o, .int p1, .int p2] (x, S) 0 0 := by
  refine MIp_of (cc := cX5_rankOf) (own := RX5) (maxL := 7) (ret := (some .int)) (sp := spX5_rankOf o p1 p2 S) (by decide +kernel) rfl rfl (Nat.le_of_ble_eq_true rfl) ?_
  intro p e s m args below meth c X
  have hinX5 : ∀ w ∈ wsX50, w ∈ wsX5_rankOf := by decide +kernel
  show VS G p l e _ s m args below meth c 7 _ _ 0 0 S 0 [(0, rf G o), (1, .int p1), (2, .int p2)] []
  unfold spX5_rankOf
  refine vs_aload_n X dX5_rankOf_0 0 rfl ?_
  refine vs_iload_n X dX5_rankOf_1 1 rfl ?_
  refine vs_iload_n X dX5_rankOf_2 2 rfl ?_
  refine vs_callVp X  (As := [.int p1, .int p2]) (st' := []) (mtX5_countFor hl0 ho p1 p2) (cwV 2 X.2.2.2.2.1 gX5_rankOf_X5_countFor rfl rfl rfl (by decide +kernel) ⟨Nat.le_of_ble_eq_true rfl, Nat.le_of_ble_eq_true rfl⟩) (by have := stL_lt ho; omega) (by have := stL_lt ho; omega) (cel_st ho) rfl rfl (Nat.le_of_ble_eq_true rfl) dX5_rankOf_3 ⟨Nat.le_of_ble_eq_true rfl, Nat.le_of_ble_eq_true rfl⟩ (fun x1 hx1 => ?_)
  refine vs_istore_n X (lv' := [(3, .int x1), (0, rf G o), (1, .int p1), (2, .int p2)]) dX5_rankOf_6 (by decide) rfl ?_
  refine vs_iconst X (v := 0) dX5_rankOf_7 (by decide) ?_
  refine vs_istore X (lv' := [(4, .int 0), (3, .int x1), (0, rf G o), (1, .int p1), (2, .int p2)]) dX5_rankOf_8 (by decide) rfl ?_
  refine vs_iconst X (v := 0) dX5_rankOf_10 (by decide) ?_
  refine vs_istore X (lv' := [(5, .int 0), (4, .int 0), (3, .int x1), (0, rf G o), (1, .int p1), (2, .int p2)]) dX5_rankOf_11 (by decide) rfl ?_
  have L2 : ∀ (w3 : Int32) (f : Nat) (v4 : Int32) (v5 : Int32), VS G p l e ({ frames := 2, cells := 0, slots := 0, locals := 45 } : Room) s m args below meth c 7 (fun x => MQ below (QI G (x, S)) args s 0 0 (Af G)) (lpX5_rankOf_13 o p1 p2 S w3 f v4 v5) 0 0 S 13 [(0, rf G o), (1, .int p1), (2, .int p2), (3, .int w3), (4, .int v4), (5, .int v5)] [] := by
    intro w3 f
    induction f with
    | zero => intro v4 v5; exact vs_none rfl
    | succ f ih =>
        intro v4 v5
        rw [lpX5_rankOf_13]
        refine vs_iload X dX5_rankOf_13 5 rfl ?_
        refine vs_aload_n X dX5_rankOf_15 0 rfl ?_
        refine g_St ho X hinX5 1 (by decide) (by decide +kernel) rfl rfl dX5_rankOf_16 ?_
        refine vs_icmp_ge X (tgt := 58) dX5_rankOf_19 (by decide) (fun _ => ?_) (fun _ => ?_)
        · refine vs_iload X dX5_rankOf_58 4 rfl ?_
          exact vs_iretp X dX5_rankOf_60 (by decide) (by decide)
        · refine vs_aload_n X dX5_rankOf_22 0 rfl ?_
          refine vs_iload X dX5_rankOf_23 5 rfl ?_
          refine vs_iload_n X dX5_rankOf_25 2 rfl ?_
          refine vs_callVp X  (As := [.int v5, .int p2]) (st' := []) (mtX5_countFor hl0 ho v5 p2) (cwV 2 X.2.2.2.2.1 gX5_rankOf_X5_countFor rfl rfl rfl (by decide +kernel) ⟨Nat.le_of_ble_eq_true rfl, Nat.le_of_ble_eq_true rfl⟩) (by have := stL_lt ho; omega) (by have := stL_lt ho; omega) (cel_st ho) rfl rfl (Nat.le_of_ble_eq_true rfl) dX5_rankOf_26 ⟨Nat.le_of_ble_eq_true rfl, Nat.le_of_ble_eq_true rfl⟩ (fun x3 hx3 => ?_)
          refine vs_istore X (lv' := [(6, .int x3), (0, rf G o), (1, .int p1), (2, .int p2), (3, .int w3), (4, .int v4), (5, .int v5)]) dX5_rankOf_29 (by decide) rfl ?_
          refine vs_iload X dX5_rankOf_31 0 rfl ?_
          refine vs_iload_n X dX5_rankOf_33 4 rfl ?_
          refine vs_icmp_gt X (tgt := 49) dX5_rankOf_34 (by decide) (fun _ => ?_) (fun _ => ?_)
          · refine vs_iinc X (v := (v4 + 1)) (lv' := [(4, .int (v4 + 1)), (6, .int x3), (0, rf G o), (1, .int p1), (2, .int p2), (3, .int w3), (5, .int v5)]) dX5_rankOf_49 5 rfl rfl (by decide) rfl ?_
            refine vs_iinc X (v := (v5 + 1)) (lv' := [(5, .int (v5 + 1)), (4, .int (v4 + 1)), (6, .int x3), (0, rf G o), (1, .int p1), (2, .int p2), (3, .int w3)]) dX5_rankOf_52 6 rfl rfl (by decide) rfl ?_
            refine vs_goto X (tgt := 13) dX5_rankOf_55 (by decide) ?_
            refine vs_sub [3, 4, 5, 6, 1, 0] (lv' := [(0, rf G o), (1, .int p1), (2, .int p2), (3, .int w3), (4, .int (v4 + 1)), (5, .int (v5 + 1))]) rfl ?_
            exact ih (v4 + 1) (v5 + 1)
          · refine vs_iload X dX5_rankOf_37 0 rfl ?_
            refine vs_iload_n X dX5_rankOf_39 4 rfl ?_
            refine vs_icmp_ne X (tgt := 52) dX5_rankOf_40 (by decide) (fun _ => ?_) (fun _ => ?_)
            · refine vs_iload X dX5_rankOf_43 6 rfl ?_
              refine vs_iload_n X dX5_rankOf_45 2 rfl ?_
              refine vs_icmp_ge X (tgt := 52) dX5_rankOf_46 (by decide) (fun _ => ?_) (fun _ => ?_)
              · refine vs_iinc X (v := (v5 + 1)) (lv' := [(5, .int (v5 + 1)), (6, .int x3), (0, rf G o), (1, .int p1), (2, .int p2), (3, .int w3), (4, .int v4)]) dX5_rankOf_52 6 rfl rfl (by decide) rfl ?_
                refine vs_goto X (tgt := 13) dX5_rankOf_55 (by decide) ?_
                refine vs_sub [2, 3, 4, 5, 6, 0] (lv' := [(0, rf G o), (1, .int p1), (2, .int p2), (3, .int w3), (4, .int v4), (5, .int (v5 + 1))]) rfl ?_
                exact ih v4 (v5 + 1)
              · refine vs_iinc X (v := (v4 + 1)) (lv' := [(4, .int (v4 + 1)), (6, .int x3), (0, rf G o), (1, .int p1), (2, .int p2), (3, .int w3), (5, .int v5)]) dX5_rankOf_49 5 rfl rfl (by decide) rfl ?_
                refine vs_iinc X (v := (v5 + 1)) (lv' := [(5, .int (v5 + 1)), (4, .int (v4 + 1)), (6, .int x3), (0, rf G o), (1, .int p1), (2, .int p2), (3, .int w3)]) dX5_rankOf_52 6 rfl rfl (by decide) rfl ?_
                refine vs_goto X (tgt := 13) dX5_rankOf_55 (by decide) ?_
                refine vs_sub [3, 4, 5, 6, 1, 0] (lv' := [(0, rf G o), (1, .int p1), (2, .int p2), (3, .int w3), (4, .int (v4 + 1)), (5, .int (v5 + 1))]) rfl ?_
                exact ih (v4 + 1) (v5 + 1)
            · refine vs_iinc X (v := (v5 + 1)) (lv' := [(5, .int (v5 + 1)), (6, .int x3), (0, rf G o), (1, .int p1), (2, .int p2), (3, .int w3), (4, .int v4)]) dX5_rankOf_52 6 rfl rfl (by decide) rfl ?_
              refine vs_goto X (tgt := 13) dX5_rankOf_55 (by decide) ?_
              refine vs_sub [2, 3, 4, 5, 6, 0] (lv' := [(0, rf G o), (1, .int p1), (2, .int p2), (3, .int w3), (4, .int v4), (5, .int (v5 + 1))]) rfl ?_
              exact ih v4 (v5 + 1)
  refine vs_sub [3, 4, 5, 2, 1, 0] (lv' := [(0, rf G o), (1, .int p1), (2, .int p2), (3, .int x1), (4, .int 0), (5, .int 0)]) rfl ?_
  exact L2 x1 200 0 0

def lpX5_isNearOneOf_2 (o : Nat) (p1 : Int32) (p2 : Int32) (S : Wo)   : Nat → Int32 → Option (Int32)
  | 0, _ => none
  | f + 1, v3 => (if S.1 o 1 ≤ v3 then rz 0 some else (spX6_has p1 v3 S).bind (fun x2 => (if x2 = 0 then lpX5_isNearOneOf_2 o p1 p2 S f (v3 + 1) else (spX4_get (o + 1) 10 v3 S).bind (fun x3 => (spX6_distance x3 p2 S).bind (fun x4 => (if (1 : Int32) < x4 then lpX5_isNearOneOf_2 o p1 p2 S f (v3 + 1) else rz 1 some))))))
def spX5_isNearOneOf (o : Nat) (p1 : Int32) (p2 : Int32) (S : Wo) : Option (Int32) :=
  lpX5_isNearOneOf_2 o p1 p2 S 200 0
set_option maxHeartbeats 4000000 in
set_option maxRecDepth 100000 in
theorem mtX5_isNearOneOf {l : Launch} (hl0 : l.stackTraces = false) {G : Gt} {o : Nat} (ho : o ∈ stL) (p1 : Int32) (p2 : Int32) {S : Wo} : ∀ x, spX5_isNearOneOf o p1 p2 S = some x → MI l yX5_isNearOneOf wsX5_isNearOneOf { frames := 2, cells := 0, slots := 0, locals := 36 } G S [rf G o, .int p1, .int p2] (x, S) 0 0 := by
  refine MIp_of (cc := cX5_isNearOneOf) (own := RX5) (maxL := 4) (ret := (some .boolean)) (sp := spX5_isNearOneOf o p1 p2 S) (by decide +kernel) rfl rfl (Nat.le_of_ble_eq_true rfl) ?_
  intro p e s m args below meth c X
  have hinX5 : ∀ w ∈ wsX50, w ∈ wsX5_isNearOneOf := by decide +kernel
  show VS G p l e _ s m args below meth c 4 _ _ 0 0 S 0 [(0, rf G o), (1, .int p1), (2, .int p2)] []
  unfold spX5_isNearOneOf
  refine vs_iconst X (v := 0) dX5_isNearOneOf_0 (by decide) ?_
  refine vs_istore_n X (lv' := [(3, .int 0), (0, rf G o), (1, .int p1), (2, .int p2)]) dX5_isNearOneOf_1 (by decide) rfl ?_
  have L1 : ∀ (f : Nat) (v3 : Int32), VS G p l e ({ frames := 2, cells := 0, slots := 0, locals := 36 } : Room) s m args below meth c 4 (fun x => MQ below (QI G (x, S)) args s 0 0 (Af G)) (lpX5_isNearOneOf_2 o p1 p2 S f v3) 0 0 S 2 [(0, rf G o), (1, .int p1), (2, .int p2), (3, .int v3)] [] := by
    intro f
    induction f with
    | zero => intro v3; exact vs_none rfl
    | succ f ih =>
        intro v3
        rw [lpX5_isNearOneOf_2]
        refine vs_iload_n X dX5_isNearOneOf_2 3 rfl ?_
        refine vs_aload_n X dX5_isNearOneOf_3 0 rfl ?_
        refine g_St ho X hinX5 1 (by decide) (by decide +kernel) rfl rfl dX5_isNearOneOf_4 ?_
        refine vs_icmp_ge X (tgt := 42) dX5_isNearOneOf_7 (by decide) (fun _ => ?_) (fun _ => ?_)
        · refine vs_iconst X (v := 0) dX5_isNearOneOf_42 (by decide) ?_
          exact vs_zretp X dX5_isNearOneOf_43 (by decide) (by decide)
        · refine vs_iload_n X dX5_isNearOneOf_10 1 rfl ?_
          refine vs_iload_n X dX5_isNearOneOf_11 3 rfl ?_
          refine vs_callSNp X  (As := [.int p1, .int v3]) (st' := []) (mtX6_has hl0 p1 v3) ⟨va_cnB 2 X.2.2.2.2.1 gX5_isNearOneOf_X6_has_n72 rfl rfl rfl (X.2.2.2.2.2.2.2.2.1.2 (RX5, 72, yX6_has, "ScarecrowRegistry") (by decide +kernel)) (X.2.2.2.2.1 _ (by decide +kernel)) (by decide +kernel) ⟨Nat.le_of_ble_eq_true rfl, Nat.le_of_ble_eq_true rfl⟩, X.2.2.2.2.1 (.static yX6_has) (by decide +kernel), trivial⟩ rfl (Nat.le_of_ble_eq_true rfl) dX5_isNearOneOf_12 ⟨Nat.le_of_ble_eq_true rfl, Nat.le_of_ble_eq_true rfl⟩ (fun x2 hx2 => ?_)
          refine vs_if_eq X (tgt := 36) dX5_isNearOneOf_15 (by decide) (fun _ => ?_) (fun _ => ?_)
          · refine vs_iinc X (v := (v3 + 1)) (lv' := [(3, .int (v3 + 1)), (0, rf G o), (1, .int p1), (2, .int p2)]) dX5_isNearOneOf_36 3 rfl rfl (by decide) rfl ?_
            refine vs_goto X (tgt := 2) dX5_isNearOneOf_39 (by decide) ?_
            refine vs_sub [1, 2, 3, 0] (lv' := [(0, rf G o), (1, .int p1), (2, .int p2), (3, .int (v3 + 1))]) rfl ?_
            exact ih (v3 + 1)
          · refine vs_aload_n X dX5_isNearOneOf_18 0 rfl ?_
            refine g_St ho X hinX5 0 (by decide) (by decide +kernel) rfl rfl dX5_isNearOneOf_19 ?_
            refine vs_iload_n X dX5_isNearOneOf_22 3 rfl ?_
            refine vs_callVp X  (As := [.int v3]) (st' := []) (mtX4_get hl0 (isRow_st ho).1 v3) (cwV 1 X.2.2.2.2.1 gX5_isNearOneOf_X4_get rfl rfl rfl (by decide +kernel) ⟨Nat.le_of_ble_eq_true rfl, Nat.le_of_ble_eq_true rfl⟩) (by have := ((isRow_st ho).1).2.1; omega) (by have := ((isRow_st ho).1).2.1; omega) (((isRow_st ho).1).1 G S).1 rfl rfl (Nat.le_of_ble_eq_true rfl) dX5_isNearOneOf_23 ⟨Nat.le_of_ble_eq_true rfl, Nat.le_of_ble_eq_true rfl⟩ (fun x3 hx3 => ?_)
            refine vs_iload_n X dX5_isNearOneOf_26 2 rfl ?_
            refine vs_callSNp X  (As := [.int x3, .int p2]) (st' := []) (mtX6_distance hl0 x3 p2) ⟨va_cnB 2 X.2.2.2.2.1 gX5_isNearOneOf_X6_distance_n93 rfl rfl rfl (X.2.2.2.2.2.2.2.2.1.2 (RX5, 93, yX6_distance, "ScarecrowRegistry") (by decide +kernel)) (X.2.2.2.2.1 _ (by decide +kernel)) (by decide +kernel) ⟨Nat.le_of_ble_eq_true rfl, Nat.le_of_ble_eq_true rfl⟩, X.2.2.2.2.1 (.static yX6_distance) (by decide +kernel), trivial⟩ rfl (Nat.le_of_ble_eq_true rfl) dX5_isNearOneOf_27 ⟨Nat.le_of_ble_eq_true rfl, Nat.le_of_ble_eq_true rfl⟩ (fun x4 hx4 => ?_)
            refine vs_iconst X (v := 1) dX5_isNearOneOf_30 (by decide) ?_
            refine vs_icmp_gt X (tgt := 36) dX5_isNearOneOf_31 (by decide) (fun _ => ?_) (fun _ => ?_)
            · refine vs_iinc X (v := (v3 + 1)) (lv' := [(3, .int (v3 + 1)), (0, rf G o), (1, .int p1), (2, .int p2)]) dX5_isNearOneOf_36 3 rfl rfl (by decide) rfl ?_
              refine vs_goto X (tgt := 2) dX5_isNearOneOf_39 (by decide) ?_
              refine vs_sub [1, 2, 3, 0] (lv' := [(0, rf G o), (1, .int p1), (2, .int p2), (3, .int (v3 + 1))]) rfl ?_
              exact ih (v3 + 1)
            · refine vs_iconst X (v := 1) dX5_isNearOneOf_34 (by decide) ?_
              exact vs_zretp X dX5_isNearOneOf_35 (by decide) (by decide)
  refine vs_sub [1, 2, 3, 0] (lv' := [(0, rf G o), (1, .int p1), (2, .int p2), (3, .int 0)]) rfl ?_
  exact L1 200 0

def spX5_signOf (o : Nat) (p1 : Int32) (p2 : Int32) (S : Wo) : Option (Int32) :=
  (spX5_scarecrowAt o p1 S).bind (fun x1 => (if x1 = (-1) then (spX5_isNearOneOf o p2 p1 S).bind (fun x2 => (if x2 = 0 then rcc 46 some else rcc 43 some)) else (spX6_has (S.1 o 2) x1 S).bind (fun x3 => (if x3 = 0 then (spX6_has p2 x1 S).bind (fun x4 => (if x4 = 0 then rcc 83 some else rcc 67 some)) else rcc 82 some))))
set_option maxHeartbeats 4000000 in
set_option maxRecDepth 100000 in
theorem mtX5_signOf {l : Launch} (hl0 : l.stackTraces = false) {G : Gt} {o : Nat} (ho : o ∈ stL) (p1 : Int32) (p2 : Int32) {S : Wo} : ∀ x, spX5_signOf o p1 p2 S = some x → MI l yX5_signOf wsX5_signOf { frames := 3, cells := 0, slots := 0, locals := 59 } G S [rf G o, .int p1, .int p2] (x, S) 0 0 := by
  refine MIp_of (cc := cX5_signOf) (own := RX5) (maxL := 4) (ret := (some .char)) (sp := spX5_signOf o p1 p2 S) (by decide +kernel) rfl rfl (Nat.le_of_ble_eq_true rfl) ?_
  intro p e s m args below meth c X
  have hinX5 : ∀ w ∈ wsX50, w ∈ wsX5_signOf := by decide +kernel
  show VS G p l e _ s m args below meth c 4 _ _ 0 0 S 0 [(0, rf G o), (1, .int p1), (2, .int p2)] []
  unfold spX5_signOf
  refine vs_aload_n X dX5_signOf_0 0 rfl ?_
  refine vs_iload_n X dX5_signOf_1 1 rfl ?_
  refine vs_callVp X  (As := [.int p1]) (st' := []) (mtX5_scarecrowAt hl0 ho p1) (cwV 1 X.2.2.2.2.1 gX5_signOf_X5_scarecrowAt rfl rfl rfl (by decide +kernel) ⟨Nat.le_of_ble_eq_true rfl, Nat.le_of_ble_eq_true rfl⟩) (by have := stL_lt ho; omega) (by have := stL_lt ho; omega) (cel_st ho) rfl rfl (Nat.le_of_ble_eq_true rfl) dX5_signOf_2 ⟨Nat.le_of_ble_eq_true rfl, Nat.le_of_ble_eq_true rfl⟩ (fun x1 hx1 => ?_)
  refine vs_istore_n X (lv' := [(3, .int x1), (0, rf G o), (1, .int p1), (2, .int p2)]) dX5_signOf_5 (by decide) rfl ?_
  refine vs_iload_n X dX5_signOf_6 0 rfl ?_
  refine vs_iconst X (v := (-1)) dX5_signOf_7 (by decide) ?_
  refine vs_icmp_ne X (tgt := 28) dX5_signOf_8 (by decide) (fun _ => ?_) (fun _ => ?_)
  · refine vs_aload_n X dX5_signOf_11 1 rfl ?_
    refine vs_iload_n X dX5_signOf_12 3 rfl ?_
    refine vs_iload_n X dX5_signOf_13 2 rfl ?_
    refine vs_callVp X  (As := [.int p2, .int p1]) (st' := []) (mtX5_isNearOneOf hl0 ho p2 p1) (cwV 2 X.2.2.2.2.1 gX5_signOf_X5_isNearOneOf rfl rfl rfl (by decide +kernel) ⟨Nat.le_of_ble_eq_true rfl, Nat.le_of_ble_eq_true rfl⟩) (by have := stL_lt ho; omega) (by have := stL_lt ho; omega) (cel_st ho) rfl rfl (Nat.le_of_ble_eq_true rfl) dX5_signOf_14 ⟨Nat.le_of_ble_eq_true rfl, Nat.le_of_ble_eq_true rfl⟩ (fun x2 hx2 => ?_)
    refine vs_if_eq X (tgt := 25) dX5_signOf_17 (by decide) (fun _ => ?_) (fun _ => ?_)
    · refine vs_bipush X (v := 46) dX5_signOf_25 (by decide) ?_
      exact vs_cretp X dX5_signOf_27 (by decide) (by decide)
    · refine vs_bipush X (v := 43) dX5_signOf_20 (by decide) ?_
      refine vs_goto X (tgt := 27) dX5_signOf_22 (by decide) ?_
      exact vs_cretp X dX5_signOf_27 (by decide) (by decide)
  · refine vs_aload_n X dX5_signOf_28 1 rfl ?_
    refine g_St ho X hinX5 2 (by decide) (by decide +kernel) rfl rfl dX5_signOf_29 ?_
    refine vs_iload_n X dX5_signOf_32 0 rfl ?_
    refine vs_callSNp X  (As := [.int (S.1 o 2), .int x1]) (st' := []) (mtX6_has hl0 (S.1 o 2) x1) ⟨va_cnB 2 X.2.2.2.2.1 gX5_signOf_X6_has_n72 rfl rfl rfl (X.2.2.2.2.2.2.2.2.1.2 (RX5, 72, yX6_has, "ScarecrowRegistry") (by decide +kernel)) (X.2.2.2.2.1 _ (by decide +kernel)) (by decide +kernel) ⟨Nat.le_of_ble_eq_true rfl, Nat.le_of_ble_eq_true rfl⟩, X.2.2.2.2.1 (.static yX6_has) (by decide +kernel), trivial⟩ rfl (Nat.le_of_ble_eq_true rfl) dX5_signOf_33 ⟨Nat.le_of_ble_eq_true rfl, Nat.le_of_ble_eq_true rfl⟩ (fun x3 hx3 => ?_)
    refine vs_if_eq X (tgt := 42) dX5_signOf_36 (by decide) (fun _ => ?_) (fun _ => ?_)
    · refine vs_iload_n X dX5_signOf_42 3 rfl ?_
      refine vs_iload_n X dX5_signOf_43 0 rfl ?_
      refine vs_callSNp X  (As := [.int p2, .int x1]) (st' := []) (mtX6_has hl0 p2 x1) ⟨va_cnB 2 X.2.2.2.2.1 gX5_signOf_X6_has_n72 rfl rfl rfl (X.2.2.2.2.2.2.2.2.1.2 (RX5, 72, yX6_has, "ScarecrowRegistry") (by decide +kernel)) (X.2.2.2.2.1 _ (by decide +kernel)) (by decide +kernel) ⟨Nat.le_of_ble_eq_true rfl, Nat.le_of_ble_eq_true rfl⟩, X.2.2.2.2.1 (.static yX6_has) (by decide +kernel), trivial⟩ rfl (Nat.le_of_ble_eq_true rfl) dX5_signOf_44 ⟨Nat.le_of_ble_eq_true rfl, Nat.le_of_ble_eq_true rfl⟩ (fun x4 hx4 => ?_)
      refine vs_if_eq X (tgt := 55) dX5_signOf_47 (by decide) (fun _ => ?_) (fun _ => ?_)
      · refine vs_bipush X (v := 83) dX5_signOf_55 (by decide) ?_
        exact vs_cretp X dX5_signOf_57 (by decide) (by decide)
      · refine vs_bipush X (v := 67) dX5_signOf_50 (by decide) ?_
        refine vs_goto X (tgt := 57) dX5_signOf_52 (by decide) ?_
        exact vs_cretp X dX5_signOf_57 (by decide) (by decide)
    · refine vs_bipush X (v := 82) dX5_signOf_39 (by decide) ?_
      exact vs_cretp X dX5_signOf_41 (by decide) (by decide)

def lpX5_dropExpired_7 (o : Nat)   : Nat → Int32 → Wo → Option (Wo)
  | 0, _, _ => none
  | f + 1, v1, S2 => (if v1 < 0 then some S2 else (spX4_get (o + 9) 20 v1 S2).bind (fun x3 => (if S2.1 o 9 ≤ x3 then lpX5_dropExpired_7 o f (v1 + (-1)) S2 else (spX5_removeCertificate o v1 S2).bind (fun S4 => lpX5_dropExpired_7 o f (v1 + (-1)) S4))))
def spX5_dropExpired (o : Nat) (S : Wo) : Option (Wo) :=
  lpX5_dropExpired_7 o 200 (S.1 o 7 - 1) S
set_option maxHeartbeats 4000000 in
set_option maxRecDepth 100000 in
theorem mtX5_dropExpired {l : Launch} (hl0 : l.stackTraces = false) {G : Gt} {o : Nat} (ho : o ∈ stL) {S : Wo} : ∀ rr, spX5_dropExpired o S = some rr → MV l yX5_dropExpired wsX5_dropExpired { frames := 2, cells := 0, slots := 0, locals := 43 } G S [rf G o] rr 0 0 := by
  refine MV_of (cc := cX5_dropExpired) (own := RX5) (maxL := 2) (ret := none) (sp := spX5_dropExpired o S) (by decide +kernel) rfl rfl (Nat.le_of_ble_eq_true rfl) ?_
  intro p e s m args below meth c X
  have hinX5 : ∀ w ∈ wsX50, w ∈ wsX5_dropExpired := by decide +kernel
  show VS G p l e _ s m args below meth c 2 _ _ 0 0 S 0 [(0, rf G o)] []
  unfold spX5_dropExpired
  refine vs_aload_n X dX5_dropExpired_0 0 rfl ?_
  refine g_St ho X hinX5 7 (by decide) (by decide +kernel) rfl rfl dX5_dropExpired_1 ?_
  refine vs_iconst X (v := 1) dX5_dropExpired_4 (by decide) ?_
  refine vs_isub X dX5_dropExpired_5 ?_
  refine vs_istore_n X (lv' := [(1, .int (S.1 o 7 - 1)), (0, rf G o)]) dX5_dropExpired_6 (by decide) rfl ?_
  have L1 : ∀ (f : Nat) (v1 : Int32) (S2 : Wo), VS G p l e ({ frames := 2, cells := 0, slots := 0, locals := 43 } : Room) s m args below meth c 2 (fun r => MQ below (QV G r) args s 0 0 (Af G)) (lpX5_dropExpired_7 o f v1 S2) 0 0 S2 7 [(0, rf G o), (1, .int v1)] [] := by
    intro f
    induction f with
    | zero => intro v1 S2; exact vs_none rfl
    | succ f ih =>
        intro v1 S2
        rw [lpX5_dropExpired_7]
        refine vs_iload_n X dX5_dropExpired_7 1 rfl ?_
        refine vs_if_lt X (tgt := 37) dX5_dropExpired_8 (by decide) (fun _ => ?_) (fun _ => ?_)
        · exact vs_vret X dX5_dropExpired_37 (by decide) (by decide)
        · refine vs_aload_n X dX5_dropExpired_11 0 rfl ?_
          refine g_St ho X hinX5 6 (by decide) (by decide +kernel) rfl rfl dX5_dropExpired_12 ?_
          refine vs_iload_n X dX5_dropExpired_15 1 rfl ?_
          refine vs_callVp X  (As := [.int v1]) (st' := []) (mtX4_get hl0 (isRow_st ho).2.2.2.2.1 v1) (cwV 1 X.2.2.2.2.1 gX5_dropExpired_X4_get rfl rfl rfl (by decide +kernel) ⟨Nat.le_of_ble_eq_true rfl, Nat.le_of_ble_eq_true rfl⟩) (by have := ((isRow_st ho).2.2.2.2.1).2.1; omega) (by have := ((isRow_st ho).2.2.2.2.1).2.1; omega) (((isRow_st ho).2.2.2.2.1).1 G S2).1 rfl rfl (Nat.le_of_ble_eq_true rfl) dX5_dropExpired_16 ⟨Nat.le_of_ble_eq_true rfl, Nat.le_of_ble_eq_true rfl⟩ (fun x3 hx3 => ?_)
          refine vs_aload_n X dX5_dropExpired_19 0 rfl ?_
          refine g_St ho X hinX5 9 (by decide) (by decide +kernel) rfl rfl dX5_dropExpired_20 ?_
          refine vs_icmp_ge X (tgt := 31) dX5_dropExpired_23 (by decide) (fun _ => ?_) (fun _ => ?_)
          · refine vs_iinc X (v := (v1 + (-1))) (lv' := [(1, .int (v1 + (-1))), (0, rf G o)]) dX5_dropExpired_31 1 rfl rfl (by decide) rfl ?_
            refine vs_goto X (tgt := 7) dX5_dropExpired_34 (by decide) ?_
            refine vs_sub [1, 0] (lv' := [(0, rf G o), (1, .int (v1 + (-1)))]) rfl ?_
            exact ih (v1 + (-1)) S2
          · refine vs_aload_n X dX5_dropExpired_26 0 rfl ?_
            refine vs_iload_n X dX5_dropExpired_27 1 rfl ?_
            refine vs_callVv X  (As := [.int v1]) (st' := []) (mtX5_removeCertificate hl0 ho v1) (cwV 1 X.2.2.2.2.1 gX5_dropExpired_X5_removeCertificate rfl rfl rfl (by decide +kernel) ⟨Nat.le_of_ble_eq_true rfl, Nat.le_of_ble_eq_true rfl⟩) (by have := stL_lt ho; omega) (by have := stL_lt ho; omega) (cel_st ho) rfl rfl (Nat.le_of_ble_eq_true rfl) dX5_dropExpired_28 ⟨Nat.le_of_ble_eq_true rfl, Nat.le_of_ble_eq_true rfl⟩ (fun S4 hS4 => ?_)
            refine vs_iinc X (v := (v1 + (-1))) (lv' := [(1, .int (v1 + (-1))), (0, rf G o)]) dX5_dropExpired_31 1 rfl rfl (by decide) rfl ?_
            refine vs_goto X (tgt := 7) dX5_dropExpired_34 (by decide) ?_
            refine vs_sub [1, 0] (lv' := [(0, rf G o), (1, .int (v1 + (-1)))]) rfl ?_
            exact ih (v1 + (-1)) S4
  refine vs_sub [1, 0] (lv' := [(0, rf G o), (1, .int (S.1 o 7 - 1))]) rfl ?_
  exact L1 200 (S.1 o 7 - 1) S

def lpX5_letDaysPass_4 (o : Nat) (p1 : Int32)   : Nat → Int32 → Int32 → Wo → Option (Int32 × Wo)
  | 0, _, _, _ => none
  | f + 1, v2, v3, S2 => (if p1 ≤ v3 then wr (pI S2 o 10 (S2.1 o 10 + v2)) (fun S3 => some (v2, S3)) else wr (pI S2 o 9 (S2.1 o 9 + 1)) (fun S4 => (spX5_dropExpired o S4).bind (fun S5 => (spX6_lookOn (S5.1 o 9) S5).bind (fun x6 => (spX4_get (o + 11) 16 x6 S5).bind (fun x7 => (if x7 ≤ 0 then lpX5_letDaysPass_4 o p1 f v2 (v3 + 1) S5 else (spX5_certifiedWithin o 10 (S5.1 o 9) S5).bind (fun x8 => (spX5_isNearOneOf o x8 x6 S5).bind (fun x9 => (if x9 = 0 then (spX4_set (o + 11) 16 x6 (x7 - 1) S5).bind (fun S10 => lpX5_letDaysPass_4 o p1 f (v2 + 1) (v3 + 1) S10) else lpX5_letDaysPass_4 o p1 f v2 (v3 + 1) S5)))))))))
def spX5_letDaysPass (o : Nat) (p1 : Int32) (S : Wo) : Option (Int32 × Wo) :=
  lpX5_letDaysPass_4 o p1 200 0 0 S
set_option maxHeartbeats 4000000 in
set_option maxRecDepth 100000 in
theorem mtX5_letDaysPass {l : Launch} (hl0 : l.stackTraces = false) {G : Gt} {o : Nat} (ho : o ∈ stL) (p1 : Int32) {S : Wo} : ∀ rr, spX5_letDaysPass o p1 S = some rr → MI l yX5_letDaysPass wsX5_letDaysPass { frames := 3, cells := 0, slots := 0, locals := 73 } G S [rf G o, .int p1] rr 0 0 := by
  refine MI_of (cc := cX5_letDaysPass) (own := RX5) (maxL := 6) (ret := (some .int)) (sp := spX5_letDaysPass o p1 S) (by decide +kernel) rfl rfl (Nat.le_of_ble_eq_true rfl) ?_
  intro p e s m args below meth c X
  have hinX5 : ∀ w ∈ wsX50, w ∈ wsX5_letDaysPass := by decide +kernel
  show VS G p l e _ s m args below meth c 6 _ _ 0 0 S 0 [(0, rf G o), (1, .int p1)] []
  unfold spX5_letDaysPass
  refine vs_iconst X (v := 0) dX5_letDaysPass_0 (by decide) ?_
  refine vs_istore_n X (lv' := [(2, .int 0), (0, rf G o), (1, .int p1)]) dX5_letDaysPass_1 (by decide) rfl ?_
  refine vs_iconst X (v := 0) dX5_letDaysPass_2 (by decide) ?_
  refine vs_istore_n X (lv' := [(3, .int 0), (2, .int 0), (0, rf G o), (1, .int p1)]) dX5_letDaysPass_3 (by decide) rfl ?_
  have L1 : ∀ (f : Nat) (v2 : Int32) (v3 : Int32) (S2 : Wo), VS G p l e ({ frames := 3, cells := 0, slots := 0, locals := 73 } : Room) s m args below meth c 6 (fun r => MQ below (QI G r) args s 0 0 (Af G)) (lpX5_letDaysPass_4 o p1 f v2 v3 S2) 0 0 S2 4 [(0, rf G o), (1, .int p1), (2, .int v2), (3, .int v3)] [] := by
    intro f
    induction f with
    | zero => intro v2 v3 S2; exact vs_none rfl
    | succ f ih =>
        intro v2 v3 S2
        rw [lpX5_letDaysPass_4]
        refine vs_iload_n X dX5_letDaysPass_4 3 rfl ?_
        refine vs_iload_n X dX5_letDaysPass_5 1 rfl ?_
        refine vs_icmp_ge X (tgt := 89) dX5_letDaysPass_6 (by decide) (fun _ => ?_) (fun _ => ?_)
        · refine vs_aload_n X dX5_letDaysPass_89 0 rfl ?_
          refine vs_dup X dX5_letDaysPass_90 rfl ?_
          refine g_St ho X hinX5 10 (by decide) (by decide +kernel) rfl rfl dX5_letDaysPass_91 ?_
          refine vs_iload_n X dX5_letDaysPass_94 2 rfl ?_
          refine vs_iadd X dX5_letDaysPass_95 ?_
          refine p_St ho X hinX5 10 (by decide) (by decide +kernel) rfl rfl rfl rfl rfl (celw_10 ho) dX5_letDaysPass_96 (fun S3 hS3 => ?_)
          refine vs_iload_n X dX5_letDaysPass_99 2 rfl ?_
          exact vs_iret X dX5_letDaysPass_100 (by decide) (by decide)
        · refine vs_aload_n X dX5_letDaysPass_9 0 rfl ?_
          refine vs_dup X dX5_letDaysPass_10 rfl ?_
          refine g_St ho X hinX5 9 (by decide) (by decide +kernel) rfl rfl dX5_letDaysPass_11 ?_
          refine vs_iconst X (v := 1) dX5_letDaysPass_14 (by decide) ?_
          refine vs_iadd X dX5_letDaysPass_15 ?_
          refine p_St ho X hinX5 9 (by decide) (by decide +kernel) rfl rfl rfl rfl rfl (celw_9 ho) dX5_letDaysPass_16 (fun S4 hS4 => ?_)
          refine vs_aload_n X dX5_letDaysPass_19 0 rfl ?_
          refine vs_callVv X  (As := []) (st' := []) (mtX5_dropExpired hl0 ho) (cwV 0 X.2.2.2.2.1 gX5_letDaysPass_X5_dropExpired rfl rfl rfl (by decide +kernel) ⟨Nat.le_of_ble_eq_true rfl, Nat.le_of_ble_eq_true rfl⟩) (by have := stL_lt ho; omega) (by have := stL_lt ho; omega) (cel_st ho) rfl rfl (Nat.le_of_ble_eq_true rfl) dX5_letDaysPass_20 ⟨Nat.le_of_ble_eq_true rfl, Nat.le_of_ble_eq_true rfl⟩ (fun S5 hS5 => ?_)
          refine vs_aload_n X dX5_letDaysPass_23 0 rfl ?_
          refine g_St ho X hinX5 9 (by decide) (by decide +kernel) rfl rfl dX5_letDaysPass_24 ?_
          refine vs_callSNp X  (As := [.int (S5.1 o 9)]) (st' := []) (mtX6_lookOn hl0 (S5.1 o 9)) ⟨va_cnB 1 X.2.2.2.2.1 gX5_letDaysPass_X6_lookOn_n105 rfl rfl rfl (X.2.2.2.2.2.2.2.2.1.2 (RX5, 105, yX6_lookOn, "ScarecrowRegistry") (by decide +kernel)) (X.2.2.2.2.1 _ (by decide +kernel)) (by decide +kernel) ⟨Nat.le_of_ble_eq_true rfl, Nat.le_of_ble_eq_true rfl⟩, X.2.2.2.2.1 (.static yX6_lookOn) (by decide +kernel), trivial⟩ rfl (Nat.le_of_ble_eq_true rfl) dX5_letDaysPass_27 ⟨Nat.le_of_ble_eq_true rfl, Nat.le_of_ble_eq_true rfl⟩ (fun x6 hx6 => ?_)
          refine vs_istore X (lv' := [(4, .int x6), (0, rf G o), (1, .int p1), (2, .int v2), (3, .int v3)]) dX5_letDaysPass_30 (by decide) rfl ?_
          refine vs_aload_n X dX5_letDaysPass_32 1 rfl ?_
          refine g_St ho X hinX5 8 (by decide) (by decide +kernel) rfl rfl dX5_letDaysPass_33 ?_
          refine vs_iload X dX5_letDaysPass_36 0 rfl ?_
          refine vs_callVp X  (As := [.int x6]) (st' := []) (mtX4_get hl0 (isRow_st ho).2.2.2.2.2 x6) (cwV 1 X.2.2.2.2.1 gX5_letDaysPass_X4_get rfl rfl rfl (by decide +kernel) ⟨Nat.le_of_ble_eq_true rfl, Nat.le_of_ble_eq_true rfl⟩) (by have := ((isRow_st ho).2.2.2.2.2).2.1; omega) (by have := ((isRow_st ho).2.2.2.2.2).2.1; omega) (((isRow_st ho).2.2.2.2.2).1 G S5).1 rfl rfl (Nat.le_of_ble_eq_true rfl) dX5_letDaysPass_38 ⟨Nat.le_of_ble_eq_true rfl, Nat.le_of_ble_eq_true rfl⟩ (fun x7 hx7 => ?_)
          refine vs_istore X (lv' := [(5, .int x7), (4, .int x6), (0, rf G o), (1, .int p1), (2, .int v2), (3, .int v3)]) dX5_letDaysPass_41 (by decide) rfl ?_
          refine vs_iload X dX5_letDaysPass_43 0 rfl ?_
          refine vs_if_le X (tgt := 83) dX5_letDaysPass_45 (by decide) (fun _ => ?_) (fun _ => ?_)
          · refine vs_iinc X (v := (v3 + 1)) (lv' := [(3, .int (v3 + 1)), (5, .int x7), (4, .int x6), (0, rf G o), (1, .int p1), (2, .int v2)]) dX5_letDaysPass_83 5 rfl rfl (by decide) rfl ?_
            refine vs_goto X (tgt := 4) dX5_letDaysPass_86 (by decide) ?_
            refine vs_sub [3, 4, 5, 0] (lv' := [(0, rf G o), (1, .int p1), (2, .int v2), (3, .int (v3 + 1))]) rfl ?_
            exact ih v2 (v3 + 1) S5
          · refine vs_aload_n X dX5_letDaysPass_48 2 rfl ?_
            refine vs_aload_n X dX5_letDaysPass_49 2 rfl ?_
            refine vs_bipush X (v := 10) dX5_letDaysPass_50 (by decide) ?_
            refine vs_aload_n X dX5_letDaysPass_52 2 rfl ?_
            refine g_St ho X hinX5 9 (by decide) (by decide +kernel) rfl rfl dX5_letDaysPass_53 ?_
            refine vs_callVp X  (As := [.int 10, .int (S5.1 o 9)]) (st' := [rf G o]) (mtX5_certifiedWithin hl0 ho 10 (S5.1 o 9)) (cwV 2 X.2.2.2.2.1 gX5_letDaysPass_X5_certifiedWithin rfl rfl rfl (by decide +kernel) ⟨Nat.le_of_ble_eq_true rfl, Nat.le_of_ble_eq_true rfl⟩) (by have := stL_lt ho; omega) (by have := stL_lt ho; omega) (cel_st ho) rfl rfl (Nat.le_of_ble_eq_true rfl) dX5_letDaysPass_56 ⟨Nat.le_of_ble_eq_true rfl, Nat.le_of_ble_eq_true rfl⟩ (fun x8 hx8 => ?_)
            refine vs_iload X dX5_letDaysPass_59 1 rfl ?_
            refine vs_callVp X  (As := [.int x8, .int x6]) (st' := []) (mtX5_isNearOneOf hl0 ho x8 x6) (cwV 2 X.2.2.2.2.1 gX5_letDaysPass_X5_isNearOneOf rfl rfl rfl (by decide +kernel) ⟨Nat.le_of_ble_eq_true rfl, Nat.le_of_ble_eq_true rfl⟩) (by have := stL_lt ho; omega) (by have := stL_lt ho; omega) (cel_st ho) rfl rfl (Nat.le_of_ble_eq_true rfl) dX5_letDaysPass_61 ⟨Nat.le_of_ble_eq_true rfl, Nat.le_of_ble_eq_true rfl⟩ (fun x9 hx9 => ?_)
            refine vs_if_ne X (tgt := 83) dX5_letDaysPass_64 (by decide) (fun _ => ?_) (fun _ => ?_)
            · refine vs_aload_n X dX5_letDaysPass_67 2 rfl ?_
              refine g_St ho X hinX5 8 (by decide) (by decide +kernel) rfl rfl dX5_letDaysPass_68 ?_
              refine vs_iload X dX5_letDaysPass_71 1 rfl ?_
              refine vs_iload X dX5_letDaysPass_73 0 rfl ?_
              refine vs_iconst X (v := 1) dX5_letDaysPass_75 (by decide) ?_
              refine vs_isub X dX5_letDaysPass_76 ?_
              refine vs_callVv X  (As := [.int x6, .int (x7 - 1)]) (st' := []) (mtX4_set hl0 (isRow_st ho).2.2.2.2.2 x6 (x7 - 1)) (cwV 2 X.2.2.2.2.1 gX5_letDaysPass_X4_set rfl rfl rfl (by decide +kernel) ⟨Nat.le_of_ble_eq_true rfl, Nat.le_of_ble_eq_true rfl⟩) (by have := ((isRow_st ho).2.2.2.2.2).2.1; omega) (by have := ((isRow_st ho).2.2.2.2.2).2.1; omega) (((isRow_st ho).2.2.2.2.2).1 G S5).1 rfl rfl (Nat.le_of_ble_eq_true rfl) dX5_letDaysPass_77 ⟨Nat.le_of_ble_eq_true rfl, Nat.le_of_ble_eq_true rfl⟩ (fun S10 hS10 => ?_)
              refine vs_iinc X (v := (v2 + 1)) (lv' := [(2, .int (v2 + 1)), (5, .int x7), (4, .int x6), (0, rf G o), (1, .int p1), (3, .int v3)]) dX5_letDaysPass_80 4 rfl rfl (by decide) rfl ?_
              refine vs_iinc X (v := (v3 + 1)) (lv' := [(3, .int (v3 + 1)), (2, .int (v2 + 1)), (5, .int x7), (4, .int x6), (0, rf G o), (1, .int p1)]) dX5_letDaysPass_83 5 rfl rfl (by decide) rfl ?_
              refine vs_goto X (tgt := 4) dX5_letDaysPass_86 (by decide) ?_
              refine vs_sub [4, 5, 1, 0] (lv' := [(0, rf G o), (1, .int p1), (2, .int (v2 + 1)), (3, .int (v3 + 1))]) rfl ?_
              exact ih (v2 + 1) (v3 + 1) S10
            · refine vs_iinc X (v := (v3 + 1)) (lv' := [(3, .int (v3 + 1)), (5, .int x7), (4, .int x6), (0, rf G o), (1, .int p1), (2, .int v2)]) dX5_letDaysPass_83 5 rfl rfl (by decide) rfl ?_
              refine vs_goto X (tgt := 4) dX5_letDaysPass_86 (by decide) ?_
              refine vs_sub [3, 4, 5, 0] (lv' := [(0, rf G o), (1, .int p1), (2, .int v2), (3, .int (v3 + 1))]) rfl ?_
              exact ih v2 (v3 + 1) S5
  refine vs_sub [2, 3, 1, 0] (lv' := [(0, rf G o), (1, .int p1), (2, .int 0), (3, .int 0)]) rfl ?_
  exact L1 200 0 0 S

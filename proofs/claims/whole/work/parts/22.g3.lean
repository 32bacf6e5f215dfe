def spX2_slotAt (p1 : Int32) (S : Wo) : Option (Option Nat × Wo) :=
  (spJ9_floorMod_7cf53 (S.1 53 1 + p1) 8 S).bind (fun x1 => (if x1 < 0 then some (none, S) else (if (8 : Int32) ≤ x1 then some (none, S) else (if inb x1 8 = true then some (some (55 + 13 * ix x1), S) else none))))
set_option maxHeartbeats 4000000 in
set_option maxRecDepth 100000 in
theorem mtX2_slotAt {l : Launch} (hl0 : l.stackTraces = false) {G : Gt} (p1 : Int32) {S : Wo} : ∀ rr, spX2_slotAt p1 S = some rr → MQq l yX2_slotAt wsX2_slotAt { frames := 1, cells := 0, slots := 0, locals := 22 } G S [rf G 53, .int p1] rr 0 0 := by
  refine MQq_of (cc := cX2_slotAt) (own := RX2) (maxL := 3) (ret := (some (.object "ScarecrowRegistry$State"))) (sp := spX2_slotAt p1 S) (by decide +kernel) rfl rfl (Nat.le_of_ble_eq_true rfl) ?_
  intro p e s m args below meth c X
  have hinX2 : ∀ w ∈ wsX20, w ∈ wsX2_slotAt := by decide +kernel
  show VS G p l e _ s m args below meth c 3 _ _ 0 0 S 0 [(0, rf G 53), (1, .int p1)] []
  unfold spX2_slotAt
  refine vs_aload_n X dX2_slotAt_0 0 rfl ?_
  refine g_His  X hinX2 1 (by decide) (by decide +kernel) rfl rfl dX2_slotAt_1 ?_
  refine vs_iload_n X dX2_slotAt_4 1 rfl ?_
  refine vs_iadd X dX2_slotAt_5 ?_
  refine vs_bipush X (v := 8) dX2_slotAt_6 (by decide) ?_
  refine vs_callSp X  (As := [.int (S.1 53 1 + p1), .int 8]) (st' := []) (mtJ9_floorMod_7cf53 hl0 (S.1 53 1 + p1) 8) (va_cwS 2 X.2.2.2.2.1 gX2_slotAt_J9_floorMod_7cf53 rfl rfl rfl (by decide +kernel) ⟨Nat.le_of_ble_eq_true rfl, Nat.le_of_ble_eq_true rfl⟩) rfl (Nat.le_of_ble_eq_true rfl) dX2_slotAt_8 ⟨Nat.le_of_ble_eq_true rfl, Nat.le_of_ble_eq_true rfl⟩ (fun x1 hx1 => ?_)
  refine vs_istore_n X (lv' := [(2, .int x1), (0, rf G 53), (1, .int p1)]) dX2_slotAt_11 (by decide) rfl ?_
  refine vs_iload_n X dX2_slotAt_12 0 rfl ?_
  refine vs_if_lt X (tgt := 34) dX2_slotAt_13 (by decide) (fun _ => ?_) (fun _ => ?_)
  · refine vs_null X dX2_slotAt_34 ?_
    exact vs_aretN X dX2_slotAt_35 (by decide) (by decide)
  · refine vs_iload_n X dX2_slotAt_16 0 rfl ?_
    refine vs_aload_n X dX2_slotAt_17 1 rfl ?_
    refine g_His  X hinX2 0 (by decide) (by decide +kernel) rfl rfl dX2_slotAt_18 ?_
    refine vs_alenSlots X dX2_slotAt_21 ?_
    refine vs_icmp_ge X (tgt := 34) dX2_slotAt_22 (by decide) (fun _ => ?_) (fun _ => ?_)
    · refine vs_null X dX2_slotAt_34 ?_
      exact vs_aretN X dX2_slotAt_35 (by decide) (by decide)
    · refine vs_aload_n X dX2_slotAt_25 1 rfl ?_
      refine g_His  X hinX2 0 (by decide) (by decide +kernel) rfl rfl dX2_slotAt_26 ?_
      refine vs_iload_n X dX2_slotAt_29 0 rfl ?_
      refine vs_aaldSlots X dX2_slotAt_30 ?_
      refine vs_goto X (tgt := 35) dX2_slotAt_31 (by decide) ?_
      exact vs_aret X dX2_slotAt_35 (by decide) (by decide)

theorem slot_st {p1 : Int32} {S S1 : Wo} {x : Option Nat} {j : Nat} (h : spX2_slotAt p1 S = some (x, S1)) (hj : x = some j) : j ∈ stL := by
  subst hj
  unfold spX2_slotAt at h
  obtain ⟨y, -, h⟩ := Option.bind_eq_some_iff.mp h
  split at h
  · cases h
  · split at h
    · cases h
    · split at h
      · rename_i h9
        cases h
        have := vp_in_of (inb_in.mp h9) (by decide)
        obtain ⟨q, hq, rfl⟩ := this
        rw [ix, nI_clamp (by omega)]
        have : q = 0 ∨ q = 1 ∨ q = 2 ∨ q = 3 ∨ q = 4 ∨ q = 5 ∨ q = 6 ∨ q = 7 := by omega
        rcases this with rfl | rfl | rfl | rfl | rfl | rfl | rfl | rfl <;> decide
      · cases h
def spX2_remember (o1 : Nat) (S : Wo) : Option (Wo) :=
  jn (β := Wo → Option (Wo)) (fun (S4 : Wo) => bdq (spX2_slotAt (S4.1 53 2) S4) (fun x6 S7 => oq x6 (some S7) (fun j8 => (spX5_copyFrom j8 o1 S7).bind (fun S9 => wr (pI S9 53 2 (S9.1 53 2 + 1)) (fun S10 => some S10))))) (fun k5 => (if S.1 53 2 < 8 then k5 S else (spJ9_floorMod_7cf53 (S.1 53 1 + 1) 8 S).bind (fun x1 => wr (pI S 53 1 x1) (fun S2 => wr (pI S2 53 2 (S2.1 53 2 - 1)) (fun S3 => k5 S3)))))
set_option maxHeartbeats 4000000 in
set_option maxRecDepth 100000 in
theorem mtX2_remember {l : Launch} (hl0 : l.stackTraces = false) {G : Gt} {o1 : Nat} (ho1 : o1 ∈ stL) {S : Wo} : ∀ rr, spX2_remember o1 S = some rr → MV l yX2_remember wsX2_remember { frames := 3, cells := 0, slots := 0, locals := 63 } G S [rf G 53, rf G o1] rr 0 0 := by
  refine MV_of (cc := cX2_remember) (own := RX2) (maxL := 3) (ret := none) (sp := spX2_remember o1 S) (by decide +kernel) rfl rfl (Nat.le_of_ble_eq_true rfl) ?_
  intro p e s m args below meth c X
  have hinX2 : ∀ w ∈ wsX20, w ∈ wsX2_remember := by decide +kernel
  show VS G p l e _ s m args below meth c 3 _ _ 0 0 S 0 [(0, rf G 53), (1, rf G o1)] []
  unfold spX2_remember
  refine vs_aload_n X dX2_remember_0 0 rfl ?_
  refine g_His  X hinX2 2 (by decide) (by decide +kernel) rfl rfl dX2_remember_1 ?_
  refine vs_bipush X (v := 8) dX2_remember_4 (by decide) ?_
  refine vs_jn (β := Wo → Option (Wo)) (P := fun k5 => ∀ (S4 : Wo), VS G p l e ({ frames := 3, cells := 0, slots := 0, locals := 63 } : Room) s m args below meth c 3 (fun r => MQ below (QV G r) args s 0 0 (Af G)) (k5 S4) 0 0 S4 34 [(0, rf G 53), (1, rf G o1)] []) (fun S4 => ?_) (fun k5 hk5 => ?_)
  · refine vs_aload_n X dX2_remember_34 0 rfl ?_
    refine vs_aload_n X dX2_remember_35 0 rfl ?_
    refine g_His  X hinX2 2 (by decide) (by decide +kernel) rfl rfl dX2_remember_36 ?_
    refine vs_callVq X  (As := [.int (S4.1 53 2)]) (st' := []) (mtX2_slotAt hl0 (S4.1 53 2)) (cwV 1 X.2.2.2.2.1 gX2_remember_X2_slotAt rfl rfl rfl (by decide +kernel) ⟨Nat.le_of_ble_eq_true rfl, Nat.le_of_ble_eq_true rfl⟩) (by decide) (by decide) rfl rfl rfl (Nat.le_of_ble_eq_true rfl) dX2_remember_39 ⟨Nat.le_of_ble_eq_true rfl, Nat.le_of_ble_eq_true rfl⟩ (fun x6 S7 hS7 => ?_)
    refine vs_refcases (fun _ => ?_) (fun j8 hj8 => ?_)
    · refine vs_astore_nN X (lv' := [(2, .null), (0, rf G 53), (1, rf G o1)]) dX2_remember_42 (by decide) rfl ?_
      refine vs_aload_nN X dX2_remember_43 0 rfl ?_
      refine vs_ifnullN X (tgt := 62) dX2_remember_44 (by decide) ?_
      exact vs_vret X dX2_remember_62 (by decide) (by decide)
    · have hoj8 : j8 ∈ stL := (slot_st hS7 hj8)
      refine vs_astore_n X (lv' := [(2, rf G j8), (0, rf G 53), (1, rf G o1)]) dX2_remember_42 (by decide) rfl ?_
      refine vs_aload_n X dX2_remember_43 0 rfl ?_
      refine vs_ifnull X dX2_remember_44 ?_
      refine vs_aload_n X dX2_remember_47 0 rfl ?_
      refine vs_aload_n X dX2_remember_48 2 rfl ?_
      refine vs_callVv X  (As := [rf G o1]) (st' := []) (mtX5_copyFrom hl0 hoj8 ho1) (cwV 1 X.2.2.2.2.1 gX2_remember_X5_copyFrom rfl rfl rfl (by decide +kernel) ⟨Nat.le_of_ble_eq_true rfl, Nat.le_of_ble_eq_true rfl⟩) (by have := stL_lt hoj8; omega) (by have := stL_lt hoj8; omega) (cel_st hoj8) rfl rfl (Nat.le_of_ble_eq_true rfl) dX2_remember_49 ⟨Nat.le_of_ble_eq_true rfl, Nat.le_of_ble_eq_true rfl⟩ (fun S9 hS9 => ?_)
      refine vs_aload_n X dX2_remember_52 1 rfl ?_
      refine vs_dup X dX2_remember_53 rfl ?_
      refine g_His  X hinX2 2 (by decide) (by decide +kernel) rfl rfl dX2_remember_54 ?_
      refine vs_iconst X (v := 1) dX2_remember_57 (by decide) ?_
      refine vs_iadd X dX2_remember_58 ?_
      refine p_His  X hinX2 2 (by decide) (by decide +kernel) rfl rfl rfl rfl rfl rfl dX2_remember_59 (fun S10 hS10 => ?_)
      exact vs_vret X dX2_remember_62 (by decide) (by decide)
  · refine vs_icmp_lt X (tgt := 34) dX2_remember_6 (by decide) (fun _ => ?_) (fun _ => ?_)
    · exact vs_join [0, 1] (Nat.le_of_ble_eq_true rfl) (Nat.le_of_ble_eq_true rfl) rfl (hk5 S)
    · refine vs_aload_n X dX2_remember_9 0 rfl ?_
      refine vs_aload_n X dX2_remember_10 0 rfl ?_
      refine g_His  X hinX2 1 (by decide) (by decide +kernel) rfl rfl dX2_remember_11 ?_
      refine vs_iconst X (v := 1) dX2_remember_14 (by decide) ?_
      refine vs_iadd X dX2_remember_15 ?_
      refine vs_bipush X (v := 8) dX2_remember_16 (by decide) ?_
      refine vs_callSp X  (As := [.int (S.1 53 1 + 1), .int 8]) (st' := [rf G 53]) (mtJ9_floorMod_7cf53 hl0 (S.1 53 1 + 1) 8) (va_cwS 2 X.2.2.2.2.1 gX2_remember_J9_floorMod_7cf53 rfl rfl rfl (by decide +kernel) ⟨Nat.le_of_ble_eq_true rfl, Nat.le_of_ble_eq_true rfl⟩) rfl (Nat.le_of_ble_eq_true rfl) dX2_remember_18 ⟨Nat.le_of_ble_eq_true rfl, Nat.le_of_ble_eq_true rfl⟩ (fun x1 hx1 => ?_)
      refine p_His  X hinX2 1 (by decide) (by decide +kernel) rfl rfl rfl rfl rfl rfl dX2_remember_21 (fun S2 hS2 => ?_)
      refine vs_aload_n X dX2_remember_24 0 rfl ?_
      refine vs_dup X dX2_remember_25 rfl ?_
      refine g_His  X hinX2 2 (by decide) (by decide +kernel) rfl rfl dX2_remember_26 ?_
      refine vs_iconst X (v := 1) dX2_remember_29 (by decide) ?_
      refine vs_isub X dX2_remember_30 ?_
      refine p_His  X hinX2 2 (by decide) (by decide +kernel) rfl rfl rfl rfl rfl rfl dX2_remember_31 (fun S3 hS3 => ?_)
      exact vs_join [0, 1] (Nat.le_of_ble_eq_true rfl) (Nat.le_of_ble_eq_true rfl) rfl (hk5 S3)

def spX2_takeLatestInto (o1 : Nat) (S : Wo) : Option (Int32 × Wo) :=
  bdq (spX2_slotAt (S.1 53 2 - 1) S) (fun x1 S2 => oq x1 (some (S2.1 53 2, S2)) (fun j3 => (spX5_copyFrom o1 j3 S2).bind (fun S4 => wr (pI S4 53 2 (S4.1 53 2 - 1)) (fun S5 => some (S5.1 53 2, S5)))))
set_option maxHeartbeats 4000000 in
set_option maxRecDepth 100000 in
theorem mtX2_takeLatestInto {l : Launch} (hl0 : l.stackTraces = false) {G : Gt} {o1 : Nat} (ho1 : o1 ∈ stL) {S : Wo} : ∀ rr, spX2_takeLatestInto o1 S = some rr → MI l yX2_takeLatestInto wsX2_takeLatestInto { frames := 3, cells := 0, slots := 0, locals := 63 } G S [rf G 53, rf G o1] rr 0 0 := by
  refine MI_of (cc := cX2_takeLatestInto) (own := RX2) (maxL := 3) (ret := (some .int)) (sp := spX2_takeLatestInto o1 S) (by decide +kernel) rfl rfl (Nat.le_of_ble_eq_true rfl) ?_
  intro p e s m args below meth c X
  have hinX2 : ∀ w ∈ wsX20, w ∈ wsX2_takeLatestInto := by decide +kernel
  show VS G p l e _ s m args below meth c 3 _ _ 0 0 S 0 [(0, rf G 53), (1, rf G o1)] []
  unfold spX2_takeLatestInto
  refine vs_aload_n X dX2_takeLatestInto_0 0 rfl ?_
  refine vs_aload_n X dX2_takeLatestInto_1 0 rfl ?_
  refine g_His  X hinX2 2 (by decide) (by decide +kernel) rfl rfl dX2_takeLatestInto_2 ?_
  refine vs_iconst X (v := 1) dX2_takeLatestInto_5 (by decide) ?_
  refine vs_isub X dX2_takeLatestInto_6 ?_
  refine vs_callVq X  (As := [.int (S.1 53 2 - 1)]) (st' := []) (mtX2_slotAt hl0 (S.1 53 2 - 1)) (cwV 1 X.2.2.2.2.1 gX2_takeLatestInto_X2_slotAt rfl rfl rfl (by decide +kernel) ⟨Nat.le_of_ble_eq_true rfl, Nat.le_of_ble_eq_true rfl⟩) (by decide) (by decide) rfl rfl rfl (Nat.le_of_ble_eq_true rfl) dX2_takeLatestInto_7 ⟨Nat.le_of_ble_eq_true rfl, Nat.le_of_ble_eq_true rfl⟩ (fun x1 S2 hS2 => ?_)
  refine vs_refcases (fun _ => ?_) (fun j3 hj3 => ?_)
  · refine vs_astore_nN X (lv' := [(2, .null), (0, rf G 53), (1, rf G o1)]) dX2_takeLatestInto_10 (by decide) rfl ?_
    refine vs_aload_nN X dX2_takeLatestInto_11 0 rfl ?_
    refine vs_ifnullN X (tgt := 30) dX2_takeLatestInto_12 (by decide) ?_
    refine vs_aload_n X dX2_takeLatestInto_30 1 rfl ?_
    refine g_His  X hinX2 2 (by decide) (by decide +kernel) rfl rfl dX2_takeLatestInto_31 ?_
    exact vs_iret X dX2_takeLatestInto_34 (by decide) (by decide)
  · have hoj3 : j3 ∈ stL := (slot_st hS2 hj3)
    refine vs_astore_n X (lv' := [(2, rf G j3), (0, rf G 53), (1, rf G o1)]) dX2_takeLatestInto_10 (by decide) rfl ?_
    refine vs_aload_n X dX2_takeLatestInto_11 0 rfl ?_
    refine vs_ifnull X dX2_takeLatestInto_12 ?_
    refine vs_aload_n X dX2_takeLatestInto_15 2 rfl ?_
    refine vs_aload_n X dX2_takeLatestInto_16 0 rfl ?_
    refine vs_callVv X  (As := [rf G j3]) (st' := []) (mtX5_copyFrom hl0 ho1 hoj3) (cwV 1 X.2.2.2.2.1 gX2_takeLatestInto_X5_copyFrom rfl rfl rfl (by decide +kernel) ⟨Nat.le_of_ble_eq_true rfl, Nat.le_of_ble_eq_true rfl⟩) (by have := stL_lt ho1; omega) (by have := stL_lt ho1; omega) (cel_st ho1) rfl rfl (Nat.le_of_ble_eq_true rfl) dX2_takeLatestInto_17 ⟨Nat.le_of_ble_eq_true rfl, Nat.le_of_ble_eq_true rfl⟩ (fun S4 hS4 => ?_)
    refine vs_aload_n X dX2_takeLatestInto_20 1 rfl ?_
    refine vs_dup X dX2_takeLatestInto_21 rfl ?_
    refine g_His  X hinX2 2 (by decide) (by decide +kernel) rfl rfl dX2_takeLatestInto_22 ?_
    refine vs_iconst X (v := 1) dX2_takeLatestInto_25 (by decide) ?_
    refine vs_isub X dX2_takeLatestInto_26 ?_
    refine p_His  X hinX2 2 (by decide) (by decide +kernel) rfl rfl rfl rfl rfl rfl dX2_takeLatestInto_27 (fun S5 hS5 => ?_)
    refine vs_aload_n X dX2_takeLatestInto_30 1 rfl ?_
    refine g_His  X hinX2 2 (by decide) (by decide +kernel) rfl rfl dX2_takeLatestInto_31 ?_
    exact vs_iret X dX2_takeLatestInto_34 (by decide) (by decide)

def spX2_forgetAll  (S : Wo) : Option (Wo) :=
  wr (pI S 53 2 0) (fun S1 => some S1)
set_option maxHeartbeats 4000000 in
set_option maxRecDepth 100000 in
theorem mtX2_forgetAll {l : Launch} (hl0 : l.stackTraces = false) {G : Gt}  {S : Wo} : ∀ rr, spX2_forgetAll  S = some rr → MV l yX2_forgetAll wsX2_forgetAll { frames := 0, cells := 0, slots := 0, locals := 0 } G S [rf G 53] rr 0 0 := by
  refine MV_of (cc := cX2_forgetAll) (own := RX2) (maxL := 1) (ret := none) (sp := spX2_forgetAll  S) (by decide +kernel) rfl rfl (Nat.le_of_ble_eq_true rfl) ?_
  intro p e s m args below meth c X
  have hinX2 : ∀ w ∈ wsX20, w ∈ wsX2_forgetAll := by decide +kernel
  show VS G p l e _ s m args below meth c 1 _ _ 0 0 S 0 [(0, rf G 53)] []
  unfold spX2_forgetAll
  refine vs_aload_n X dX2_forgetAll_0 0 rfl ?_
  refine vs_iconst X (v := 0) dX2_forgetAll_1 (by decide) ?_
  refine p_His  X hinX2 2 (by decide) (by decide +kernel) rfl rfl rfl rfl rfl rfl dX2_forgetAll_2 (fun S1 hS1 => ?_)
  exact vs_vret X dX2_forgetAll_5 (by decide) (by decide)

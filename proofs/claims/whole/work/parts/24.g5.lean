def spX7_thrown  (S : Wo) : Option (Int32 × Wo) :=
  some (S.1 166 9, S)
set_option maxHeartbeats 4000000 in
set_option maxRecDepth 100000 in
theorem mtX7_thrown {l : Launch} (hl0 : l.stackTraces = false) {G : Gt}  {S : Wo} : ∀ rr, spX7_thrown  S = some rr → MI l yX7_thrown wsX7_thrown { frames := 0, cells := 0, slots := 0, locals := 0 } G S [rf G 166] rr 0 0 := by
  refine MI_of (cc := cX7_thrown) (own := RX7) (maxL := 1) (ret := (some .int)) (sp := spX7_thrown  S) (by decide +kernel) rfl rfl (Nat.le_of_ble_eq_true rfl) ?_
  intro p e s m args below meth c X
  have hinX7 : ∀ w ∈ wsX70, w ∈ wsX7_thrown := by decide +kernel
  show VS G p l e _ s m args below meth c 1 _ _ 0 0 S 0 [(0, rf G 166)] []
  unfold spX7_thrown
  refine vs_aload_n X dX7_thrown_0 0 rfl ?_
  refine g_Mod  X hinX7 9 (by decide) (by decide +kernel) rfl rfl dX7_thrown_1 ?_
  exact vs_iret X dX7_thrown_4 (by decide) (by decide)

def spX7_fails (p1 : Int32) (S : Wo) : Option (Int32 × Wo) :=
  wr (pI S 166 9 p1) (fun S1 => wr (pI S1 166 8 0) (fun S2 => (if p1 ≤ 0 then rz 0 (fun y => some (y, S2)) else rz 1 (fun y => some (y, S2)))))
set_option maxHeartbeats 4000000 in
set_option maxRecDepth 100000 in
theorem mtX7_fails {l : Launch} (hl0 : l.stackTraces = false) {G : Gt} (p1 : Int32) {S : Wo} : ∀ rr, spX7_fails p1 S = some rr → MI l yX7_fails wsX7_fails { frames := 0, cells := 0, slots := 0, locals := 0 } G S [rf G 166, .int p1] rr 0 0 := by
  refine MI_of (cc := cX7_fails) (own := RX7) (maxL := 2) (ret := (some .boolean)) (sp := spX7_fails p1 S) (by decide +kernel) rfl rfl (Nat.le_of_ble_eq_true rfl) ?_
  intro p e s m args below meth c X
  have hinX7 : ∀ w ∈ wsX70, w ∈ wsX7_fails := by decide +kernel
  show VS G p l e _ s m args below meth c 2 _ _ 0 0 S 0 [(0, rf G 166), (1, .int p1)] []
  unfold spX7_fails
  refine vs_aload_n X dX7_fails_0 0 rfl ?_
  refine vs_iload_n X dX7_fails_1 1 rfl ?_
  refine p_Mod  X hinX7 9 (by decide) (by decide +kernel) rfl rfl rfl rfl rfl rfl dX7_fails_2 (fun S1 hS1 => ?_)
  refine vs_aload_n X dX7_fails_5 0 rfl ?_
  refine vs_iconst X (v := 0) dX7_fails_6 (by decide) ?_
  refine p_Mod  X hinX7 8 (by decide) (by decide +kernel) rfl rfl rfl (by decide) (by decide) rfl dX7_fails_7 (fun S2 hS2 => ?_)
  refine vs_iload_n X dX7_fails_10 1 rfl ?_
  refine vs_if_le X (tgt := 18) dX7_fails_11 (by decide) (fun _ => ?_) (fun _ => ?_)
  · refine vs_iconst X (v := 0) dX7_fails_18 (by decide) ?_
    exact vs_zret X dX7_fails_19 (by decide) (by decide)
  · refine vs_iconst X (v := 1) dX7_fails_14 (by decide) ?_
    refine vs_goto X (tgt := 19) dX7_fails_15 (by decide) ?_
    exact vs_zret X dX7_fails_19 (by decide) (by decide)

def spX7_denies (p1 : Int32) (p2 : Int32) (p3 : Int32) (S : Wo) : Option (Int32 × Wo) :=
  wr (pI S 166 9 p1) (fun S1 => wr (pI S1 166 8 1) (fun S2 => wr (pI S2 166 10 p2) (fun S3 => wr (pI S3 166 11 p3) (fun S4 => wr (pI S4 166 12 0) (fun S5 => some (0, S5))))))
set_option maxHeartbeats 4000000 in
set_option maxRecDepth 100000 in
theorem mtX7_denies {l : Launch} (hl0 : l.stackTraces = false) {G : Gt} (p1 : Int32) (p2 : Int32) (p3 : Int32) {S : Wo} : ∀ rr, spX7_denies p1 p2 p3 S = some rr → MI l yX7_denies wsX7_denies { frames := 0, cells := 0, slots := 0, locals := 0 } G S [rf G 166, .int p1, .int p2, .int p3] rr 0 0 := by
  refine MI_of (cc := cX7_denies) (own := RX7) (maxL := 4) (ret := (some .int)) (sp := spX7_denies p1 p2 p3 S) (by decide +kernel) rfl rfl (Nat.le_of_ble_eq_true rfl) ?_
  intro p e s m args below meth c X
  have hinX7 : ∀ w ∈ wsX70, w ∈ wsX7_denies := by decide +kernel
  show VS G p l e _ s m args below meth c 4 _ _ 0 0 S 0 [(0, rf G 166), (1, .int p1), (2, .int p2), (3, .int p3)] []
  unfold spX7_denies
  refine vs_aload_n X dX7_denies_0 0 rfl ?_
  refine vs_iload_n X dX7_denies_1 1 rfl ?_
  refine p_Mod  X hinX7 9 (by decide) (by decide +kernel) rfl rfl rfl rfl rfl rfl dX7_denies_2 (fun S1 hS1 => ?_)
  refine vs_aload_n X dX7_denies_5 0 rfl ?_
  refine vs_iconst X (v := 1) dX7_denies_6 (by decide) ?_
  refine p_Mod  X hinX7 8 (by decide) (by decide +kernel) rfl rfl rfl (by decide) (by decide) rfl dX7_denies_7 (fun S2 hS2 => ?_)
  refine vs_aload_n X dX7_denies_10 0 rfl ?_
  refine vs_iload_n X dX7_denies_11 2 rfl ?_
  refine p_Mod  X hinX7 10 (by decide) (by decide +kernel) rfl rfl rfl rfl rfl rfl dX7_denies_12 (fun S3 hS3 => ?_)
  refine vs_aload_n X dX7_denies_15 0 rfl ?_
  refine vs_iload_n X dX7_denies_16 3 rfl ?_
  refine p_Mod  X hinX7 11 (by decide) (by decide +kernel) rfl rfl rfl rfl rfl rfl dX7_denies_17 (fun S4 hS4 => ?_)
  refine vs_aload_n X dX7_denies_20 0 rfl ?_
  refine vs_iconst X (v := 0) dX7_denies_21 (by decide) ?_
  refine p_Mod  X hinX7 12 (by decide) (by decide +kernel) rfl rfl rfl rfl rfl rfl dX7_denies_22 (fun S5 hS5 => ?_)
  refine vs_iconst X (v := 0) dX7_denies_25 (by decide) ?_
  exact vs_iret X dX7_denies_26 (by decide) (by decide)

def spX7_in (p1 : Int32) (p2 : Int32) (p3 : Int32) (S : Wo) : Option (Int32) :=
  (if p1 < p2 then rz 0 some else (if p3 < p1 then rz 0 some else rz 1 some))
set_option maxHeartbeats 4000000 in
set_option maxRecDepth 100000 in
theorem mtX7_in {l : Launch} (hl0 : l.stackTraces = false) {G : Gt} (p1 : Int32) (p2 : Int32) (p3 : Int32) {S : Wo} : ∀ x, spX7_in p1 p2 p3 S = some x → MI l yX7_in wsX7_in { frames := 0, cells := 0, slots := 0, locals := 0 } G S [.int p1, .int p2, .int p3] (x, S) 0 0 := by
  refine MIp_of (cc := cX7_in) (own := RX7) (maxL := 3) (ret := (some .boolean)) (sp := spX7_in p1 p2 p3 S) (by decide +kernel) rfl rfl (Nat.le_of_ble_eq_true rfl) ?_
  intro p e s m args below meth c X
  show VS G p l e _ s m args below meth c 3 _ _ 0 0 S 0 [(0, .int p1), (1, .int p2), (2, .int p3)] []
  unfold spX7_in
  refine vs_iload_n X dX7_in_0 0 rfl ?_
  refine vs_iload_n X dX7_in_1 1 rfl ?_
  refine vs_icmp_lt X (tgt := 14) dX7_in_2 (by decide) (fun _ => ?_) (fun _ => ?_)
  · refine vs_iconst X (v := 0) dX7_in_14 (by decide) ?_
    exact vs_zretp X dX7_in_15 (by decide) (by decide)
  · refine vs_iload_n X dX7_in_5 0 rfl ?_
    refine vs_iload_n X dX7_in_6 2 rfl ?_
    refine vs_icmp_gt X (tgt := 14) dX7_in_7 (by decide) (fun _ => ?_) (fun _ => ?_)
    · refine vs_iconst X (v := 0) dX7_in_14 (by decide) ?_
      exact vs_zretp X dX7_in_15 (by decide) (by decide)
    · refine vs_iconst X (v := 1) dX7_in_10 (by decide) ?_
      refine vs_goto X (tgt := 15) dX7_in_11 (by decide) ?_
      exact vs_zretp X dX7_in_15 (by decide) (by decide)

def lpX7_copies_3 (a1 N1 : Nat) (p2 : Int32) (a3 N3 : Nat) (p4 : Int32)   : Nat → Int32 → Wo → Option (Wo)
  | 0, _, _ => none
  | f + 1, v4, S2 => (if (112 : Int32) ≤ v4 then some S2 else (if inb (p2 + v4) N1 = true then (if inb (p4 + v4) N3 = true then wr (pF S2 a3 (upd (S2.2.1 a3) (ix (p4 + v4)) (S2.2.1 a1 (ix (p2 + v4))))) (fun S3 => lpX7_copies_3 a1 N1 p2 a3 N3 p4 f (v4 + 1) S3) else none) else none))
def spX7_copies (a1 N1 : Nat) (p2 : Int32) (a3 N3 : Nat) (p4 : Int32) (S : Wo) : Option (Wo) :=
  lpX7_copies_3 a1 N1 p2 a3 N3 p4 200 0 S
set_option maxHeartbeats 4000000 in
set_option maxRecDepth 100000 in
theorem mtX7_copies {l : Launch} (hl0 : l.stackTraces = false) {G : Gt} {a1 N1 : Nat} (hA1 : IsIA a1 N1) (p2 : Int32) {a3 N3 : Nat} (hA3 : IsIA a3 N3) (p4 : Int32) {S : Wo} : ∀ rr, spX7_copies a1 N1 p2 a3 N3 p4 S = some rr → MV l yX7_copies wsX7_copies { frames := 0, cells := 0, slots := 0, locals := 0 } G S [rf G a1, .int p2, rf G a3, .int p4] rr 0 0 := by
  refine MV_of (cc := cX7_copies) (own := RX7) (maxL := 5) (ret := none) (sp := spX7_copies a1 N1 p2 a3 N3 p4 S) (by decide +kernel) rfl rfl (Nat.le_of_ble_eq_true rfl) ?_
  intro p e s m args below meth c X
  show VS G p l e _ s m args below meth c 5 _ _ 0 0 S 0 [(0, rf G a1), (1, .int p2), (2, rf G a3), (3, .int p4)] []
  unfold spX7_copies
  refine vs_iconst X (v := 0) dX7_copies_0 (by decide) ?_
  refine vs_istore X (lv' := [(4, .int 0), (0, rf G a1), (1, .int p2), (2, rf G a3), (3, .int p4)]) dX7_copies_1 (by decide) rfl ?_
  have L1 : ∀ (f : Nat) (v4 : Int32) (S2 : Wo), VS G p l e ({ frames := 0, cells := 0, slots := 0, locals := 0 } : Room) s m args below meth c 5 (fun r => MQ below (QV G r) args s 0 0 (Af G)) (lpX7_copies_3 a1 N1 p2 a3 N3 p4 f v4 S2) 0 0 S2 3 [(0, rf G a1), (1, .int p2), (2, rf G a3), (3, .int p4), (4, .int v4)] [] := by
    intro f
    induction f with
    | zero => intro v4 S2; exact vs_none rfl
    | succ f ih =>
        intro v4 S2
        rw [lpX7_copies_3]
        refine vs_iload X dX7_copies_3 4 rfl ?_
        refine vs_bipush X (v := 112) dX7_copies_5 (by decide) ?_
        refine vs_icmp_ge X (tgt := 28) dX7_copies_7 (by decide) (fun _ => ?_) (fun _ => ?_)
        · exact vs_vret X dX7_copies_28 (by decide) (by decide)
        · refine vs_aload_n X dX7_copies_10 2 rfl ?_
          refine vs_iload_n X dX7_copies_11 3 rfl ?_
          refine vs_iload X dX7_copies_12 4 rfl ?_
          refine vs_iadd X dX7_copies_14 ?_
          refine vs_aload_n X dX7_copies_15 0 rfl ?_
          refine vs_iload_n X dX7_copies_16 1 rfl ?_
          refine vs_iload X dX7_copies_17 4 rfl ?_
          refine vs_iadd X dX7_copies_19 ?_
          refine vs_iald X hA1.2.1 hA1.2.2 (hA1.1 G _) dX7_copies_20 ?_
          refine vs_iast X hA3.2.1 hA3.2.2 (hA3.1 G) dX7_copies_21 (fun S3 hS3 => ?_)
          refine vs_iinc X (v := (v4 + 1)) (lv' := [(4, .int (v4 + 1)), (0, rf G a1), (1, .int p2), (2, rf G a3), (3, .int p4)]) dX7_copies_22 4 rfl rfl (by decide) rfl ?_
          refine vs_goto X (tgt := 3) dX7_copies_25 (by decide) ?_
          refine vs_sub [1, 2, 3, 4, 0] (lv' := [(0, rf G a1), (1, .int p2), (2, rf G a3), (3, .int p4), (4, .int (v4 + 1))]) rfl ?_
          exact ih (v4 + 1) S3
  refine vs_sub [1, 2, 3, 4, 0] (lv' := [(0, rf G a1), (1, .int p2), (2, rf G a3), (3, .int p4), (4, .int 0)]) rfl ?_
  exact L1 200 0 S

def lpX7_keeps_24 (a1 N1 : Nat)  (K : Int32 → Wo → Option (Wo)) : Nat → Int32 → Wo → Option (Wo)
  | 0, _, _ => none
  | f + 1, v2, S3 => (if (784 : Int32) ≤ v2 then K v2 S3 else (if inb (v2 + 112) 896 = true then (if inb v2 896 = true then wr (pF S3 168 (upd (S3.2.1 168) (ix v2) (S3.2.1 168 (ix (v2 + 112))))) (fun S4 => lpX7_keeps_24 a1 N1 K f (v2 + 1) S4) else none) else none))
def spX7_keeps (a1 N1 : Nat) (S : Wo) : Option (Wo) :=
  wr (pI S 166 9 0) (fun S1 => (if S1.1 166 7 = 0 then jn (β := Wo → Option (Wo)) (fun (S8 : Wo) => (spX7_copies a1 N1 0 168 896 (112 * S8.1 166 6) S8).bind (fun S10 => wr (pI S10 166 6 (S10.1 166 6 + 1)) (fun S11 => some S11))) (fun k9 => (if S1.1 166 6 = 8 then lpX7_keeps_24 a1 N1 (fun (u5 : Int32) (S6 : Wo) => wr (pI S6 166 6 (S6.1 166 6 - 1)) (fun S7 => k9 S7)) 800 0 S1 else k9 S1)) else some S1))
set_option maxHeartbeats 4000000 in
set_option maxRecDepth 100000 in
theorem mtX7_keeps {l : Launch} (hl0 : l.stackTraces = false) {G : Gt} {a1 N1 : Nat} (hA1 : IsIA a1 N1) {S : Wo} : ∀ rr, spX7_keeps a1 N1 S = some rr → MV l yX7_keeps wsX7_keeps { frames := 1, cells := 0, slots := 0, locals := 24 } G S [rf G 166, rf G a1] rr 0 0 := by
  refine MV_of (cc := cX7_keeps) (own := RX7) (maxL := 3) (ret := none) (sp := spX7_keeps a1 N1 S) (by decide +kernel) rfl rfl (Nat.le_of_ble_eq_true rfl) ?_
  intro p e s m args below meth c X
  have hinX7 : ∀ w ∈ wsX70, w ∈ wsX7_keeps := by decide +kernel
  show VS G p l e _ s m args below meth c 3 _ _ 0 0 S 0 [(0, rf G 166), (1, rf G a1)] []
  unfold spX7_keeps
  refine vs_aload_n X dX7_keeps_0 0 rfl ?_
  refine vs_iconst X (v := 0) dX7_keeps_1 (by decide) ?_
  refine p_Mod  X hinX7 9 (by decide) (by decide +kernel) rfl rfl rfl rfl rfl rfl dX7_keeps_2 (fun S1 hS1 => ?_)
  refine vs_aload_n X dX7_keeps_5 0 rfl ?_
  refine g_Mod  X hinX7 7 (by decide) (by decide +kernel) rfl rfl dX7_keeps_6 ?_
  refine vs_if_eq X (tgt := 13) dX7_keeps_9 (by decide) (fun _ => ?_) (fun _ => ?_)
  · refine vs_aload_n X dX7_keeps_13 0 rfl ?_
    refine g_Mod  X hinX7 6 (by decide) (by decide +kernel) rfl rfl dX7_keeps_14 ?_
    refine vs_bipush X (v := 8) dX7_keeps_17 (by decide) ?_
    refine vs_jn (β := Wo → Option (Wo)) (P := fun k9 => ∀ (S8 : Wo), VS G p l e ({ frames := 1, cells := 0, slots := 0, locals := 24 } : Room) s m args below meth c 3 (fun r => MQ below (QV G r) args s 0 0 (Af G)) (k9 S8) 0 0 S8 62 [(0, rf G 166), (1, rf G a1)] []) (fun S8 => ?_) (fun k9 hk9 => ?_)
    · refine vs_aload_n X dX7_keeps_62 1 rfl ?_
      refine vs_iconst X (v := 0) dX7_keeps_63 (by decide) ?_
      refine vs_aload_n X dX7_keeps_64 0 rfl ?_
      refine g_Mod  X hinX7 1 (by decide) (by decide +kernel) rfl rfl dX7_keeps_65 ?_
      refine vs_bipush X (v := 112) dX7_keeps_68 (by decide) ?_
      refine vs_aload_n X dX7_keeps_70 0 rfl ?_
      refine g_Mod  X hinX7 6 (by decide) (by decide +kernel) rfl rfl dX7_keeps_71 ?_
      refine vs_imul X dX7_keeps_74 ?_
      refine vs_callSv X  (As := [rf G a1, .int 0, rf G 168, .int (112 * S8.1 166 6)]) (st' := []) (mtX7_copies hl0 hA1 0 isIA_168 (112 * S8.1 166 6)) (va_cwS 4 X.2.2.2.2.1 gX7_keeps_X7_copies rfl rfl rfl (by decide +kernel) ⟨Nat.le_of_ble_eq_true rfl, Nat.le_of_ble_eq_true rfl⟩) rfl (Nat.le_of_ble_eq_true rfl) dX7_keeps_75 ⟨Nat.le_of_ble_eq_true rfl, Nat.le_of_ble_eq_true rfl⟩ (fun S10 hS10 => ?_)
      refine vs_aload_n X dX7_keeps_78 0 rfl ?_
      refine vs_dup X dX7_keeps_79 rfl ?_
      refine g_Mod  X hinX7 6 (by decide) (by decide +kernel) rfl rfl dX7_keeps_80 ?_
      refine vs_iconst X (v := 1) dX7_keeps_83 (by decide) ?_
      refine vs_iadd X dX7_keeps_84 ?_
      refine p_Mod  X hinX7 6 (by decide) (by decide +kernel) rfl rfl rfl rfl rfl rfl dX7_keeps_85 (fun S11 hS11 => ?_)
      exact vs_vret X dX7_keeps_88 (by decide) (by decide)
    · refine vs_icmp_ne X (tgt := 62) dX7_keeps_19 (by decide) (fun _ => ?_) (fun _ => ?_)
      · refine vs_iconst X (v := 0) dX7_keeps_22 (by decide) ?_
        refine vs_istore_n X (lv' := [(2, .int 0), (0, rf G 166), (1, rf G a1)]) dX7_keeps_23 (by decide) rfl ?_
        have L2 : ∀ (K : Int32 → Wo → Option (Wo)) (hK : ∀ (v2 : Int32) (S3 : Wo), VS G p l e ({ frames := 1, cells := 0, slots := 0, locals := 24 } : Room) s m args below meth c 3 (fun r => MQ below (QV G r) args s 0 0 (Af G)) (K v2 S3) 0 0 S3 52 [(0, rf G 166), (1, rf G a1), (2, .int v2)] []) (f : Nat) (v2 : Int32) (S3 : Wo), VS G p l e ({ frames := 1, cells := 0, slots := 0, locals := 24 } : Room) s m args below meth c 3 (fun r => MQ below (QV G r) args s 0 0 (Af G)) (lpX7_keeps_24 a1 N1 K f v2 S3) 0 0 S3 24 [(0, rf G 166), (1, rf G a1), (2, .int v2)] [] := by
          intro K hK f
          induction f with
          | zero => intro v2 S3; exact vs_none rfl
          | succ f ih =>
              intro v2 S3
              rw [lpX7_keeps_24]
              refine vs_iload_n X dX7_keeps_24 2 rfl ?_
              refine vs_sipush X (v := 784) dX7_keeps_25 (by decide) ?_
              refine vs_icmp_ge X (tgt := 52) dX7_keeps_28 (by decide) (fun _ => ?_) (fun _ => ?_)
              · refine vs_sub [0, 1, 2] (lv' := [(0, rf G 166), (1, rf G a1), (2, .int v2)]) rfl ?_
                exact hK v2 S3
              · refine vs_aload_n X dX7_keeps_31 0 rfl ?_
                refine g_Mod  X hinX7 1 (by decide) (by decide +kernel) rfl rfl dX7_keeps_32 ?_
                refine vs_iload_n X dX7_keeps_35 2 rfl ?_
                refine vs_aload_n X dX7_keeps_36 0 rfl ?_
                refine g_Mod  X hinX7 1 (by decide) (by decide +kernel) rfl rfl dX7_keeps_37 ?_
                refine vs_iload_n X dX7_keeps_40 2 rfl ?_
                refine vs_bipush X (v := 112) dX7_keeps_41 (by decide) ?_
                refine vs_iadd X dX7_keeps_43 ?_
                refine vs_iald X (by decide) (by decide) rfl dX7_keeps_44 ?_
                refine vs_iast X (by decide) (by decide) (fun _ => rfl) dX7_keeps_45 (fun S4 hS4 => ?_)
                refine vs_iinc X (v := (v2 + 1)) (lv' := [(2, .int (v2 + 1)), (0, rf G 166), (1, rf G a1)]) dX7_keeps_46 2 rfl rfl (by decide) rfl ?_
                refine vs_goto X (tgt := 24) dX7_keeps_49 (by decide) ?_
                refine vs_sub [1, 2, 0] (lv' := [(0, rf G 166), (1, rf G a1), (2, .int (v2 + 1))]) rfl ?_
                exact ih (v2 + 1) S4
        refine vs_sub [1, 2, 0] (lv' := [(0, rf G 166), (1, rf G a1), (2, .int 0)]) rfl ?_
        refine L2  (fun (u5 : Int32) (S6 : Wo) => wr (pI S6 166 6 (S6.1 166 6 - 1)) (fun S7 => k9 S7)) (fun u5 S6 => ?_) 800 0 S1
        refine vs_aload_n X dX7_keeps_52 0 rfl ?_
        refine vs_dup X dX7_keeps_53 rfl ?_
        refine g_Mod  X hinX7 6 (by decide) (by decide +kernel) rfl rfl dX7_keeps_54 ?_
        refine vs_iconst X (v := 1) dX7_keeps_57 (by decide) ?_
        refine vs_isub X dX7_keeps_58 ?_
        refine p_Mod  X hinX7 6 (by decide) (by decide +kernel) rfl rfl rfl rfl rfl rfl dX7_keeps_59 (fun S7 hS7 => ?_)
        exact vs_join [0, 1] (Nat.le_of_ble_eq_true rfl) (Nat.le_of_ble_eq_true rfl) rfl (hk9 S7)
      · exact vs_join [0, 1] (Nat.le_of_ble_eq_true rfl) (Nat.le_of_ble_eq_true rfl) rfl (hk9 S1)
  · exact vs_vret X dX7_keeps_12 (by decide) (by decide)

def spX7_isField (p1 : Int32) (S : Wo) : Option (Int32) :=
  (spX7_in p1 0 15 S).bind (fun x1 => rz x1 some)
set_option maxHeartbeats 4000000 in
set_option maxRecDepth 100000 in
theorem mtX7_isField {l : Launch} (hl0 : l.stackTraces = false) {G : Gt} (p1 : Int32) {S : Wo} : ∀ x, spX7_isField p1 S = some x → MI l yX7_isField wsX7_isField { frames := 1, cells := 0, slots := 0, locals := 22 } G S [.int p1] (x, S) 0 0 := by
  refine MIp_of (cc := cX7_isField) (own := RX7) (maxL := 1) (ret := (some .boolean)) (sp := spX7_isField p1 S) (by decide +kernel) rfl rfl (Nat.le_of_ble_eq_true rfl) ?_
  intro p e s m args below meth c X
  show VS G p l e _ s m args below meth c 1 _ _ 0 0 S 0 [(0, .int p1)] []
  unfold spX7_isField
  refine vs_iload_n X dX7_isField_0 0 rfl ?_
  refine vs_iconst X (v := 0) dX7_isField_1 (by decide) ?_
  refine vs_bipush X (v := 15) dX7_isField_2 (by decide) ?_
  refine vs_callSp X  (As := [.int p1, .int 0, .int 15]) (st' := []) (mtX7_in hl0 p1 0 15) (va_cwS 3 X.2.2.2.2.1 gX7_isField_X7_in rfl rfl rfl (by decide +kernel) ⟨Nat.le_of_ble_eq_true rfl, Nat.le_of_ble_eq_true rfl⟩) rfl (Nat.le_of_ble_eq_true rfl) dX7_isField_4 ⟨Nat.le_of_ble_eq_true rfl, Nat.le_of_ble_eq_true rfl⟩ (fun x1 hx1 => ?_)
  exact vs_zretp X dX7_isField_7 (by decide) (by decide)

def spX7_isCrow (p1 : Int32) (S : Wo) : Option (Int32) :=
  (if inb 0 112 = true then (spX7_in p1 0 ((S.2.1 167 (ix 0)) - 1) S).bind (fun x1 => rz x1 some) else none)
set_option maxHeartbeats 4000000 in
set_option maxRecDepth 100000 in
theorem mtX7_isCrow {l : Launch} (hl0 : l.stackTraces = false) {G : Gt} (p1 : Int32) {S : Wo} : ∀ x, spX7_isCrow p1 S = some x → MI l yX7_isCrow wsX7_isCrow { frames := 1, cells := 0, slots := 0, locals := 22 } G S [rf G 166, .int p1] (x, S) 0 0 := by
  refine MIp_of (cc := cX7_isCrow) (own := RX7) (maxL := 2) (ret := (some .boolean)) (sp := spX7_isCrow p1 S) (by decide +kernel) rfl rfl (Nat.le_of_ble_eq_true rfl) ?_
  intro p e s m args below meth c X
  have hinX7 : ∀ w ∈ wsX70, w ∈ wsX7_isCrow := by decide +kernel
  show VS G p l e _ s m args below meth c 2 _ _ 0 0 S 0 [(0, rf G 166), (1, .int p1)] []
  unfold spX7_isCrow
  refine vs_iload_n X dX7_isCrow_0 1 rfl ?_
  refine vs_iconst X (v := 0) dX7_isCrow_1 (by decide) ?_
  refine vs_aload_n X dX7_isCrow_2 0 rfl ?_
  refine g_Mod  X hinX7 0 (by decide) (by decide +kernel) rfl rfl dX7_isCrow_3 ?_
  refine vs_iconst X (v := 0) dX7_isCrow_6 (by decide) ?_
  refine vs_iald X (by decide) (by decide) rfl dX7_isCrow_7 ?_
  refine vs_iconst X (v := 1) dX7_isCrow_8 (by decide) ?_
  refine vs_isub X dX7_isCrow_9 ?_
  refine vs_callSp X  (As := [.int p1, .int 0, .int ((S.2.1 167 (ix 0)) - 1)]) (st' := []) (mtX7_in hl0 p1 0 ((S.2.1 167 (ix 0)) - 1)) (va_cwS 3 X.2.2.2.2.1 gX7_isCrow_X7_in rfl rfl rfl (by decide +kernel) ⟨Nat.le_of_ble_eq_true rfl, Nat.le_of_ble_eq_true rfl⟩) rfl (Nat.le_of_ble_eq_true rfl) dX7_isCrow_10 ⟨Nat.le_of_ble_eq_true rfl, Nat.le_of_ble_eq_true rfl⟩ (fun x1 hx1 => ?_)
  exact vs_zretp X dX7_isCrow_13 (by decide) (by decide)

def spX7_isNone (p1 : Int32) (S : Wo) : Option (Int32 × Wo) :=
  (spX7_isCrow p1 S).bind (fun x1 => (if x1 = 0 then bd2 (spX7_fails 1 S) (fun x2 S3 => rz x2 (fun y => some (y, S3))) else bd2 (spX7_fails 0 S) (fun x4 S5 => rz x4 (fun y => some (y, S5)))))
set_option maxHeartbeats 4000000 in
set_option maxRecDepth 100000 in
theorem mtX7_isNone {l : Launch} (hl0 : l.stackTraces = false) {G : Gt} (p1 : Int32) {S : Wo} : ∀ rr, spX7_isNone p1 S = some rr → MI l yX7_isNone wsX7_isNone { frames := 2, cells := 0, slots := 0, locals := 43 } G S [rf G 166, .int p1] rr 0 0 := by
  refine MI_of (cc := cX7_isNone) (own := RX7) (maxL := 2) (ret := (some .boolean)) (sp := spX7_isNone p1 S) (by decide +kernel) rfl rfl (Nat.le_of_ble_eq_true rfl) ?_
  intro p e s m args below meth c X
  show VS G p l e _ s m args below meth c 2 _ _ 0 0 S 0 [(0, rf G 166), (1, .int p1)] []
  unfold spX7_isNone
  refine vs_aload_n X dX7_isNone_0 0 rfl ?_
  refine vs_aload_n X dX7_isNone_1 0 rfl ?_
  refine vs_iload_n X dX7_isNone_2 1 rfl ?_
  refine vs_callVp X  (As := [.int p1]) (st' := [rf G 166]) (mtX7_isCrow hl0 p1) (cwV 1 X.2.2.2.2.1 gX7_isNone_X7_isCrow rfl rfl rfl (by decide +kernel) ⟨Nat.le_of_ble_eq_true rfl, Nat.le_of_ble_eq_true rfl⟩) (by decide) (by decide) rfl rfl rfl (Nat.le_of_ble_eq_true rfl) dX7_isNone_3 ⟨Nat.le_of_ble_eq_true rfl, Nat.le_of_ble_eq_true rfl⟩ (fun x1 hx1 => ?_)
  refine vs_if_eq X (tgt := 13) dX7_isNone_6 (by decide) (fun _ => ?_) (fun _ => ?_)
  · refine vs_iconst X (v := 1) dX7_isNone_13 (by decide) ?_
    refine vs_callVi X  (As := [.int 1]) (st' := []) (mtX7_fails hl0 1) (cwV 1 X.2.2.2.2.1 gX7_isNone_X7_fails rfl rfl rfl (by decide +kernel) ⟨Nat.le_of_ble_eq_true rfl, Nat.le_of_ble_eq_true rfl⟩) (by decide) (by decide) rfl rfl rfl (Nat.le_of_ble_eq_true rfl) dX7_isNone_14 ⟨Nat.le_of_ble_eq_true rfl, Nat.le_of_ble_eq_true rfl⟩ (fun x2 S3 hx2 => ?_)
    exact vs_zret X dX7_isNone_17 (by decide) (by decide)
  · refine vs_iconst X (v := 0) dX7_isNone_9 (by decide) ?_
    refine vs_goto X (tgt := 14) dX7_isNone_10 (by decide) ?_
    refine vs_callVi X  (As := [.int 0]) (st' := []) (mtX7_fails hl0 0) (cwV 1 X.2.2.2.2.1 gX7_isNone_X7_fails rfl rfl rfl (by decide +kernel) ⟨Nat.le_of_ble_eq_true rfl, Nat.le_of_ble_eq_true rfl⟩) (by decide) (by decide) rfl rfl rfl (Nat.le_of_ble_eq_true rfl) dX7_isNone_14 ⟨Nat.le_of_ble_eq_true rfl, Nat.le_of_ble_eq_true rfl⟩ (fun x4 S5 hx4 => ?_)
    exact vs_zret X dX7_isNone_17 (by decide) (by decide)

def spX7_has (p1 : Int32) (p2 : Int32) (S : Wo) : Option (Int32) :=
  (if ((p1 >>> (p2 &&& 31)) &&& 1) = 1 then rz 1 some else rz 0 some)
set_option maxHeartbeats 4000000 in
set_option maxRecDepth 100000 in
theorem mtX7_has {l : Launch} (hl0 : l.stackTraces = false) {G : Gt} (p1 : Int32) (p2 : Int32) {S : Wo} : ∀ x, spX7_has p1 p2 S = some x → MI l yX7_has wsX7_has { frames := 0, cells := 0, slots := 0, locals := 0 } G S [.int p1, .int p2] (x, S) 0 0 := by
  refine MIp_of (cc := cX7_has) (own := RX7) (maxL := 2) (ret := (some .boolean)) (sp := spX7_has p1 p2 S) (by decide +kernel) rfl rfl (Nat.le_of_ble_eq_true rfl) ?_
  intro p e s m args below meth c X
  show VS G p l e _ s m args below meth c 2 _ _ 0 0 S 0 [(0, .int p1), (1, .int p2)] []
  unfold spX7_has
  refine vs_iload_n X dX7_has_0 0 rfl ?_
  refine vs_iload_n X dX7_has_1 1 rfl ?_
  refine vs_ishr X dX7_has_2 ?_
  refine vs_iconst X (v := 1) dX7_has_3 (by decide) ?_
  refine vs_iand X dX7_has_4 ?_
  refine vs_iconst X (v := 1) dX7_has_5 (by decide) ?_
  refine vs_icmp_ne X (tgt := 13) dX7_has_6 (by decide) (fun _ => ?_) (fun _ => ?_)
  · refine vs_iconst X (v := 1) dX7_has_9 (by decide) ?_
    refine vs_goto X (tgt := 14) dX7_has_10 (by decide) ?_
    exact vs_zretp X dX7_has_14 (by decide) (by decide)
  · refine vs_iconst X (v := 0) dX7_has_13 (by decide) ?_
    exact vs_zretp X dX7_has_14 (by decide) (by decide)

def lpX7_bits_4 (p1 : Int32) (S : Wo)   : Nat → Int32 → Int32 → Option (Int32)
  | 0, _, _ => none
  | f + 1, v1, v2 => (if (16 : Int32) ≤ v2 then some v1 else lpX7_bits_4 p1 S f (v1 + ((p1 >>> (v2 &&& 31)) &&& 1)) (v2 + 1))
def spX7_bits (p1 : Int32) (S : Wo) : Option (Int32) :=
  lpX7_bits_4 p1 S 200 0 0
set_option maxHeartbeats 4000000 in
set_option maxRecDepth 100000 in
theorem mtX7_bits {l : Launch} (hl0 : l.stackTraces = false) {G : Gt} (p1 : Int32) {S : Wo} : ∀ x, spX7_bits p1 S = some x → MI l yX7_bits wsX7_bits { frames := 0, cells := 0, slots := 0, locals := 0 } G S [.int p1] (x, S) 0 0 := by
  refine MIp_of (cc := cX7_bits) (own := RX7) (maxL := 3) (ret := (some .int)) (sp := spX7_bits p1 S) (by decide +kernel) rfl rfl (Nat.le_of_ble_eq_true rfl) ?_
  intro p e s m args below meth c X
  show VS G p l e _ s m args below meth c 3 _ _ 0 0 S 0 [(0, .int p1)] []
  unfold spX7_bits
  refine vs_iconst X (v := 0) dX7_bits_0 (by decide) ?_
  refine vs_istore_n X (lv' := [(1, .int 0), (0, .int p1)]) dX7_bits_1 (by decide) rfl ?_
  refine vs_iconst X (v := 0) dX7_bits_2 (by decide) ?_
  refine vs_istore_n X (lv' := [(2, .int 0), (1, .int 0), (0, .int p1)]) dX7_bits_3 (by decide) rfl ?_
  have L1 : ∀ (f : Nat) (v1 : Int32) (v2 : Int32), VS G p l e ({ frames := 0, cells := 0, slots := 0, locals := 0 } : Room) s m args below meth c 3 (fun x => MQ below (QI G (x, S)) args s 0 0 (Af G)) (lpX7_bits_4 p1 S f v1 v2) 0 0 S 4 [(0, .int p1), (1, .int v1), (2, .int v2)] [] := by
    intro f
    induction f with
    | zero => intro v1 v2; exact vs_none rfl
    | succ f ih =>
        intro v1 v2
        rw [lpX7_bits_4]
        refine vs_iload_n X dX7_bits_4 2 rfl ?_
        refine vs_bipush X (v := 16) dX7_bits_5 (by decide) ?_
        refine vs_icmp_ge X (tgt := 24) dX7_bits_7 (by decide) (fun _ => ?_) (fun _ => ?_)
        · refine vs_iload_n X dX7_bits_24 1 rfl ?_
          exact vs_iretp X dX7_bits_25 (by decide) (by decide)
        · refine vs_iload_n X dX7_bits_10 1 rfl ?_
          refine vs_iload_n X dX7_bits_11 0 rfl ?_
          refine vs_iload_n X dX7_bits_12 2 rfl ?_
          refine vs_ishr X dX7_bits_13 ?_
          refine vs_iconst X (v := 1) dX7_bits_14 (by decide) ?_
          refine vs_iand X dX7_bits_15 ?_
          refine vs_iadd X dX7_bits_16 ?_
          refine vs_istore_n X (lv' := [(1, .int (v1 + ((p1 >>> (v2 &&& 31)) &&& 1))), (0, .int p1), (2, .int v2)]) dX7_bits_17 (by decide) rfl ?_
          refine vs_iinc X (v := (v2 + 1)) (lv' := [(2, .int (v2 + 1)), (1, .int (v1 + ((p1 >>> (v2 &&& 31)) &&& 1))), (0, .int p1)]) dX7_bits_18 2 rfl rfl (by decide) rfl ?_
          refine vs_goto X (tgt := 4) dX7_bits_21 (by decide) ?_
          refine vs_sub [2, 1, 0] (lv' := [(0, .int p1), (1, .int (v1 + ((p1 >>> (v2 &&& 31)) &&& 1))), (2, .int (v2 + 1))]) rfl ?_
          exact ih (v1 + ((p1 >>> (v2 &&& 31)) &&& 1)) (v2 + 1)
  refine vs_sub [2, 1, 0] (lv' := [(0, .int p1), (1, .int 0), (2, .int 0)]) rfl ?_
  exact L1 200 0 0

def lpX7_standing_2 (p1 : Int32) (S : Wo)   : Nat → Int32 → Option (Int32)
  | 0, _ => none
  | f + 1, v2 => (if inb 0 112 = true then (if (S.2.1 167 (ix 0)) ≤ v2 then some (-1) else (if inb (5 + v2) 112 = true then (if (S.2.1 167 (ix (5 + v2))) = p1 then some v2 else lpX7_standing_2 p1 S f (v2 + 1)) else none)) else none)
def spX7_standing (p1 : Int32) (S : Wo) : Option (Int32) :=
  lpX7_standing_2 p1 S 200 0
set_option maxHeartbeats 4000000 in
set_option maxRecDepth 100000 in
theorem mtX7_standing {l : Launch} (hl0 : l.stackTraces = false) {G : Gt} (p1 : Int32) {S : Wo} : ∀ x, spX7_standing p1 S = some x → MI l yX7_standing wsX7_standing { frames := 0, cells := 0, slots := 0, locals := 0 } G S [rf G 166, .int p1] (x, S) 0 0 := by
  refine MIp_of (cc := cX7_standing) (own := RX7) (maxL := 3) (ret := (some .int)) (sp := spX7_standing p1 S) (by decide +kernel) rfl rfl (Nat.le_of_ble_eq_true rfl) ?_
  intro p e s m args below meth c X
  have hinX7 : ∀ w ∈ wsX70, w ∈ wsX7_standing := by decide +kernel
  show VS G p l e _ s m args below meth c 3 _ _ 0 0 S 0 [(0, rf G 166), (1, .int p1)] []
  unfold spX7_standing
  refine vs_iconst X (v := 0) dX7_standing_0 (by decide) ?_
  refine vs_istore_n X (lv' := [(2, .int 0), (0, rf G 166), (1, .int p1)]) dX7_standing_1 (by decide) rfl ?_
  have L1 : ∀ (f : Nat) (v2 : Int32), VS G p l e ({ frames := 0, cells := 0, slots := 0, locals := 0 } : Room) s m args below meth c 3 (fun x => MQ below (QI G (x, S)) args s 0 0 (Af G)) (lpX7_standing_2 p1 S f v2) 0 0 S 2 [(0, rf G 166), (1, .int p1), (2, .int v2)] [] := by
    intro f
    induction f with
    | zero => intro v2; exact vs_none rfl
    | succ f ih =>
        intro v2
        rw [lpX7_standing_2]
        refine vs_iload_n X dX7_standing_2 2 rfl ?_
        refine vs_aload_n X dX7_standing_3 0 rfl ?_
        refine g_Mod  X hinX7 0 (by decide) (by decide +kernel) rfl rfl dX7_standing_4 ?_
        refine vs_iconst X (v := 0) dX7_standing_7 (by decide) ?_
        refine vs_iald X (by decide) (by decide) rfl dX7_standing_8 ?_
        refine vs_icmp_ge X (tgt := 32) dX7_standing_9 (by decide) (fun _ => ?_) (fun _ => ?_)
        · refine vs_iconst X (v := (-1)) dX7_standing_32 (by decide) ?_
          exact vs_iretp X dX7_standing_33 (by decide) (by decide)
        · refine vs_aload_n X dX7_standing_12 0 rfl ?_
          refine g_Mod  X hinX7 0 (by decide) (by decide +kernel) rfl rfl dX7_standing_13 ?_
          refine vs_iconst X (v := 5) dX7_standing_16 (by decide) ?_
          refine vs_iload_n X dX7_standing_17 2 rfl ?_
          refine vs_iadd X dX7_standing_18 ?_
          refine vs_iald X (by decide) (by decide) rfl dX7_standing_19 ?_
          refine vs_iload_n X dX7_standing_20 1 rfl ?_
          refine vs_icmp_ne X (tgt := 26) dX7_standing_21 (by decide) (fun _ => ?_) (fun _ => ?_)
          · refine vs_iload_n X dX7_standing_24 2 rfl ?_
            exact vs_iretp X dX7_standing_25 (by decide) (by decide)
          · refine vs_iinc X (v := (v2 + 1)) (lv' := [(2, .int (v2 + 1)), (0, rf G 166), (1, .int p1)]) dX7_standing_26 2 rfl rfl (by decide) rfl ?_
            refine vs_goto X (tgt := 2) dX7_standing_29 (by decide) ?_
            refine vs_sub [1, 2, 0] (lv' := [(0, rf G 166), (1, .int p1), (2, .int (v2 + 1))]) rfl ?_
            exact ih (v2 + 1)
  refine vs_sub [1, 2, 0] (lv' := [(0, rf G 166), (1, .int p1), (2, .int 0)]) rfl ?_
  exact L1 200 0

def spX7_of (p1 : Int32) (p2 : Int32) (S : Wo) : Option (Int32) :=
  (if inb ((32 + (4 * p1)) + p2) 112 = true then some (S.2.1 167 (ix ((32 + (4 * p1)) + p2))) else none)
set_option maxHeartbeats 4000000 in
set_option maxRecDepth 100000 in
theorem mtX7_of {l : Launch} (hl0 : l.stackTraces = false) {G : Gt} (p1 : Int32) (p2 : Int32) {S : Wo} : ∀ x, spX7_of p1 p2 S = some x → MI l yX7_of wsX7_of { frames := 0, cells := 0, slots := 0, locals := 0 } G S [rf G 166, .int p1, .int p2] (x, S) 0 0 := by
  refine MIp_of (cc := cX7_of) (own := RX7) (maxL := 3) (ret := (some .int)) (sp := spX7_of p1 p2 S) (by decide +kernel) rfl rfl (Nat.le_of_ble_eq_true rfl) ?_
  intro p e s m args below meth c X
  have hinX7 : ∀ w ∈ wsX70, w ∈ wsX7_of := by decide +kernel
  show VS G p l e _ s m args below meth c 3 _ _ 0 0 S 0 [(0, rf G 166), (1, .int p1), (2, .int p2)] []
  unfold spX7_of
  refine vs_aload_n X dX7_of_0 0 rfl ?_
  refine g_Mod  X hinX7 0 (by decide) (by decide +kernel) rfl rfl dX7_of_1 ?_
  refine vs_bipush X (v := 32) dX7_of_4 (by decide) ?_
  refine vs_iconst X (v := 4) dX7_of_6 (by decide) ?_
  refine vs_iload_n X dX7_of_7 1 rfl ?_
  refine vs_imul X dX7_of_8 ?_
  refine vs_iadd X dX7_of_9 ?_
  refine vs_iload_n X dX7_of_10 2 rfl ?_
  refine vs_iadd X dX7_of_11 ?_
  refine vs_iald X (by decide) (by decide) rfl dX7_of_12 ?_
  exact vs_iretp X dX7_of_13 (by decide) (by decide)

def spX7_isCert (p1 : Int32) (S : Wo) : Option (Int32) :=
  (if inb 1 112 = true then (spX7_in p1 0 ((S.2.1 167 (ix 1)) - 1) S).bind (fun x1 => rz x1 some) else none)
set_option maxHeartbeats 4000000 in
set_option maxRecDepth 100000 in
theorem mtX7_isCert {l : Launch} (hl0 : l.stackTraces = false) {G : Gt} (p1 : Int32) {S : Wo} : ∀ x, spX7_isCert p1 S = some x → MI l yX7_isCert wsX7_isCert { frames := 1, cells := 0, slots := 0, locals := 22 } G S [rf G 166, .int p1] (x, S) 0 0 := by
  refine MIp_of (cc := cX7_isCert) (own := RX7) (maxL := 2) (ret := (some .boolean)) (sp := spX7_isCert p1 S) (by decide +kernel) rfl rfl (Nat.le_of_ble_eq_true rfl) ?_
  intro p e s m args below meth c X
  have hinX7 : ∀ w ∈ wsX70, w ∈ wsX7_isCert := by decide +kernel
  show VS G p l e _ s m args below meth c 2 _ _ 0 0 S 0 [(0, rf G 166), (1, .int p1)] []
  unfold spX7_isCert
  refine vs_iload_n X dX7_isCert_0 1 rfl ?_
  refine vs_iconst X (v := 0) dX7_isCert_1 (by decide) ?_
  refine vs_aload_n X dX7_isCert_2 0 rfl ?_
  refine g_Mod  X hinX7 0 (by decide) (by decide +kernel) rfl rfl dX7_isCert_3 ?_
  refine vs_iconst X (v := 1) dX7_isCert_6 (by decide) ?_
  refine vs_iald X (by decide) (by decide) rfl dX7_isCert_7 ?_
  refine vs_iconst X (v := 1) dX7_isCert_8 (by decide) ?_
  refine vs_isub X dX7_isCert_9 ?_
  refine vs_callSp X  (As := [.int p1, .int 0, .int ((S.2.1 167 (ix 1)) - 1)]) (st' := []) (mtX7_in hl0 p1 0 ((S.2.1 167 (ix 1)) - 1)) (va_cwS 3 X.2.2.2.2.1 gX7_isCert_X7_in rfl rfl rfl (by decide +kernel) ⟨Nat.le_of_ble_eq_true rfl, Nat.le_of_ble_eq_true rfl⟩) rfl (Nat.le_of_ble_eq_true rfl) dX7_isCert_10 ⟨Nat.le_of_ble_eq_true rfl, Nat.le_of_ble_eq_true rfl⟩ (fun x1 hx1 => ?_)
  exact vs_zretp X dX7_isCert_13 (by decide) (by decide)

def spX7_isLost (p1 : Int32) (S : Wo) : Option (Int32 × Wo) :=
  (spX7_isCert p1 S).bind (fun x1 => (if x1 = 0 then bd2 (spX7_fails 1 S) (fun x2 S3 => rz x2 (fun y => some (y, S3))) else bd2 (spX7_fails 0 S) (fun x4 S5 => rz x4 (fun y => some (y, S5)))))
set_option maxHeartbeats 4000000 in
set_option maxRecDepth 100000 in
theorem mtX7_isLost {l : Launch} (hl0 : l.stackTraces = false) {G : Gt} (p1 : Int32) {S : Wo} : ∀ rr, spX7_isLost p1 S = some rr → MI l yX7_isLost wsX7_isLost { frames := 2, cells := 0, slots := 0, locals := 43 } G S [rf G 166, .int p1] rr 0 0 := by
  refine MI_of (cc := cX7_isLost) (own := RX7) (maxL := 2) (ret := (some .boolean)) (sp := spX7_isLost p1 S) (by decide +kernel) rfl rfl (Nat.le_of_ble_eq_true rfl) ?_
  intro p e s m args below meth c X
  show VS G p l e _ s m args below meth c 2 _ _ 0 0 S 0 [(0, rf G 166), (1, .int p1)] []
  unfold spX7_isLost
  refine vs_aload_n X dX7_isLost_0 0 rfl ?_
  refine vs_aload_n X dX7_isLost_1 0 rfl ?_
  refine vs_iload_n X dX7_isLost_2 1 rfl ?_
  refine vs_callVp X  (As := [.int p1]) (st' := [rf G 166]) (mtX7_isCert hl0 p1) (cwV 1 X.2.2.2.2.1 gX7_isLost_X7_isCert rfl rfl rfl (by decide +kernel) ⟨Nat.le_of_ble_eq_true rfl, Nat.le_of_ble_eq_true rfl⟩) (by decide) (by decide) rfl rfl rfl (Nat.le_of_ble_eq_true rfl) dX7_isLost_3 ⟨Nat.le_of_ble_eq_true rfl, Nat.le_of_ble_eq_true rfl⟩ (fun x1 hx1 => ?_)
  refine vs_if_eq X (tgt := 13) dX7_isLost_6 (by decide) (fun _ => ?_) (fun _ => ?_)
  · refine vs_iconst X (v := 1) dX7_isLost_13 (by decide) ?_
    refine vs_callVi X  (As := [.int 1]) (st' := []) (mtX7_fails hl0 1) (cwV 1 X.2.2.2.2.1 gX7_isLost_X7_fails rfl rfl rfl (by decide +kernel) ⟨Nat.le_of_ble_eq_true rfl, Nat.le_of_ble_eq_true rfl⟩) (by decide) (by decide) rfl rfl rfl (Nat.le_of_ble_eq_true rfl) dX7_isLost_14 ⟨Nat.le_of_ble_eq_true rfl, Nat.le_of_ble_eq_true rfl⟩ (fun x2 S3 hx2 => ?_)
    exact vs_zret X dX7_isLost_17 (by decide) (by decide)
  · refine vs_iconst X (v := 0) dX7_isLost_9 (by decide) ?_
    refine vs_goto X (tgt := 14) dX7_isLost_10 (by decide) ?_
    refine vs_callVi X  (As := [.int 0]) (st' := []) (mtX7_fails hl0 0) (cwV 1 X.2.2.2.2.1 gX7_isLost_X7_fails rfl rfl rfl (by decide +kernel) ⟨Nat.le_of_ble_eq_true rfl, Nat.le_of_ble_eq_true rfl⟩) (by decide) (by decide) rfl rfl rfl (Nat.le_of_ble_eq_true rfl) dX7_isLost_14 ⟨Nat.le_of_ble_eq_true rfl, Nat.le_of_ble_eq_true rfl⟩ (fun x4 S5 hx4 => ?_)
    exact vs_zret X dX7_isLost_17 (by decide) (by decide)

def spX7_holds (p1 : Int32) (p2 : Int32) (p3 : Int32) (S : Wo) : Option (Int32) :=
  (spX7_of p1 3 S).bind (fun x1 => (if x1 < p3 then rz 0 some else (spX7_of p1 1 S).bind (fun x2 => (if inb (5 + x2) 112 = true then (spX7_of p1 2 S).bind (fun x3 => (if (S.2.1 167 (ix (5 + x2))) = x3 then (spX7_of p1 0 S).bind (fun x4 => (if x4 < 0 then rz 1 some else (spX7_of p1 0 S).bind (fun x5 => (spX7_has p2 x5 S).bind (fun x6 => (if x6 = 0 then rz 0 some else rz 1 some))))) else rz 0 some)) else none))))
set_option maxHeartbeats 4000000 in
set_option maxRecDepth 100000 in
theorem mtX7_holds {l : Launch} (hl0 : l.stackTraces = false) {G : Gt} (p1 : Int32) (p2 : Int32) (p3 : Int32) {S : Wo} : ∀ x, spX7_holds p1 p2 p3 S = some x → MI l yX7_holds wsX7_holds { frames := 1, cells := 0, slots := 0, locals := 22 } G S [rf G 166, .int p1, .int p2, .int p3] (x, S) 0 0 := by
  refine MIp_of (cc := cX7_holds) (own := RX7) (maxL := 4) (ret := (some .boolean)) (sp := spX7_holds p1 p2 p3 S) (by decide +kernel) rfl rfl (Nat.le_of_ble_eq_true rfl) ?_
  intro p e s m args below meth c X
  have hinX7 : ∀ w ∈ wsX70, w ∈ wsX7_holds := by decide +kernel
  show VS G p l e _ s m args below meth c 4 _ _ 0 0 S 0 [(0, rf G 166), (1, .int p1), (2, .int p2), (3, .int p3)] []
  unfold spX7_holds
  refine vs_aload_n X dX7_holds_0 0 rfl ?_
  refine vs_iload_n X dX7_holds_1 1 rfl ?_
  refine vs_iconst X (v := 3) dX7_holds_2 (by decide) ?_
  refine vs_callVp X  (As := [.int p1, .int 3]) (st' := []) (mtX7_of hl0 p1 3) (cwV 2 X.2.2.2.2.1 gX7_holds_X7_of rfl rfl rfl (by decide +kernel) ⟨Nat.le_of_ble_eq_true rfl, Nat.le_of_ble_eq_true rfl⟩) (by decide) (by decide) rfl rfl rfl (Nat.le_of_ble_eq_true rfl) dX7_holds_3 ⟨Nat.le_of_ble_eq_true rfl, Nat.le_of_ble_eq_true rfl⟩ (fun x1 hx1 => ?_)
  refine vs_iload_n X dX7_holds_6 3 rfl ?_
  refine vs_icmp_lt X (tgt := 58) dX7_holds_7 (by decide) (fun _ => ?_) (fun _ => ?_)
  · refine vs_iconst X (v := 0) dX7_holds_58 (by decide) ?_
    exact vs_zretp X dX7_holds_59 (by decide) (by decide)
  · refine vs_aload_n X dX7_holds_10 0 rfl ?_
    refine g_Mod  X hinX7 0 (by decide) (by decide +kernel) rfl rfl dX7_holds_11 ?_
    refine vs_iconst X (v := 5) dX7_holds_14 (by decide) ?_
    refine vs_aload_n X dX7_holds_15 0 rfl ?_
    refine vs_iload_n X dX7_holds_16 1 rfl ?_
    refine vs_iconst X (v := 1) dX7_holds_17 (by decide) ?_
    refine vs_callVp X  (As := [.int p1, .int 1]) (st' := [.int 5, rf G 167]) (mtX7_of hl0 p1 1) (cwV 2 X.2.2.2.2.1 gX7_holds_X7_of rfl rfl rfl (by decide +kernel) ⟨Nat.le_of_ble_eq_true rfl, Nat.le_of_ble_eq_true rfl⟩) (by decide) (by decide) rfl rfl rfl (Nat.le_of_ble_eq_true rfl) dX7_holds_18 ⟨Nat.le_of_ble_eq_true rfl, Nat.le_of_ble_eq_true rfl⟩ (fun x2 hx2 => ?_)
    refine vs_iadd X dX7_holds_21 ?_
    refine vs_iald X (by decide) (by decide) rfl dX7_holds_22 ?_
    refine vs_aload_n X dX7_holds_23 0 rfl ?_
    refine vs_iload_n X dX7_holds_24 1 rfl ?_
    refine vs_iconst X (v := 2) dX7_holds_25 (by decide) ?_
    refine vs_callVp X  (As := [.int p1, .int 2]) (st' := [.int (S.2.1 167 (ix (5 + x2)))]) (mtX7_of hl0 p1 2) (cwV 2 X.2.2.2.2.1 gX7_holds_X7_of rfl rfl rfl (by decide +kernel) ⟨Nat.le_of_ble_eq_true rfl, Nat.le_of_ble_eq_true rfl⟩) (by decide) (by decide) rfl rfl rfl (Nat.le_of_ble_eq_true rfl) dX7_holds_26 ⟨Nat.le_of_ble_eq_true rfl, Nat.le_of_ble_eq_true rfl⟩ (fun x3 hx3 => ?_)
    refine vs_icmp_ne X (tgt := 58) dX7_holds_29 (by decide) (fun _ => ?_) (fun _ => ?_)
    · refine vs_aload_n X dX7_holds_32 0 rfl ?_
      refine vs_iload_n X dX7_holds_33 1 rfl ?_
      refine vs_iconst X (v := 0) dX7_holds_34 (by decide) ?_
      refine vs_callVp X  (As := [.int p1, .int 0]) (st' := []) (mtX7_of hl0 p1 0) (cwV 2 X.2.2.2.2.1 gX7_holds_X7_of rfl rfl rfl (by decide +kernel) ⟨Nat.le_of_ble_eq_true rfl, Nat.le_of_ble_eq_true rfl⟩) (by decide) (by decide) rfl rfl rfl (Nat.le_of_ble_eq_true rfl) dX7_holds_35 ⟨Nat.le_of_ble_eq_true rfl, Nat.le_of_ble_eq_true rfl⟩ (fun x4 hx4 => ?_)
      refine vs_if_lt X (tgt := 54) dX7_holds_38 (by decide) (fun _ => ?_) (fun _ => ?_)
      · refine vs_iconst X (v := 1) dX7_holds_54 (by decide) ?_
        refine vs_goto X (tgt := 59) dX7_holds_55 (by decide) ?_
        exact vs_zretp X dX7_holds_59 (by decide) (by decide)
      · refine vs_iload_n X dX7_holds_41 2 rfl ?_
        refine vs_aload_n X dX7_holds_42 0 rfl ?_
        refine vs_iload_n X dX7_holds_43 1 rfl ?_
        refine vs_iconst X (v := 0) dX7_holds_44 (by decide) ?_
        refine vs_callVp X  (As := [.int p1, .int 0]) (st' := [.int p2]) (mtX7_of hl0 p1 0) (cwV 2 X.2.2.2.2.1 gX7_holds_X7_of rfl rfl rfl (by decide +kernel) ⟨Nat.le_of_ble_eq_true rfl, Nat.le_of_ble_eq_true rfl⟩) (by decide) (by decide) rfl rfl rfl (Nat.le_of_ble_eq_true rfl) dX7_holds_45 ⟨Nat.le_of_ble_eq_true rfl, Nat.le_of_ble_eq_true rfl⟩ (fun x5 hx5 => ?_)
        refine vs_callSp X  (As := [.int p2, .int x5]) (st' := []) (mtX7_has hl0 p2 x5) (va_cwS 2 X.2.2.2.2.1 gX7_holds_X7_has rfl rfl rfl (by decide +kernel) ⟨Nat.le_of_ble_eq_true rfl, Nat.le_of_ble_eq_true rfl⟩) rfl (Nat.le_of_ble_eq_true rfl) dX7_holds_48 ⟨Nat.le_of_ble_eq_true rfl, Nat.le_of_ble_eq_true rfl⟩ (fun x6 hx6 => ?_)
        refine vs_if_eq X (tgt := 58) dX7_holds_51 (by decide) (fun _ => ?_) (fun _ => ?_)
        · refine vs_iconst X (v := 0) dX7_holds_58 (by decide) ?_
          exact vs_zretp X dX7_holds_59 (by decide) (by decide)
        · refine vs_iconst X (v := 1) dX7_holds_54 (by decide) ?_
          refine vs_goto X (tgt := 59) dX7_holds_55 (by decide) ?_
          exact vs_zretp X dX7_holds_59 (by decide) (by decide)
    · refine vs_iconst X (v := 0) dX7_holds_58 (by decide) ?_
      exact vs_zretp X dX7_holds_59 (by decide) (by decide)

def lpX7_certified_14 (p1 : Int32) (S : Wo) (w3 : Int32) (K : Int32 → Int32 → Option (Int32)) : Nat → Int32 → Int32 → Option (Int32)
  | 0, _, _ => none
  | f + 1, v2, v4 => (if inb 1 112 = true then (if (S.2.1 167 (ix 1)) ≤ v4 then K v2 v4 else (spX7_holds v4 w3 p1 S).bind (fun x3 => (if x3 = 0 then lpX7_certified_14 p1 S w3 K f v2 (v4 + 1) else (if inb 15 112 = true then (spX7_of v4 1 S).bind (fun x4 => (spX7_has (S.2.1 167 (ix 15)) x4 S).bind (fun x5 => (if x5 = 0 then (spX7_of v4 1 S).bind (fun x6 => lpX7_certified_14 p1 S w3 K f (v2 ||| (1 <<< (x6 &&& 31))) (v4 + 1)) else lpX7_certified_14 p1 S w3 K f v2 (v4 + 1)))) else none)))) else none)
def lpX7_certified_4 (p1 : Int32) (S : Wo)   : Nat → Int32 → Int32 → Option (Int32)
  | 0, _, _ => none
  | f + 1, v2, v3 => (if v2 = v3 then some v2 else lpX7_certified_14 p1 S v2 (fun (u7 : Int32) (u8 : Int32) => lpX7_certified_4 p1 S f u7 v2) 200 v2 0)
def spX7_certified (p1 : Int32) (S : Wo) : Option (Int32) :=
  lpX7_certified_4 p1 S 200 0 (-1)
set_option maxHeartbeats 4000000 in
set_option maxRecDepth 100000 in
theorem mtX7_certified {l : Launch} (hl0 : l.stackTraces = false) {G : Gt} (p1 : Int32) {S : Wo} : ∀ x, spX7_certified p1 S = some x → MI l yX7_certified wsX7_certified { frames := 2, cells := 0, slots := 0, locals := 45 } G S [rf G 166, .int p1] (x, S) 0 0 := by
  refine MIp_of (cc := cX7_certified) (own := RX7) (maxL := 5) (ret := (some .int)) (sp := spX7_certified p1 S) (by decide +kernel) rfl rfl (Nat.le_of_ble_eq_true rfl) ?_
  intro p e s m args below meth c X
  have hinX7 : ∀ w ∈ wsX70, w ∈ wsX7_certified := by decide +kernel
  show VS G p l e _ s m args below meth c 5 _ _ 0 0 S 0 [(0, rf G 166), (1, .int p1)] []
  unfold spX7_certified
  refine vs_iconst X (v := 0) dX7_certified_0 (by decide) ?_
  refine vs_istore_n X (lv' := [(2, .int 0), (0, rf G 166), (1, .int p1)]) dX7_certified_1 (by decide) rfl ?_
  refine vs_iconst X (v := (-1)) dX7_certified_2 (by decide) ?_
  refine vs_istore_n X (lv' := [(3, .int (-1)), (2, .int 0), (0, rf G 166), (1, .int p1)]) dX7_certified_3 (by decide) rfl ?_
  have L1 : ∀ (f : Nat) (v2 : Int32) (v3 : Int32), VS G p l e ({ frames := 2, cells := 0, slots := 0, locals := 45 } : Room) s m args below meth c 5 (fun x => MQ below (QI G (x, S)) args s 0 0 (Af G)) (lpX7_certified_4 p1 S f v2 v3) 0 0 S 4 [(0, rf G 166), (1, .int p1), (2, .int v2), (3, .int v3)] [] := by
    intro f
    induction f with
    | zero => intro v2 v3; exact vs_none rfl
    | succ f ih =>
        intro v2 v3
        rw [lpX7_certified_4]
        refine vs_iload_n X dX7_certified_4 2 rfl ?_
        refine vs_iload_n X dX7_certified_5 3 rfl ?_
        refine vs_icmp_eq X (tgt := 77) dX7_certified_6 (by decide) (fun _ => ?_) (fun _ => ?_)
        · refine vs_iload_n X dX7_certified_77 2 rfl ?_
          exact vs_iretp X dX7_certified_78 (by decide) (by decide)
        · refine vs_iload_n X dX7_certified_9 2 rfl ?_
          refine vs_istore_n X (lv' := [(3, .int v2), (0, rf G 166), (1, .int p1), (2, .int v2)]) dX7_certified_10 (by decide) rfl ?_
          refine vs_iconst X (v := 0) dX7_certified_11 (by decide) ?_
          refine vs_istore X (lv' := [(4, .int 0), (3, .int v2), (0, rf G 166), (1, .int p1), (2, .int v2)]) dX7_certified_12 (by decide) rfl ?_
          have L2 : ∀ (w3 : Int32) (K : Int32 → Int32 → Option (Int32)) (hK : ∀ (v2 : Int32) (v4 : Int32), VS G p l e ({ frames := 2, cells := 0, slots := 0, locals := 45 } : Room) s m args below meth c 5 (fun x => MQ below (QI G (x, S)) args s 0 0 (Af G)) (K v2 v4) 0 0 S 74 [(0, rf G 166), (1, .int p1), (2, .int v2), (3, .int w3), (4, .int v4)] []) (f : Nat) (v2 : Int32) (v4 : Int32), VS G p l e ({ frames := 2, cells := 0, slots := 0, locals := 45 } : Room) s m args below meth c 5 (fun x => MQ below (QI G (x, S)) args s 0 0 (Af G)) (lpX7_certified_14 p1 S w3 K f v2 v4) 0 0 S 14 [(0, rf G 166), (1, .int p1), (2, .int v2), (3, .int w3), (4, .int v4)] [] := by
            intro w3 K hK f
            induction f with
            | zero => intro v2 v4; exact vs_none rfl
            | succ f ih =>
                intro v2 v4
                rw [lpX7_certified_14]
                refine vs_iload X dX7_certified_14 4 rfl ?_
                refine vs_aload_n X dX7_certified_16 0 rfl ?_
                refine g_Mod  X hinX7 0 (by decide) (by decide +kernel) rfl rfl dX7_certified_17 ?_
                refine vs_iconst X (v := 1) dX7_certified_20 (by decide) ?_
                refine vs_iald X (by decide) (by decide) rfl dX7_certified_21 ?_
                refine vs_icmp_ge X (tgt := 74) dX7_certified_22 (by decide) (fun _ => ?_) (fun _ => ?_)
                · refine vs_sub [0, 1, 2, 3, 4] (lv' := [(0, rf G 166), (1, .int p1), (2, .int v2), (3, .int w3), (4, .int v4)]) rfl ?_
                  exact hK v2 v4
                · refine vs_aload_n X dX7_certified_25 0 rfl ?_
                  refine vs_iload X dX7_certified_26 4 rfl ?_
                  refine vs_iload_n X dX7_certified_28 3 rfl ?_
                  refine vs_iload_n X dX7_certified_29 1 rfl ?_
                  refine vs_callVp X  (As := [.int v4, .int w3, .int p1]) (st' := []) (mtX7_holds hl0 v4 w3 p1) (cwV 3 X.2.2.2.2.1 gX7_certified_X7_holds rfl rfl rfl (by decide +kernel) ⟨Nat.le_of_ble_eq_true rfl, Nat.le_of_ble_eq_true rfl⟩) (by decide) (by decide) rfl rfl rfl (Nat.le_of_ble_eq_true rfl) dX7_certified_30 ⟨Nat.le_of_ble_eq_true rfl, Nat.le_of_ble_eq_true rfl⟩ (fun x3 hx3 => ?_)
                  refine vs_if_eq X (tgt := 68) dX7_certified_33 (by decide) (fun _ => ?_) (fun _ => ?_)
                  · refine vs_iinc X (v := (v4 + 1)) (lv' := [(4, .int (v4 + 1)), (0, rf G 166), (1, .int p1), (2, .int v2), (3, .int w3)]) dX7_certified_68 4 rfl rfl (by decide) rfl ?_
                    refine vs_goto X (tgt := 14) dX7_certified_71 (by decide) ?_
                    refine vs_sub [1, 2, 3, 4, 0] (lv' := [(0, rf G 166), (1, .int p1), (2, .int v2), (3, .int w3), (4, .int (v4 + 1))]) rfl ?_
                    exact ih v2 (v4 + 1)
                  · refine vs_aload_n X dX7_certified_36 0 rfl ?_
                    refine g_Mod  X hinX7 0 (by decide) (by decide +kernel) rfl rfl dX7_certified_37 ?_
                    refine vs_bipush X (v := 15) dX7_certified_40 (by decide) ?_
                    refine vs_iald X (by decide) (by decide) rfl dX7_certified_42 ?_
                    refine vs_aload_n X dX7_certified_43 0 rfl ?_
                    refine vs_iload X dX7_certified_44 4 rfl ?_
                    refine vs_iconst X (v := 1) dX7_certified_46 (by decide) ?_
                    refine vs_callVp X  (As := [.int v4, .int 1]) (st' := [.int (S.2.1 167 (ix 15))]) (mtX7_of hl0 v4 1) (cwV 2 X.2.2.2.2.1 gX7_certified_X7_of rfl rfl rfl (by decide +kernel) ⟨Nat.le_of_ble_eq_true rfl, Nat.le_of_ble_eq_true rfl⟩) (by decide) (by decide) rfl rfl rfl (Nat.le_of_ble_eq_true rfl) dX7_certified_47 ⟨Nat.le_of_ble_eq_true rfl, Nat.le_of_ble_eq_true rfl⟩ (fun x4 hx4 => ?_)
                    refine vs_callSp X  (As := [.int (S.2.1 167 (ix 15)), .int x4]) (st' := []) (mtX7_has hl0 (S.2.1 167 (ix 15)) x4) (va_cwS 2 X.2.2.2.2.1 gX7_certified_X7_has rfl rfl rfl (by decide +kernel) ⟨Nat.le_of_ble_eq_true rfl, Nat.le_of_ble_eq_true rfl⟩) rfl (Nat.le_of_ble_eq_true rfl) dX7_certified_50 ⟨Nat.le_of_ble_eq_true rfl, Nat.le_of_ble_eq_true rfl⟩ (fun x5 hx5 => ?_)
                    refine vs_if_ne X (tgt := 68) dX7_certified_53 (by decide) (fun _ => ?_) (fun _ => ?_)
                    · refine vs_iload_n X dX7_certified_56 2 rfl ?_
                      refine vs_iconst X (v := 1) dX7_certified_57 (by decide) ?_
                      refine vs_aload_n X dX7_certified_58 0 rfl ?_
                      refine vs_iload X dX7_certified_59 4 rfl ?_
                      refine vs_iconst X (v := 1) dX7_certified_61 (by decide) ?_
                      refine vs_callVp X  (As := [.int v4, .int 1]) (st' := [.int 1, .int v2]) (mtX7_of hl0 v4 1) (cwV 2 X.2.2.2.2.1 gX7_certified_X7_of rfl rfl rfl (by decide +kernel) ⟨Nat.le_of_ble_eq_true rfl, Nat.le_of_ble_eq_true rfl⟩) (by decide) (by decide) rfl rfl rfl (Nat.le_of_ble_eq_true rfl) dX7_certified_62 ⟨Nat.le_of_ble_eq_true rfl, Nat.le_of_ble_eq_true rfl⟩ (fun x6 hx6 => ?_)
                      refine vs_ishl X dX7_certified_65 ?_
                      refine vs_ior X dX7_certified_66 ?_
                      refine vs_istore_n X (lv' := [(2, .int (v2 ||| (1 <<< (x6 &&& 31)))), (0, rf G 166), (1, .int p1), (3, .int w3), (4, .int v4)]) dX7_certified_67 (by decide) rfl ?_
                      refine vs_iinc X (v := (v4 + 1)) (lv' := [(4, .int (v4 + 1)), (2, .int (v2 ||| (1 <<< (x6 &&& 31)))), (0, rf G 166), (1, .int p1), (3, .int w3)]) dX7_certified_68 4 rfl rfl (by decide) rfl ?_
                      refine vs_goto X (tgt := 14) dX7_certified_71 (by decide) ?_
                      refine vs_sub [2, 3, 1, 4, 0] (lv' := [(0, rf G 166), (1, .int p1), (2, .int (v2 ||| (1 <<< (x6 &&& 31)))), (3, .int w3), (4, .int (v4 + 1))]) rfl ?_
                      exact ih (v2 ||| (1 <<< (x6 &&& 31))) (v4 + 1)
                    · refine vs_iinc X (v := (v4 + 1)) (lv' := [(4, .int (v4 + 1)), (0, rf G 166), (1, .int p1), (2, .int v2), (3, .int w3)]) dX7_certified_68 4 rfl rfl (by decide) rfl ?_
                      refine vs_goto X (tgt := 14) dX7_certified_71 (by decide) ?_
                      refine vs_sub [1, 2, 3, 4, 0] (lv' := [(0, rf G 166), (1, .int p1), (2, .int v2), (3, .int w3), (4, .int (v4 + 1))]) rfl ?_
                      exact ih v2 (v4 + 1)
          refine vs_sub [2, 3, 4, 1, 0] (lv' := [(0, rf G 166), (1, .int p1), (2, .int v2), (3, .int v2), (4, .int 0)]) rfl ?_
          refine L2 v2 (fun (u7 : Int32) (u8 : Int32) => lpX7_certified_4 p1 S f u7 v2) (fun u7 u8 => ?_) 200 v2 0
          refine vs_goto X (tgt := 4) dX7_certified_74 (by decide) ?_
          refine vs_sub [0, 1, 2, 3] (lv' := [(0, rf G 166), (1, .int p1), (2, .int u7), (3, .int v2)]) rfl ?_
          exact ih u7 v2
  refine vs_sub [2, 3, 1, 0] (lv' := [(0, rf G 166), (1, .int p1), (2, .int 0), (3, .int (-1))]) rfl ?_
  exact L1 200 0 (-1)

def spX7_register (p1 : Int32) (S : Wo) : Option (Int32 × Wo) :=
  (spX7_isField p1 S).bind (fun x1 => jn (β := Int32 → Option (Int32 × Wo)) (fun (x2 : Int32) => bd2 (spX7_fails x2 S) (fun x4 S5 => (if x4 = 0 then (if inb 0 112 = true then (if (S5.2.1 167 (ix 0)) = 10 then bd2 (spX7_denies 2 1 10 S5) (fun x6 S7 => some (x6, S7)) else (spX7_standing p1 S5).bind (fun x8 => (if x8 < 0 then (spX7_keeps 167 112 S5).bind (fun S9 => (if inb 0 112 = true then (if inb (5 + (S9.2.1 167 (ix 0))) 112 = true then wr (pF S9 167 (upd (S9.2.1 167) (ix (5 + (S9.2.1 167 (ix 0)))) p1)) (fun S10 => (if inb 0 112 = true then (if inb 0 112 = true then wr (pF S10 167 (upd (S10.2.1 167) (ix 0) ((S10.2.1 167 (ix 0)) + 1))) (fun S11 => (if inb 0 112 = true then some (((S11.2.1 167 (ix 0)) - 1), S11) else none)) else none) else none)) else none) else none)) else (spX7_standing p1 S5).bind (fun x12 => bd2 (spX7_denies 2 2 x12 S5) (fun x13 S14 => some (x13, S14)))))) else none) else some (0, S5)))) (fun k3 => (if x1 = 0 then k3 1 else k3 0)))
set_option maxHeartbeats 4000000 in
set_option maxRecDepth 100000 in
theorem mtX7_register {l : Launch} (hl0 : l.stackTraces = false) {G : Gt} (p1 : Int32) {S : Wo} : ∀ rr, spX7_register p1 S = some rr → MI l yX7_register wsX7_register { frames := 2, cells := 0, slots := 0, locals := 46 } G S [rf G 166, .int p1] rr 0 0 := by
  refine MI_of (cc := cX7_register) (own := RX7) (maxL := 2) (ret := (some .int)) (sp := spX7_register p1 S) (by decide +kernel) rfl rfl (Nat.le_of_ble_eq_true rfl) ?_
  intro p e s m args below meth c X
  have hinX7 : ∀ w ∈ wsX70, w ∈ wsX7_register := by decide +kernel
  show VS G p l e _ s m args below meth c 2 _ _ 0 0 S 0 [(0, rf G 166), (1, .int p1)] []
  unfold spX7_register
  refine vs_aload_n X dX7_register_0 0 rfl ?_
  refine vs_iload_n X dX7_register_1 1 rfl ?_
  refine vs_callSp X  (As := [.int p1]) (st' := [rf G 166]) (mtX7_isField hl0 p1) (va_cwS 1 X.2.2.2.2.1 gX7_register_X7_isField rfl rfl rfl (by decide +kernel) ⟨Nat.le_of_ble_eq_true rfl, Nat.le_of_ble_eq_true rfl⟩) rfl (Nat.le_of_ble_eq_true rfl) dX7_register_2 ⟨Nat.le_of_ble_eq_true rfl, Nat.le_of_ble_eq_true rfl⟩ (fun x1 hx1 => ?_)
  refine vs_jn (β := Int32 → Option (Int32 × Wo)) (P := fun k3 => ∀ (x2 : Int32), VS G p l e ({ frames := 2, cells := 0, slots := 0, locals := 46 } : Room) s m args below meth c 2 (fun r => MQ below (QI G r) args s 0 0 (Af G)) (k3 x2) 0 0 S 13 [(0, rf G 166), (1, .int p1)] [.int x2, rf G 166]) (fun x2 => ?_) (fun k3 hk3 => ?_)
  · refine vs_callVi X  (As := [.int x2]) (st' := []) (mtX7_fails hl0 x2) (cwV 1 X.2.2.2.2.1 gX7_register_X7_fails rfl rfl rfl (by decide +kernel) ⟨Nat.le_of_ble_eq_true rfl, Nat.le_of_ble_eq_true rfl⟩) (by decide) (by decide) rfl rfl rfl (Nat.le_of_ble_eq_true rfl) dX7_register_13 ⟨Nat.le_of_ble_eq_true rfl, Nat.le_of_ble_eq_true rfl⟩ (fun x4 S5 hx4 => ?_)
    refine vs_if_eq X (tgt := 21) dX7_register_16 (by decide) (fun _ => ?_) (fun _ => ?_)
    · refine vs_aload_n X dX7_register_21 0 rfl ?_
      refine g_Mod  X hinX7 0 (by decide) (by decide +kernel) rfl rfl dX7_register_22 ?_
      refine vs_iconst X (v := 0) dX7_register_25 (by decide) ?_
      refine vs_iald X (by decide) (by decide) rfl dX7_register_26 ?_
      refine vs_bipush X (v := 10) dX7_register_27 (by decide) ?_
      refine vs_icmp_ne X (tgt := 41) dX7_register_29 (by decide) (fun _ => ?_) (fun _ => ?_)
      · refine vs_aload_n X dX7_register_32 0 rfl ?_
        refine vs_iconst X (v := 2) dX7_register_33 (by decide) ?_
        refine vs_iconst X (v := 1) dX7_register_34 (by decide) ?_
        refine vs_bipush X (v := 10) dX7_register_35 (by decide) ?_
        refine vs_callVi X  (As := [.int 2, .int 1, .int 10]) (st' := []) (mtX7_denies hl0 2 1 10) (cwV 3 X.2.2.2.2.1 gX7_register_X7_denies rfl rfl rfl (by decide +kernel) ⟨Nat.le_of_ble_eq_true rfl, Nat.le_of_ble_eq_true rfl⟩) (by decide) (by decide) rfl rfl rfl (Nat.le_of_ble_eq_true rfl) dX7_register_37 ⟨Nat.le_of_ble_eq_true rfl, Nat.le_of_ble_eq_true rfl⟩ (fun x6 S7 hx6 => ?_)
        exact vs_iret X dX7_register_40 (by decide) (by decide)
      · refine vs_aload_n X dX7_register_41 0 rfl ?_
        refine vs_iload_n X dX7_register_42 1 rfl ?_
        refine vs_callVp X  (As := [.int p1]) (st' := []) (mtX7_standing hl0 p1) (cwV 1 X.2.2.2.2.1 gX7_register_X7_standing rfl rfl rfl (by decide +kernel) ⟨Nat.le_of_ble_eq_true rfl, Nat.le_of_ble_eq_true rfl⟩) (by decide) (by decide) rfl rfl rfl (Nat.le_of_ble_eq_true rfl) dX7_register_43 ⟨Nat.le_of_ble_eq_true rfl, Nat.le_of_ble_eq_true rfl⟩ (fun x8 hx8 => ?_)
        refine vs_if_lt X (tgt := 61) dX7_register_46 (by decide) (fun _ => ?_) (fun _ => ?_)
        · refine vs_aload_n X dX7_register_61 0 rfl ?_
          refine vs_aload_n X dX7_register_62 0 rfl ?_
          refine g_Mod  X hinX7 0 (by decide) (by decide +kernel) rfl rfl dX7_register_63 ?_
          refine vs_callVv X  (As := [rf G 167]) (st' := []) (mtX7_keeps hl0 isIA_167) (cwV 1 X.2.2.2.2.1 gX7_register_X7_keeps rfl rfl rfl (by decide +kernel) ⟨Nat.le_of_ble_eq_true rfl, Nat.le_of_ble_eq_true rfl⟩) (by decide) (by decide) rfl rfl rfl (Nat.le_of_ble_eq_true rfl) dX7_register_66 ⟨Nat.le_of_ble_eq_true rfl, Nat.le_of_ble_eq_true rfl⟩ (fun S9 hS9 => ?_)
          refine vs_aload_n X dX7_register_69 0 rfl ?_
          refine g_Mod  X hinX7 0 (by decide) (by decide +kernel) rfl rfl dX7_register_70 ?_
          refine vs_iconst X (v := 5) dX7_register_73 (by decide) ?_
          refine vs_aload_n X dX7_register_74 0 rfl ?_
          refine g_Mod  X hinX7 0 (by decide) (by decide +kernel) rfl rfl dX7_register_75 ?_
          refine vs_iconst X (v := 0) dX7_register_78 (by decide) ?_
          refine vs_iald X (by decide) (by decide) rfl dX7_register_79 ?_
          refine vs_iadd X dX7_register_80 ?_
          refine vs_iload_n X dX7_register_81 1 rfl ?_
          refine vs_iast X (by decide) (by decide) (fun _ => rfl) dX7_register_82 (fun S10 hS10 => ?_)
          refine vs_aload_n X dX7_register_83 0 rfl ?_
          refine g_Mod  X hinX7 0 (by decide) (by decide +kernel) rfl rfl dX7_register_84 ?_
          refine vs_iconst X (v := 0) dX7_register_87 (by decide) ?_
          refine vs_dup2 X dX7_register_88 rfl rfl ?_
          refine vs_iald X (by decide) (by decide) rfl dX7_register_89 ?_
          refine vs_iconst X (v := 1) dX7_register_90 (by decide) ?_
          refine vs_iadd X dX7_register_91 ?_
          refine vs_iast X (by decide) (by decide) (fun _ => rfl) dX7_register_92 (fun S11 hS11 => ?_)
          refine vs_aload_n X dX7_register_93 0 rfl ?_
          refine g_Mod  X hinX7 0 (by decide) (by decide +kernel) rfl rfl dX7_register_94 ?_
          refine vs_iconst X (v := 0) dX7_register_97 (by decide) ?_
          refine vs_iald X (by decide) (by decide) rfl dX7_register_98 ?_
          refine vs_iconst X (v := 1) dX7_register_99 (by decide) ?_
          refine vs_isub X dX7_register_100 ?_
          exact vs_iret X dX7_register_101 (by decide) (by decide)
        · refine vs_aload_n X dX7_register_49 0 rfl ?_
          refine vs_iconst X (v := 2) dX7_register_50 (by decide) ?_
          refine vs_iconst X (v := 2) dX7_register_51 (by decide) ?_
          refine vs_aload_n X dX7_register_52 0 rfl ?_
          refine vs_iload_n X dX7_register_53 1 rfl ?_
          refine vs_callVp X  (As := [.int p1]) (st' := [.int 2, .int 2, rf G 166]) (mtX7_standing hl0 p1) (cwV 1 X.2.2.2.2.1 gX7_register_X7_standing rfl rfl rfl (by decide +kernel) ⟨Nat.le_of_ble_eq_true rfl, Nat.le_of_ble_eq_true rfl⟩) (by decide) (by decide) rfl rfl rfl (Nat.le_of_ble_eq_true rfl) dX7_register_54 ⟨Nat.le_of_ble_eq_true rfl, Nat.le_of_ble_eq_true rfl⟩ (fun x12 hx12 => ?_)
          refine vs_callVi X  (As := [.int 2, .int 2, .int x12]) (st' := []) (mtX7_denies hl0 2 2 x12) (cwV 3 X.2.2.2.2.1 gX7_register_X7_denies rfl rfl rfl (by decide +kernel) ⟨Nat.le_of_ble_eq_true rfl, Nat.le_of_ble_eq_true rfl⟩) (by decide) (by decide) rfl rfl rfl (Nat.le_of_ble_eq_true rfl) dX7_register_57 ⟨Nat.le_of_ble_eq_true rfl, Nat.le_of_ble_eq_true rfl⟩ (fun x13 S14 hx13 => ?_)
          exact vs_iret X dX7_register_60 (by decide) (by decide)
    · refine vs_iconst X (v := 0) dX7_register_19 (by decide) ?_
      exact vs_iret X dX7_register_20 (by decide) (by decide)
  · refine vs_if_eq X (tgt := 12) dX7_register_5 (by decide) (fun _ => ?_) (fun _ => ?_)
    · refine vs_iconst X (v := 1) dX7_register_12 (by decide) ?_
      exact vs_join [0, 1] (Nat.le_of_ble_eq_true rfl) (Nat.le_of_ble_eq_true rfl) rfl (hk3 1)
    · refine vs_iconst X (v := 0) dX7_register_8 (by decide) ?_
      refine vs_goto X (tgt := 13) dX7_register_9 (by decide) ?_
      exact vs_join [0, 1] (Nat.le_of_ble_eq_true rfl) (Nat.le_of_ble_eq_true rfl) rfl (hk3 0)

def spX7_move (p1 : Int32) (p2 : Int32) (S : Wo) : Option (Int32 × Wo) :=
  (spX7_isCrow p1 S).bind (fun x1 => jn (β := Int32 → Option (Int32 × Wo)) (fun (x3 : Int32) => bd2 (spX7_fails x3 S) (fun x5 S6 => (if x5 = 0 then (spX7_standing p2 S6).bind (fun x7 => (if x7 < 0 then (if inb (5 + p1) 112 = true then (spX7_keeps 167 112 S6).bind (fun S8 => (if inb (5 + p1) 112 = true then wr (pF S8 167 (upd (S8.2.1 167) (ix (5 + p1)) p2)) (fun S9 => some ((S6.2.1 167 (ix (5 + p1))), S9)) else none)) else none) else (spX7_standing p2 S6).bind (fun x10 => bd2 (spX7_denies 3 2 x10 S6) (fun x11 S12 => some (x11, S12))))) else some (0, S6)))) (fun k4 => (if x1 = 0 then k4 1 else (spX7_isField p2 S).bind (fun x2 => (if x2 = 0 then k4 2 else k4 0)))))
set_option maxHeartbeats 4000000 in
set_option maxRecDepth 100000 in
theorem mtX7_move {l : Launch} (hl0 : l.stackTraces = false) {G : Gt} (p1 : Int32) (p2 : Int32) {S : Wo} : ∀ rr, spX7_move p1 p2 S = some rr → MI l yX7_move wsX7_move { frames := 2, cells := 0, slots := 0, locals := 46 } G S [rf G 166, .int p1, .int p2] rr 0 0 := by
  refine MI_of (cc := cX7_move) (own := RX7) (maxL := 4) (ret := (some .int)) (sp := spX7_move p1 p2 S) (by decide +kernel) rfl rfl (Nat.le_of_ble_eq_true rfl) ?_
  intro p e s m args below meth c X
  have hinX7 : ∀ w ∈ wsX70, w ∈ wsX7_move := by decide +kernel
  show VS G p l e _ s m args below meth c 4 _ _ 0 0 S 0 [(0, rf G 166), (1, .int p1), (2, .int p2)] []
  unfold spX7_move
  refine vs_aload_n X dX7_move_0 0 rfl ?_
  refine vs_aload_n X dX7_move_1 0 rfl ?_
  refine vs_iload_n X dX7_move_2 1 rfl ?_
  refine vs_callVp X  (As := [.int p1]) (st' := [rf G 166]) (mtX7_isCrow hl0 p1) (cwV 1 X.2.2.2.2.1 gX7_move_X7_isCrow rfl rfl rfl (by decide +kernel) ⟨Nat.le_of_ble_eq_true rfl, Nat.le_of_ble_eq_true rfl⟩) (by decide) (by decide) rfl rfl rfl (Nat.le_of_ble_eq_true rfl) dX7_move_3 ⟨Nat.le_of_ble_eq_true rfl, Nat.le_of_ble_eq_true rfl⟩ (fun x1 hx1 => ?_)
  refine vs_jn (β := Int32 → Option (Int32 × Wo)) (P := fun k4 => ∀ (x3 : Int32), VS G p l e ({ frames := 2, cells := 0, slots := 0, locals := 46 } : Room) s m args below meth c 4 (fun r => MQ below (QI G r) args s 0 0 (Af G)) (k4 x3) 0 0 S 25 [(0, rf G 166), (1, .int p1), (2, .int p2)] [.int x3, rf G 166]) (fun x3 => ?_) (fun k4 hk4 => ?_)
  · refine vs_callVi X  (As := [.int x3]) (st' := []) (mtX7_fails hl0 x3) (cwV 1 X.2.2.2.2.1 gX7_move_X7_fails rfl rfl rfl (by decide +kernel) ⟨Nat.le_of_ble_eq_true rfl, Nat.le_of_ble_eq_true rfl⟩) (by decide) (by decide) rfl rfl rfl (Nat.le_of_ble_eq_true rfl) dX7_move_25 ⟨Nat.le_of_ble_eq_true rfl, Nat.le_of_ble_eq_true rfl⟩ (fun x5 S6 hx5 => ?_)
    refine vs_if_eq X (tgt := 33) dX7_move_28 (by decide) (fun _ => ?_) (fun _ => ?_)
    · refine vs_aload_n X dX7_move_33 0 rfl ?_
      refine vs_iload_n X dX7_move_34 2 rfl ?_
      refine vs_callVp X  (As := [.int p2]) (st' := []) (mtX7_standing hl0 p2) (cwV 1 X.2.2.2.2.1 gX7_move_X7_standing rfl rfl rfl (by decide +kernel) ⟨Nat.le_of_ble_eq_true rfl, Nat.le_of_ble_eq_true rfl⟩) (by decide) (by decide) rfl rfl rfl (Nat.le_of_ble_eq_true rfl) dX7_move_35 ⟨Nat.le_of_ble_eq_true rfl, Nat.le_of_ble_eq_true rfl⟩ (fun x7 hx7 => ?_)
      refine vs_if_lt X (tgt := 53) dX7_move_38 (by decide) (fun _ => ?_) (fun _ => ?_)
      · refine vs_aload_n X dX7_move_53 0 rfl ?_
        refine g_Mod  X hinX7 0 (by decide) (by decide +kernel) rfl rfl dX7_move_54 ?_
        refine vs_iconst X (v := 5) dX7_move_57 (by decide) ?_
        refine vs_iload_n X dX7_move_58 1 rfl ?_
        refine vs_iadd X dX7_move_59 ?_
        refine vs_iald X (by decide) (by decide) rfl dX7_move_60 ?_
        refine vs_istore_n X (lv' := [(3, .int (S6.2.1 167 (ix (5 + p1)))), (0, rf G 166), (1, .int p1), (2, .int p2)]) dX7_move_61 (by decide) rfl ?_
        refine vs_aload_n X dX7_move_62 1 rfl ?_
        refine vs_aload_n X dX7_move_63 1 rfl ?_
        refine g_Mod  X hinX7 0 (by decide) (by decide +kernel) rfl rfl dX7_move_64 ?_
        refine vs_callVv X  (As := [rf G 167]) (st' := []) (mtX7_keeps hl0 isIA_167) (cwV 1 X.2.2.2.2.1 gX7_move_X7_keeps rfl rfl rfl (by decide +kernel) ⟨Nat.le_of_ble_eq_true rfl, Nat.le_of_ble_eq_true rfl⟩) (by decide) (by decide) rfl rfl rfl (Nat.le_of_ble_eq_true rfl) dX7_move_67 ⟨Nat.le_of_ble_eq_true rfl, Nat.le_of_ble_eq_true rfl⟩ (fun S8 hS8 => ?_)
        refine vs_aload_n X dX7_move_70 1 rfl ?_
        refine g_Mod  X hinX7 0 (by decide) (by decide +kernel) rfl rfl dX7_move_71 ?_
        refine vs_iconst X (v := 5) dX7_move_74 (by decide) ?_
        refine vs_iload_n X dX7_move_75 2 rfl ?_
        refine vs_iadd X dX7_move_76 ?_
        refine vs_iload_n X dX7_move_77 3 rfl ?_
        refine vs_iast X (by decide) (by decide) (fun _ => rfl) dX7_move_78 (fun S9 hS9 => ?_)
        refine vs_iload_n X dX7_move_79 0 rfl ?_
        exact vs_iret X dX7_move_80 (by decide) (by decide)
      · refine vs_aload_n X dX7_move_41 0 rfl ?_
        refine vs_iconst X (v := 3) dX7_move_42 (by decide) ?_
        refine vs_iconst X (v := 2) dX7_move_43 (by decide) ?_
        refine vs_aload_n X dX7_move_44 0 rfl ?_
        refine vs_iload_n X dX7_move_45 2 rfl ?_
        refine vs_callVp X  (As := [.int p2]) (st' := [.int 2, .int 3, rf G 166]) (mtX7_standing hl0 p2) (cwV 1 X.2.2.2.2.1 gX7_move_X7_standing rfl rfl rfl (by decide +kernel) ⟨Nat.le_of_ble_eq_true rfl, Nat.le_of_ble_eq_true rfl⟩) (by decide) (by decide) rfl rfl rfl (Nat.le_of_ble_eq_true rfl) dX7_move_46 ⟨Nat.le_of_ble_eq_true rfl, Nat.le_of_ble_eq_true rfl⟩ (fun x10 hx10 => ?_)
        refine vs_callVi X  (As := [.int 3, .int 2, .int x10]) (st' := []) (mtX7_denies hl0 3 2 x10) (cwV 3 X.2.2.2.2.1 gX7_move_X7_denies rfl rfl rfl (by decide +kernel) ⟨Nat.le_of_ble_eq_true rfl, Nat.le_of_ble_eq_true rfl⟩) (by decide) (by decide) rfl rfl rfl (Nat.le_of_ble_eq_true rfl) dX7_move_49 ⟨Nat.le_of_ble_eq_true rfl, Nat.le_of_ble_eq_true rfl⟩ (fun x11 S12 hx11 => ?_)
        exact vs_iret X dX7_move_52 (by decide) (by decide)
    · refine vs_iconst X (v := 0) dX7_move_31 (by decide) ?_
      exact vs_iret X dX7_move_32 (by decide) (by decide)
  · refine vs_if_ne X (tgt := 13) dX7_move_6 (by decide) (fun _ => ?_) (fun _ => ?_)
    · refine vs_iconst X (v := 1) dX7_move_9 (by decide) ?_
      refine vs_goto X (tgt := 25) dX7_move_10 (by decide) ?_
      exact vs_join [0, 1, 2] (Nat.le_of_ble_eq_true rfl) (Nat.le_of_ble_eq_true rfl) rfl (hk4 1)
    · refine vs_iload_n X dX7_move_13 2 rfl ?_
      refine vs_callSp X  (As := [.int p2]) (st' := [rf G 166]) (mtX7_isField hl0 p2) (va_cwS 1 X.2.2.2.2.1 gX7_move_X7_isField rfl rfl rfl (by decide +kernel) ⟨Nat.le_of_ble_eq_true rfl, Nat.le_of_ble_eq_true rfl⟩) rfl (Nat.le_of_ble_eq_true rfl) dX7_move_14 ⟨Nat.le_of_ble_eq_true rfl, Nat.le_of_ble_eq_true rfl⟩ (fun x2 hx2 => ?_)
      refine vs_if_eq X (tgt := 24) dX7_move_17 (by decide) (fun _ => ?_) (fun _ => ?_)
      · refine vs_iconst X (v := 2) dX7_move_24 (by decide) ?_
        exact vs_join [0, 1, 2] (Nat.le_of_ble_eq_true rfl) (Nat.le_of_ble_eq_true rfl) rfl (hk4 2)
      · refine vs_iconst X (v := 0) dX7_move_20 (by decide) ?_
        refine vs_goto X (tgt := 25) dX7_move_21 (by decide) ?_
        exact vs_join [0, 1, 2] (Nat.le_of_ble_eq_true rfl) (Nat.le_of_ble_eq_true rfl) rfl (hk4 0)

def spX7_setRevoked (p1 : Int32) (p2 : Int32) (S : Wo) : Option (Int32 × Wo) :=
  bd2 (spX7_isNone p1 S) (fun x1 S2 => (if x1 = 0 then (if inb 15 112 = true then (spX7_has (S2.2.1 167 (ix 15)) p1 S2).bind (fun x3 => (if x3 = p2 then (if p2 = 0 then bd2 (spX7_denies 2 5 0 S2) (fun x4 S5 => some (x4, S5)) else bd2 (spX7_denies 2 5 1 S2) (fun x6 S7 => some (x6, S7))) else (spX7_keeps 167 112 S2).bind (fun S8 => (if inb 15 112 = true then (if inb 15 112 = true then wr (pF S8 167 (upd (S8.2.1 167) (ix 15) ((S8.2.1 167 (ix 15)) ^^^ (1 <<< (p1 &&& 31))))) (fun S9 => (if inb 2 112 = true then (spX7_certified (S9.2.1 167 (ix 2)) S9).bind (fun x10 => (spX7_bits x10 S9).bind (fun x11 => some (x11, S9))) else none)) else none) else none)))) else none) else some (0, S2)))
set_option maxHeartbeats 4000000 in
set_option maxRecDepth 100000 in
theorem mtX7_setRevoked {l : Launch} (hl0 : l.stackTraces = false) {G : Gt} (p1 : Int32) (p2 : Int32) {S : Wo} : ∀ rr, spX7_setRevoked p1 p2 S = some rr → MI l yX7_setRevoked wsX7_setRevoked { frames := 3, cells := 0, slots := 0, locals := 69 } G S [rf G 166, .int p1, .int p2] rr 0 0 := by
  refine MI_of (cc := cX7_setRevoked) (own := RX7) (maxL := 3) (ret := (some .int)) (sp := spX7_setRevoked p1 p2 S) (by decide +kernel) rfl rfl (Nat.le_of_ble_eq_true rfl) ?_
  intro p e s m args below meth c X
  have hinX7 : ∀ w ∈ wsX70, w ∈ wsX7_setRevoked := by decide +kernel
  show VS G p l e _ s m args below meth c 3 _ _ 0 0 S 0 [(0, rf G 166), (1, .int p1), (2, .int p2)] []
  unfold spX7_setRevoked
  refine vs_aload_n X dX7_setRevoked_0 0 rfl ?_
  refine vs_iload_n X dX7_setRevoked_1 1 rfl ?_
  refine vs_callVi X  (As := [.int p1]) (st' := []) (mtX7_isNone hl0 p1) (cwV 1 X.2.2.2.2.1 gX7_setRevoked_X7_isNone rfl rfl rfl (by decide +kernel) ⟨Nat.le_of_ble_eq_true rfl, Nat.le_of_ble_eq_true rfl⟩) (by decide) (by decide) rfl rfl rfl (Nat.le_of_ble_eq_true rfl) dX7_setRevoked_2 ⟨Nat.le_of_ble_eq_true rfl, Nat.le_of_ble_eq_true rfl⟩ (fun x1 S2 hx1 => ?_)
  refine vs_if_eq X (tgt := 10) dX7_setRevoked_5 (by decide) (fun _ => ?_) (fun _ => ?_)
  · refine vs_aload_n X dX7_setRevoked_10 0 rfl ?_
    refine g_Mod  X hinX7 0 (by decide) (by decide +kernel) rfl rfl dX7_setRevoked_11 ?_
    refine vs_bipush X (v := 15) dX7_setRevoked_14 (by decide) ?_
    refine vs_iald X (by decide) (by decide) rfl dX7_setRevoked_16 ?_
    refine vs_iload_n X dX7_setRevoked_17 1 rfl ?_
    refine vs_callSp X  (As := [.int (S2.2.1 167 (ix 15)), .int p1]) (st' := []) (mtX7_has hl0 (S2.2.1 167 (ix 15)) p1) (va_cwS 2 X.2.2.2.2.1 gX7_setRevoked_X7_has rfl rfl rfl (by decide +kernel) ⟨Nat.le_of_ble_eq_true rfl, Nat.le_of_ble_eq_true rfl⟩) rfl (Nat.le_of_ble_eq_true rfl) dX7_setRevoked_18 ⟨Nat.le_of_ble_eq_true rfl, Nat.le_of_ble_eq_true rfl⟩ (fun x3 hx3 => ?_)
    refine vs_iload_n X dX7_setRevoked_21 2 rfl ?_
    refine vs_icmp_ne X (tgt := 41) dX7_setRevoked_22 (by decide) (fun _ => ?_) (fun _ => ?_)
    · refine vs_aload_n X dX7_setRevoked_25 0 rfl ?_
      refine vs_iconst X (v := 2) dX7_setRevoked_26 (by decide) ?_
      refine vs_iconst X (v := 5) dX7_setRevoked_27 (by decide) ?_
      refine vs_iload_n X dX7_setRevoked_28 2 rfl ?_
      refine vs_if_eq X (tgt := 36) dX7_setRevoked_29 (by decide) (fun _ => ?_) (fun _ => ?_)
      · refine vs_iconst X (v := 0) dX7_setRevoked_36 (by decide) ?_
        refine vs_callVi X  (As := [.int 2, .int 5, .int 0]) (st' := []) (mtX7_denies hl0 2 5 0) (cwV 3 X.2.2.2.2.1 gX7_setRevoked_X7_denies rfl rfl rfl (by decide +kernel) ⟨Nat.le_of_ble_eq_true rfl, Nat.le_of_ble_eq_true rfl⟩) (by decide) (by decide) rfl rfl rfl (Nat.le_of_ble_eq_true rfl) dX7_setRevoked_37 ⟨Nat.le_of_ble_eq_true rfl, Nat.le_of_ble_eq_true rfl⟩ (fun x4 S5 hx4 => ?_)
        exact vs_iret X dX7_setRevoked_40 (by decide) (by decide)
      · refine vs_iconst X (v := 1) dX7_setRevoked_32 (by decide) ?_
        refine vs_goto X (tgt := 37) dX7_setRevoked_33 (by decide) ?_
        refine vs_callVi X  (As := [.int 2, .int 5, .int 1]) (st' := []) (mtX7_denies hl0 2 5 1) (cwV 3 X.2.2.2.2.1 gX7_setRevoked_X7_denies rfl rfl rfl (by decide +kernel) ⟨Nat.le_of_ble_eq_true rfl, Nat.le_of_ble_eq_true rfl⟩) (by decide) (by decide) rfl rfl rfl (Nat.le_of_ble_eq_true rfl) dX7_setRevoked_37 ⟨Nat.le_of_ble_eq_true rfl, Nat.le_of_ble_eq_true rfl⟩ (fun x6 S7 hx6 => ?_)
        exact vs_iret X dX7_setRevoked_40 (by decide) (by decide)
    · refine vs_aload_n X dX7_setRevoked_41 0 rfl ?_
      refine vs_aload_n X dX7_setRevoked_42 0 rfl ?_
      refine g_Mod  X hinX7 0 (by decide) (by decide +kernel) rfl rfl dX7_setRevoked_43 ?_
      refine vs_callVv X  (As := [rf G 167]) (st' := []) (mtX7_keeps hl0 isIA_167) (cwV 1 X.2.2.2.2.1 gX7_setRevoked_X7_keeps rfl rfl rfl (by decide +kernel) ⟨Nat.le_of_ble_eq_true rfl, Nat.le_of_ble_eq_true rfl⟩) (by decide) (by decide) rfl rfl rfl (Nat.le_of_ble_eq_true rfl) dX7_setRevoked_46 ⟨Nat.le_of_ble_eq_true rfl, Nat.le_of_ble_eq_true rfl⟩ (fun S8 hS8 => ?_)
      refine vs_aload_n X dX7_setRevoked_49 0 rfl ?_
      refine g_Mod  X hinX7 0 (by decide) (by decide +kernel) rfl rfl dX7_setRevoked_50 ?_
      refine vs_bipush X (v := 15) dX7_setRevoked_53 (by decide) ?_
      refine vs_dup2 X dX7_setRevoked_55 rfl rfl ?_
      refine vs_iald X (by decide) (by decide) rfl dX7_setRevoked_56 ?_
      refine vs_iconst X (v := 1) dX7_setRevoked_57 (by decide) ?_
      refine vs_iload_n X dX7_setRevoked_58 1 rfl ?_
      refine vs_ishl X dX7_setRevoked_59 ?_
      refine vs_ixor X dX7_setRevoked_60 ?_
      refine vs_iast X (by decide) (by decide) (fun _ => rfl) dX7_setRevoked_61 (fun S9 hS9 => ?_)
      refine vs_aload_n X dX7_setRevoked_62 0 rfl ?_
      refine vs_aload_n X dX7_setRevoked_63 0 rfl ?_
      refine g_Mod  X hinX7 0 (by decide) (by decide +kernel) rfl rfl dX7_setRevoked_64 ?_
      refine vs_iconst X (v := 2) dX7_setRevoked_67 (by decide) ?_
      refine vs_iald X (by decide) (by decide) rfl dX7_setRevoked_68 ?_
      refine vs_callVp X  (As := [.int (S9.2.1 167 (ix 2))]) (st' := []) (mtX7_certified hl0 (S9.2.1 167 (ix 2))) (cwV 1 X.2.2.2.2.1 gX7_setRevoked_X7_certified rfl rfl rfl (by decide +kernel) ⟨Nat.le_of_ble_eq_true rfl, Nat.le_of_ble_eq_true rfl⟩) (by decide) (by decide) rfl rfl rfl (Nat.le_of_ble_eq_true rfl) dX7_setRevoked_69 ⟨Nat.le_of_ble_eq_true rfl, Nat.le_of_ble_eq_true rfl⟩ (fun x10 hx10 => ?_)
      refine vs_callSp X  (As := [.int x10]) (st' := []) (mtX7_bits hl0 x10) (va_cwS 1 X.2.2.2.2.1 gX7_setRevoked_X7_bits rfl rfl rfl (by decide +kernel) ⟨Nat.le_of_ble_eq_true rfl, Nat.le_of_ble_eq_true rfl⟩) rfl (Nat.le_of_ble_eq_true rfl) dX7_setRevoked_72 ⟨Nat.le_of_ble_eq_true rfl, Nat.le_of_ble_eq_true rfl⟩ (fun x11 hx11 => ?_)
      exact vs_iret X dX7_setRevoked_75 (by decide) (by decide)
  · refine vs_iconst X (v := 0) dX7_setRevoked_8 (by decide) ?_
    exact vs_iret X dX7_setRevoked_9 (by decide) (by decide)

def spX7_scarecrowCount  (S : Wo) : Option (Int32 × Wo) :=
  wr (pI S 166 9 0) (fun S1 => (if inb 0 112 = true then some ((S1.2.1 167 (ix 0)), S1) else none))
set_option maxHeartbeats 4000000 in
set_option maxRecDepth 100000 in
theorem mtX7_scarecrowCount {l : Launch} (hl0 : l.stackTraces = false) {G : Gt}  {S : Wo} : ∀ rr, spX7_scarecrowCount  S = some rr → MI l yX7_scarecrowCount wsX7_scarecrowCount { frames := 0, cells := 0, slots := 0, locals := 0 } G S [rf G 166] rr 0 0 := by
  refine MI_of (cc := cX7_scarecrowCount) (own := RX7) (maxL := 1) (ret := (some .int)) (sp := spX7_scarecrowCount  S) (by decide +kernel) rfl rfl (Nat.le_of_ble_eq_true rfl) ?_
  intro p e s m args below meth c X
  have hinX7 : ∀ w ∈ wsX70, w ∈ wsX7_scarecrowCount := by decide +kernel
  show VS G p l e _ s m args below meth c 1 _ _ 0 0 S 0 [(0, rf G 166)] []
  unfold spX7_scarecrowCount
  refine vs_aload_n X dX7_scarecrowCount_0 0 rfl ?_
  refine vs_iconst X (v := 0) dX7_scarecrowCount_1 (by decide) ?_
  refine p_Mod  X hinX7 9 (by decide) (by decide +kernel) rfl rfl rfl rfl rfl rfl dX7_scarecrowCount_2 (fun S1 hS1 => ?_)
  refine vs_aload_n X dX7_scarecrowCount_5 0 rfl ?_
  refine g_Mod  X hinX7 0 (by decide) (by decide +kernel) rfl rfl dX7_scarecrowCount_6 ?_
  refine vs_iconst X (v := 0) dX7_scarecrowCount_9 (by decide) ?_
  refine vs_iald X (by decide) (by decide) rfl dX7_scarecrowCount_10 ?_
  exact vs_iret X dX7_scarecrowCount_11 (by decide) (by decide)

def spX7_fieldOf (p1 : Int32) (S : Wo) : Option (Int32 × Wo) :=
  bd2 (spX7_isNone p1 S) (fun x1 S2 => (if x1 = 0 then (if inb (5 + p1) 112 = true then some ((S2.2.1 167 (ix (5 + p1))), S2) else none) else some (0, S2)))
set_option maxHeartbeats 4000000 in
set_option maxRecDepth 100000 in
theorem mtX7_fieldOf {l : Launch} (hl0 : l.stackTraces = false) {G : Gt} (p1 : Int32) {S : Wo} : ∀ rr, spX7_fieldOf p1 S = some rr → MI l yX7_fieldOf wsX7_fieldOf { frames := 3, cells := 0, slots := 0, locals := 64 } G S [rf G 166, .int p1] rr 0 0 := by
  refine MI_of (cc := cX7_fieldOf) (own := RX7) (maxL := 2) (ret := (some .int)) (sp := spX7_fieldOf p1 S) (by decide +kernel) rfl rfl (Nat.le_of_ble_eq_true rfl) ?_
  intro p e s m args below meth c X
  have hinX7 : ∀ w ∈ wsX70, w ∈ wsX7_fieldOf := by decide +kernel
  show VS G p l e _ s m args below meth c 2 _ _ 0 0 S 0 [(0, rf G 166), (1, .int p1)] []
  unfold spX7_fieldOf
  refine vs_aload_n X dX7_fieldOf_0 0 rfl ?_
  refine vs_iload_n X dX7_fieldOf_1 1 rfl ?_
  refine vs_callVi X  (As := [.int p1]) (st' := []) (mtX7_isNone hl0 p1) (cwV 1 X.2.2.2.2.1 gX7_fieldOf_X7_isNone rfl rfl rfl (by decide +kernel) ⟨Nat.le_of_ble_eq_true rfl, Nat.le_of_ble_eq_true rfl⟩) (by decide) (by decide) rfl rfl rfl (Nat.le_of_ble_eq_true rfl) dX7_fieldOf_2 ⟨Nat.le_of_ble_eq_true rfl, Nat.le_of_ble_eq_true rfl⟩ (fun x1 S2 hx1 => ?_)
  refine vs_if_eq X (tgt := 12) dX7_fieldOf_5 (by decide) (fun _ => ?_) (fun _ => ?_)
  · refine vs_aload_n X dX7_fieldOf_12 0 rfl ?_
    refine g_Mod  X hinX7 0 (by decide) (by decide +kernel) rfl rfl dX7_fieldOf_13 ?_
    refine vs_iconst X (v := 5) dX7_fieldOf_16 (by decide) ?_
    refine vs_iload_n X dX7_fieldOf_17 1 rfl ?_
    refine vs_iadd X dX7_fieldOf_18 ?_
    refine vs_iald X (by decide) (by decide) rfl dX7_fieldOf_19 ?_
    exact vs_iret X dX7_fieldOf_20 (by decide) (by decide)
  · refine vs_iconst X (v := 0) dX7_fieldOf_8 (by decide) ?_
    refine vs_goto X (tgt := 20) dX7_fieldOf_9 (by decide) ?_
    exact vs_iret X dX7_fieldOf_20 (by decide) (by decide)

def spX7_scarecrowOn (p1 : Int32) (S : Wo) : Option (Int32 × Wo) :=
  (spX7_isField p1 S).bind (fun x1 => (if x1 = 0 then bd2 (spX7_fails 1 S) (fun x2 S3 => (if x2 = 0 then (spX7_standing p1 S3).bind (fun x4 => some (x4, S3)) else some (0, S3))) else (spX7_standing p1 S).bind (fun x5 => (if (0 : Int32) ≤ x5 then bd2 (spX7_fails 0 S) (fun x6 S7 => (if x6 = 0 then (spX7_standing p1 S7).bind (fun x8 => some (x8, S7)) else some (0, S7))) else bd2 (spX7_fails 2 S) (fun x9 S10 => (if x9 = 0 then (spX7_standing p1 S10).bind (fun x11 => some (x11, S10)) else some (0, S10)))))))
set_option maxHeartbeats 4000000 in
set_option maxRecDepth 100000 in
theorem mtX7_scarecrowOn {l : Launch} (hl0 : l.stackTraces = false) {G : Gt} (p1 : Int32) {S : Wo} : ∀ rr, spX7_scarecrowOn p1 S = some rr → MI l yX7_scarecrowOn wsX7_scarecrowOn { frames := 2, cells := 0, slots := 0, locals := 42 } G S [rf G 166, .int p1] rr 0 0 := by
  refine MI_of (cc := cX7_scarecrowOn) (own := RX7) (maxL := 2) (ret := (some .int)) (sp := spX7_scarecrowOn p1 S) (by decide +kernel) rfl rfl (Nat.le_of_ble_eq_true rfl) ?_
  intro p e s m args below meth c X
  show VS G p l e _ s m args below meth c 2 _ _ 0 0 S 0 [(0, rf G 166), (1, .int p1)] []
  unfold spX7_scarecrowOn
  refine vs_aload_n X dX7_scarecrowOn_0 0 rfl ?_
  refine vs_iload_n X dX7_scarecrowOn_1 1 rfl ?_
  refine vs_callSp X  (As := [.int p1]) (st' := [rf G 166]) (mtX7_isField hl0 p1) (va_cwS 1 X.2.2.2.2.1 gX7_scarecrowOn_X7_isField rfl rfl rfl (by decide +kernel) ⟨Nat.le_of_ble_eq_true rfl, Nat.le_of_ble_eq_true rfl⟩) rfl (Nat.le_of_ble_eq_true rfl) dX7_scarecrowOn_2 ⟨Nat.le_of_ble_eq_true rfl, Nat.le_of_ble_eq_true rfl⟩ (fun x1 hx1 => ?_)
  refine vs_if_ne X (tgt := 12) dX7_scarecrowOn_5 (by decide) (fun _ => ?_) (fun _ => ?_)
  · refine vs_iconst X (v := 1) dX7_scarecrowOn_8 (by decide) ?_
    refine vs_goto X (tgt := 25) dX7_scarecrowOn_9 (by decide) ?_
    refine vs_callVi X  (As := [.int 1]) (st' := []) (mtX7_fails hl0 1) (cwV 1 X.2.2.2.2.1 gX7_scarecrowOn_X7_fails rfl rfl rfl (by decide +kernel) ⟨Nat.le_of_ble_eq_true rfl, Nat.le_of_ble_eq_true rfl⟩) (by decide) (by decide) rfl rfl rfl (Nat.le_of_ble_eq_true rfl) dX7_scarecrowOn_25 ⟨Nat.le_of_ble_eq_true rfl, Nat.le_of_ble_eq_true rfl⟩ (fun x2 S3 hx2 => ?_)
    refine vs_if_eq X (tgt := 35) dX7_scarecrowOn_28 (by decide) (fun _ => ?_) (fun _ => ?_)
    · refine vs_aload_n X dX7_scarecrowOn_35 0 rfl ?_
      refine vs_iload_n X dX7_scarecrowOn_36 1 rfl ?_
      refine vs_callVp X  (As := [.int p1]) (st' := []) (mtX7_standing hl0 p1) (cwV 1 X.2.2.2.2.1 gX7_scarecrowOn_X7_standing rfl rfl rfl (by decide +kernel) ⟨Nat.le_of_ble_eq_true rfl, Nat.le_of_ble_eq_true rfl⟩) (by decide) (by decide) rfl rfl rfl (Nat.le_of_ble_eq_true rfl) dX7_scarecrowOn_37 ⟨Nat.le_of_ble_eq_true rfl, Nat.le_of_ble_eq_true rfl⟩ (fun x4 hx4 => ?_)
      exact vs_iret X dX7_scarecrowOn_40 (by decide) (by decide)
    · refine vs_iconst X (v := 0) dX7_scarecrowOn_31 (by decide) ?_
      refine vs_goto X (tgt := 40) dX7_scarecrowOn_32 (by decide) ?_
      exact vs_iret X dX7_scarecrowOn_40 (by decide) (by decide)
  · refine vs_aload_n X dX7_scarecrowOn_12 0 rfl ?_
    refine vs_iload_n X dX7_scarecrowOn_13 1 rfl ?_
    refine vs_callVp X  (As := [.int p1]) (st' := [rf G 166]) (mtX7_standing hl0 p1) (cwV 1 X.2.2.2.2.1 gX7_scarecrowOn_X7_standing rfl rfl rfl (by decide +kernel) ⟨Nat.le_of_ble_eq_true rfl, Nat.le_of_ble_eq_true rfl⟩) (by decide) (by decide) rfl rfl rfl (Nat.le_of_ble_eq_true rfl) dX7_scarecrowOn_14 ⟨Nat.le_of_ble_eq_true rfl, Nat.le_of_ble_eq_true rfl⟩ (fun x5 hx5 => ?_)
    refine vs_if_ge X (tgt := 24) dX7_scarecrowOn_17 (by decide) (fun _ => ?_) (fun _ => ?_)
    · refine vs_iconst X (v := 0) dX7_scarecrowOn_24 (by decide) ?_
      refine vs_callVi X  (As := [.int 0]) (st' := []) (mtX7_fails hl0 0) (cwV 1 X.2.2.2.2.1 gX7_scarecrowOn_X7_fails rfl rfl rfl (by decide +kernel) ⟨Nat.le_of_ble_eq_true rfl, Nat.le_of_ble_eq_true rfl⟩) (by decide) (by decide) rfl rfl rfl (Nat.le_of_ble_eq_true rfl) dX7_scarecrowOn_25 ⟨Nat.le_of_ble_eq_true rfl, Nat.le_of_ble_eq_true rfl⟩ (fun x6 S7 hx6 => ?_)
      refine vs_if_eq X (tgt := 35) dX7_scarecrowOn_28 (by decide) (fun _ => ?_) (fun _ => ?_)
      · refine vs_aload_n X dX7_scarecrowOn_35 0 rfl ?_
        refine vs_iload_n X dX7_scarecrowOn_36 1 rfl ?_
        refine vs_callVp X  (As := [.int p1]) (st' := []) (mtX7_standing hl0 p1) (cwV 1 X.2.2.2.2.1 gX7_scarecrowOn_X7_standing rfl rfl rfl (by decide +kernel) ⟨Nat.le_of_ble_eq_true rfl, Nat.le_of_ble_eq_true rfl⟩) (by decide) (by decide) rfl rfl rfl (Nat.le_of_ble_eq_true rfl) dX7_scarecrowOn_37 ⟨Nat.le_of_ble_eq_true rfl, Nat.le_of_ble_eq_true rfl⟩ (fun x8 hx8 => ?_)
        exact vs_iret X dX7_scarecrowOn_40 (by decide) (by decide)
      · refine vs_iconst X (v := 0) dX7_scarecrowOn_31 (by decide) ?_
        refine vs_goto X (tgt := 40) dX7_scarecrowOn_32 (by decide) ?_
        exact vs_iret X dX7_scarecrowOn_40 (by decide) (by decide)
    · refine vs_iconst X (v := 2) dX7_scarecrowOn_20 (by decide) ?_
      refine vs_goto X (tgt := 25) dX7_scarecrowOn_21 (by decide) ?_
      refine vs_callVi X  (As := [.int 2]) (st' := []) (mtX7_fails hl0 2) (cwV 1 X.2.2.2.2.1 gX7_scarecrowOn_X7_fails rfl rfl rfl (by decide +kernel) ⟨Nat.le_of_ble_eq_true rfl, Nat.le_of_ble_eq_true rfl⟩) (by decide) (by decide) rfl rfl rfl (Nat.le_of_ble_eq_true rfl) dX7_scarecrowOn_25 ⟨Nat.le_of_ble_eq_true rfl, Nat.le_of_ble_eq_true rfl⟩ (fun x9 S10 hx9 => ?_)
      refine vs_if_eq X (tgt := 35) dX7_scarecrowOn_28 (by decide) (fun _ => ?_) (fun _ => ?_)
      · refine vs_aload_n X dX7_scarecrowOn_35 0 rfl ?_
        refine vs_iload_n X dX7_scarecrowOn_36 1 rfl ?_
        refine vs_callVp X  (As := [.int p1]) (st' := []) (mtX7_standing hl0 p1) (cwV 1 X.2.2.2.2.1 gX7_scarecrowOn_X7_standing rfl rfl rfl (by decide +kernel) ⟨Nat.le_of_ble_eq_true rfl, Nat.le_of_ble_eq_true rfl⟩) (by decide) (by decide) rfl rfl rfl (Nat.le_of_ble_eq_true rfl) dX7_scarecrowOn_37 ⟨Nat.le_of_ble_eq_true rfl, Nat.le_of_ble_eq_true rfl⟩ (fun x11 hx11 => ?_)
        exact vs_iret X dX7_scarecrowOn_40 (by decide) (by decide)
      · refine vs_iconst X (v := 0) dX7_scarecrowOn_31 (by decide) ?_
        refine vs_goto X (tgt := 40) dX7_scarecrowOn_32 (by decide) ?_
        exact vs_iret X dX7_scarecrowOn_40 (by decide) (by decide)

def spX7_isRevoked (p1 : Int32) (S : Wo) : Option (Int32 × Wo) :=
  bd2 (spX7_isNone p1 S) (fun x1 S2 => (if x1 = 0 then (if inb 15 112 = true then (spX7_has (S2.2.1 167 (ix 15)) p1 S2).bind (fun x3 => (if x3 = 0 then rz 0 (fun y => some (y, S2)) else rz 1 (fun y => some (y, S2)))) else none) else rz 0 (fun y => some (y, S2))))
set_option maxHeartbeats 4000000 in
set_option maxRecDepth 100000 in
theorem mtX7_isRevoked {l : Launch} (hl0 : l.stackTraces = false) {G : Gt} (p1 : Int32) {S : Wo} : ∀ rr, spX7_isRevoked p1 S = some rr → MI l yX7_isRevoked wsX7_isRevoked { frames := 3, cells := 0, slots := 0, locals := 64 } G S [rf G 166, .int p1] rr 0 0 := by
  refine MI_of (cc := cX7_isRevoked) (own := RX7) (maxL := 2) (ret := (some .boolean)) (sp := spX7_isRevoked p1 S) (by decide +kernel) rfl rfl (Nat.le_of_ble_eq_true rfl) ?_
  intro p e s m args below meth c X
  have hinX7 : ∀ w ∈ wsX70, w ∈ wsX7_isRevoked := by decide +kernel
  show VS G p l e _ s m args below meth c 2 _ _ 0 0 S 0 [(0, rf G 166), (1, .int p1)] []
  unfold spX7_isRevoked
  refine vs_aload_n X dX7_isRevoked_0 0 rfl ?_
  refine vs_iload_n X dX7_isRevoked_1 1 rfl ?_
  refine vs_callVi X  (As := [.int p1]) (st' := []) (mtX7_isNone hl0 p1) (cwV 1 X.2.2.2.2.1 gX7_isRevoked_X7_isNone rfl rfl rfl (by decide +kernel) ⟨Nat.le_of_ble_eq_true rfl, Nat.le_of_ble_eq_true rfl⟩) (by decide) (by decide) rfl rfl rfl (Nat.le_of_ble_eq_true rfl) dX7_isRevoked_2 ⟨Nat.le_of_ble_eq_true rfl, Nat.le_of_ble_eq_true rfl⟩ (fun x1 S2 hx1 => ?_)
  refine vs_if_ne X (tgt := 26) dX7_isRevoked_5 (by decide) (fun _ => ?_) (fun _ => ?_)
  · refine vs_aload_n X dX7_isRevoked_8 0 rfl ?_
    refine g_Mod  X hinX7 0 (by decide) (by decide +kernel) rfl rfl dX7_isRevoked_9 ?_
    refine vs_bipush X (v := 15) dX7_isRevoked_12 (by decide) ?_
    refine vs_iald X (by decide) (by decide) rfl dX7_isRevoked_14 ?_
    refine vs_iload_n X dX7_isRevoked_15 1 rfl ?_
    refine vs_callSp X  (As := [.int (S2.2.1 167 (ix 15)), .int p1]) (st' := []) (mtX7_has hl0 (S2.2.1 167 (ix 15)) p1) (va_cwS 2 X.2.2.2.2.1 gX7_isRevoked_X7_has rfl rfl rfl (by decide +kernel) ⟨Nat.le_of_ble_eq_true rfl, Nat.le_of_ble_eq_true rfl⟩) rfl (Nat.le_of_ble_eq_true rfl) dX7_isRevoked_16 ⟨Nat.le_of_ble_eq_true rfl, Nat.le_of_ble_eq_true rfl⟩ (fun x3 hx3 => ?_)
    refine vs_if_eq X (tgt := 26) dX7_isRevoked_19 (by decide) (fun _ => ?_) (fun _ => ?_)
    · refine vs_iconst X (v := 0) dX7_isRevoked_26 (by decide) ?_
      exact vs_zret X dX7_isRevoked_27 (by decide) (by decide)
    · refine vs_iconst X (v := 1) dX7_isRevoked_22 (by decide) ?_
      refine vs_goto X (tgt := 27) dX7_isRevoked_23 (by decide) ?_
      exact vs_zret X dX7_isRevoked_27 (by decide) (by decide)
  · refine vs_iconst X (v := 0) dX7_isRevoked_26 (by decide) ?_
    exact vs_zret X dX7_isRevoked_27 (by decide) (by decide)

def spX7_isSure (p1 : Int32) (S : Wo) : Option (Int32 × Wo) :=
  bd2 (spX7_isNone p1 S) (fun x1 S2 => (if x1 = 0 then (if inb 2 112 = true then (spX7_certified (S2.2.1 167 (ix 2)) S2).bind (fun x3 => (spX7_has x3 p1 S2).bind (fun x4 => (if x4 = 0 then rz 0 (fun y => some (y, S2)) else rz 1 (fun y => some (y, S2))))) else none) else rz 0 (fun y => some (y, S2))))
set_option maxHeartbeats 4000000 in
set_option maxRecDepth 100000 in
theorem mtX7_isSure {l : Launch} (hl0 : l.stackTraces = false) {G : Gt} (p1 : Int32) {S : Wo} : ∀ rr, spX7_isSure p1 S = some rr → MI l yX7_isSure wsX7_isSure { frames := 3, cells := 0, slots := 0, locals := 69 } G S [rf G 166, .int p1] rr 0 0 := by
  refine MI_of (cc := cX7_isSure) (own := RX7) (maxL := 2) (ret := (some .boolean)) (sp := spX7_isSure p1 S) (by decide +kernel) rfl rfl (Nat.le_of_ble_eq_true rfl) ?_
  intro p e s m args below meth c X
  have hinX7 : ∀ w ∈ wsX70, w ∈ wsX7_isSure := by decide +kernel
  show VS G p l e _ s m args below meth c 2 _ _ 0 0 S 0 [(0, rf G 166), (1, .int p1)] []
  unfold spX7_isSure
  refine vs_aload_n X dX7_isSure_0 0 rfl ?_
  refine vs_iload_n X dX7_isSure_1 1 rfl ?_
  refine vs_callVi X  (As := [.int p1]) (st' := []) (mtX7_isNone hl0 p1) (cwV 1 X.2.2.2.2.1 gX7_isSure_X7_isNone rfl rfl rfl (by decide +kernel) ⟨Nat.le_of_ble_eq_true rfl, Nat.le_of_ble_eq_true rfl⟩) (by decide) (by decide) rfl rfl rfl (Nat.le_of_ble_eq_true rfl) dX7_isSure_2 ⟨Nat.le_of_ble_eq_true rfl, Nat.le_of_ble_eq_true rfl⟩ (fun x1 S2 hx1 => ?_)
  refine vs_if_ne X (tgt := 29) dX7_isSure_5 (by decide) (fun _ => ?_) (fun _ => ?_)
  · refine vs_aload_n X dX7_isSure_8 0 rfl ?_
    refine vs_aload_n X dX7_isSure_9 0 rfl ?_
    refine g_Mod  X hinX7 0 (by decide) (by decide +kernel) rfl rfl dX7_isSure_10 ?_
    refine vs_iconst X (v := 2) dX7_isSure_13 (by decide) ?_
    refine vs_iald X (by decide) (by decide) rfl dX7_isSure_14 ?_
    refine vs_callVp X  (As := [.int (S2.2.1 167 (ix 2))]) (st' := []) (mtX7_certified hl0 (S2.2.1 167 (ix 2))) (cwV 1 X.2.2.2.2.1 gX7_isSure_X7_certified rfl rfl rfl (by decide +kernel) ⟨Nat.le_of_ble_eq_true rfl, Nat.le_of_ble_eq_true rfl⟩) (by decide) (by decide) rfl rfl rfl (Nat.le_of_ble_eq_true rfl) dX7_isSure_15 ⟨Nat.le_of_ble_eq_true rfl, Nat.le_of_ble_eq_true rfl⟩ (fun x3 hx3 => ?_)
    refine vs_iload_n X dX7_isSure_18 1 rfl ?_
    refine vs_callSp X  (As := [.int x3, .int p1]) (st' := []) (mtX7_has hl0 x3 p1) (va_cwS 2 X.2.2.2.2.1 gX7_isSure_X7_has rfl rfl rfl (by decide +kernel) ⟨Nat.le_of_ble_eq_true rfl, Nat.le_of_ble_eq_true rfl⟩) rfl (Nat.le_of_ble_eq_true rfl) dX7_isSure_19 ⟨Nat.le_of_ble_eq_true rfl, Nat.le_of_ble_eq_true rfl⟩ (fun x4 hx4 => ?_)
    refine vs_if_eq X (tgt := 29) dX7_isSure_22 (by decide) (fun _ => ?_) (fun _ => ?_)
    · refine vs_iconst X (v := 0) dX7_isSure_29 (by decide) ?_
      exact vs_zret X dX7_isSure_30 (by decide) (by decide)
    · refine vs_iconst X (v := 1) dX7_isSure_25 (by decide) ?_
      refine vs_goto X (tgt := 30) dX7_isSure_26 (by decide) ?_
      exact vs_zret X dX7_isSure_30 (by decide) (by decide)
  · refine vs_iconst X (v := 0) dX7_isSure_29 (by decide) ?_
    exact vs_zret X dX7_isSure_30 (by decide) (by decide)

def spX7_isCertified (p1 : Int32) (S : Wo) : Option (Int32 × Wo) :=
  bd2 (spX7_isSure p1 S) (fun x1 S2 => rz x1 (fun y => some (y, S2)))
set_option maxHeartbeats 4000000 in
set_option maxRecDepth 100000 in
theorem mtX7_isCertified {l : Launch} (hl0 : l.stackTraces = false) {G : Gt} (p1 : Int32) {S : Wo} : ∀ rr, spX7_isCertified p1 S = some rr → MI l yX7_isCertified wsX7_isCertified { frames := 4, cells := 0, slots := 0, locals := 90 } G S [rf G 166, .int p1] rr 0 0 := by
  refine MI_of (cc := cX7_isCertified) (own := RX7) (maxL := 2) (ret := (some .boolean)) (sp := spX7_isCertified p1 S) (by decide +kernel) rfl rfl (Nat.le_of_ble_eq_true rfl) ?_
  intro p e s m args below meth c X
  show VS G p l e _ s m args below meth c 2 _ _ 0 0 S 0 [(0, rf G 166), (1, .int p1)] []
  unfold spX7_isCertified
  refine vs_aload_n X dX7_isCertified_0 0 rfl ?_
  refine vs_iload_n X dX7_isCertified_1 1 rfl ?_
  refine vs_callVi X  (As := [.int p1]) (st' := []) (mtX7_isSure hl0 p1) (cwV 1 X.2.2.2.2.1 gX7_isCertified_X7_isSure rfl rfl rfl (by decide +kernel) ⟨Nat.le_of_ble_eq_true rfl, Nat.le_of_ble_eq_true rfl⟩) (by decide) (by decide) rfl rfl rfl (Nat.le_of_ble_eq_true rfl) dX7_isCertified_2 ⟨Nat.le_of_ble_eq_true rfl, Nat.le_of_ble_eq_true rfl⟩ (fun x1 S2 hx1 => ?_)
  exact vs_zret X dX7_isCertified_5 (by decide) (by decide)

def spX7_isCertifiedByChains (p1 : Int32) (S : Wo) : Option (Int32 × Wo) :=
  bd2 (spX7_isSure p1 S) (fun x1 S2 => rz x1 (fun y => some (y, S2)))
set_option maxHeartbeats 4000000 in
set_option maxRecDepth 100000 in
theorem mtX7_isCertifiedByChains {l : Launch} (hl0 : l.stackTraces = false) {G : Gt} (p1 : Int32) {S : Wo} : ∀ rr, spX7_isCertifiedByChains p1 S = some rr → MI l yX7_isCertifiedByChains wsX7_isCertifiedByChains { frames := 4, cells := 0, slots := 0, locals := 90 } G S [rf G 166, .int p1] rr 0 0 := by
  refine MI_of (cc := cX7_isCertifiedByChains) (own := RX7) (maxL := 2) (ret := (some .boolean)) (sp := spX7_isCertifiedByChains p1 S) (by decide +kernel) rfl rfl (Nat.le_of_ble_eq_true rfl) ?_
  intro p e s m args below meth c X
  show VS G p l e _ s m args below meth c 2 _ _ 0 0 S 0 [(0, rf G 166), (1, .int p1)] []
  unfold spX7_isCertifiedByChains
  refine vs_aload_n X dX7_isCertifiedByChains_0 0 rfl ?_
  refine vs_iload_n X dX7_isCertifiedByChains_1 1 rfl ?_
  refine vs_callVi X  (As := [.int p1]) (st' := []) (mtX7_isSure hl0 p1) (cwV 1 X.2.2.2.2.1 gX7_isCertifiedByChains_X7_isSure rfl rfl rfl (by decide +kernel) ⟨Nat.le_of_ble_eq_true rfl, Nat.le_of_ble_eq_true rfl⟩) (by decide) (by decide) rfl rfl rfl (Nat.le_of_ble_eq_true rfl) dX7_isCertifiedByChains_2 ⟨Nat.le_of_ble_eq_true rfl, Nat.le_of_ble_eq_true rfl⟩ (fun x1 S2 hx1 => ?_)
  exact vs_zret X dX7_isCertifiedByChains_5 (by decide) (by decide)

def lpX7_chainLength_61 (p1 : Int32) (w4 : Int32) (w3 : Int32) (K : Int32 → Int32 → Wo → Option (Int32 × Wo)) : Nat → Int32 → Int32 → Wo → Option (Int32 × Wo)
  | 0, _, _, _ => none
  | f + 1, v2, v5, S12 => (if inb 1 112 = true then (if (S12.2.1 167 (ix 1)) ≤ v5 then K v2 v5 S12 else (if inb 2 112 = true then (spX7_holds v5 w4 (S12.2.1 167 (ix 2)) S12).bind (fun x13 => (if x13 = 0 then lpX7_chainLength_61 p1 w4 w3 K f v2 (v5 + 1) S12 else (if inb 15 112 = true then (spX7_of v5 1 S12).bind (fun x14 => (spX7_has (S12.2.1 167 (ix 15)) x14 S12).bind (fun x15 => (if x15 = 0 then (spX7_of v5 1 S12).bind (fun x16 => lpX7_chainLength_61 p1 w4 w3 K f (v2 ||| (1 <<< (x16 &&& 31))) (v5 + 1) S12) else lpX7_chainLength_61 p1 w4 w3 K f v2 (v5 + 1) S12))) else none))) else none)) else none)
def lpX7_chainLength_47 (p1 : Int32)   : Nat → Int32 → Int32 → Wo → Option (Int32 × Wo)
  | 0, _, _, _ => none
  | f + 1, v2, v3, S9 => (spX7_has v2 p1 S9).bind (fun x10 => (if x10 = 0 then lpX7_chainLength_61 p1 v2 v3 (fun (u17 : Int32) (u18 : Int32) (S19 : Wo) => lpX7_chainLength_47 p1 f u17 (v3 + 1) S19) 200 v2 0 S9 else some (v3, S9)))
def spX7_chainLength (p1 : Int32) (S : Wo) : Option (Int32 × Wo) :=
  (spX7_isCrow p1 S).bind (fun x1 => jn (β := Int32 → Option (Int32 × Wo)) (fun (x4 : Int32) => bd2 (spX7_fails x4 S) (fun x6 S7 => (if x6 = 0 then lpX7_chainLength_47 p1 200 0 0 S7 else some (0, S7)))) (fun k5 => (if x1 = 0 then k5 1 else (if inb 2 112 = true then (spX7_certified (S.2.1 167 (ix 2)) S).bind (fun x2 => (spX7_has x2 p1 S).bind (fun x3 => (if x3 = 0 then k5 2 else k5 0))) else none))))
set_option maxHeartbeats 4000000 in
set_option maxRecDepth 100000 in
theorem mtX7_chainLength {l : Launch} (hl0 : l.stackTraces = false) {G : Gt} (p1 : Int32) {S : Wo} : ∀ rr, spX7_chainLength p1 S = some rr → MI l yX7_chainLength wsX7_chainLength { frames := 3, cells := 0, slots := 0, locals := 69 } G S [rf G 166, .int p1] rr 0 0 := by
  refine MI_of (cc := cX7_chainLength) (own := RX7) (maxL := 6) (ret := (some .int)) (sp := spX7_chainLength p1 S) (by decide +kernel) rfl rfl (Nat.le_of_ble_eq_true rfl) ?_
  intro p e s m args below meth c X
  have hinX7 : ∀ w ∈ wsX70, w ∈ wsX7_chainLength := by decide +kernel
  show VS G p l e _ s m args below meth c 6 _ _ 0 0 S 0 [(0, rf G 166), (1, .int p1)] []
  unfold spX7_chainLength
  refine vs_aload_n X dX7_chainLength_0 0 rfl ?_
  refine vs_aload_n X dX7_chainLength_1 0 rfl ?_
  refine vs_iload_n X dX7_chainLength_2 1 rfl ?_
  refine vs_callVp X  (As := [.int p1]) (st' := [rf G 166]) (mtX7_isCrow hl0 p1) (cwV 1 X.2.2.2.2.1 gX7_chainLength_X7_isCrow rfl rfl rfl (by decide +kernel) ⟨Nat.le_of_ble_eq_true rfl, Nat.le_of_ble_eq_true rfl⟩) (by decide) (by decide) rfl rfl rfl (Nat.le_of_ble_eq_true rfl) dX7_chainLength_3 ⟨Nat.le_of_ble_eq_true rfl, Nat.le_of_ble_eq_true rfl⟩ (fun x1 hx1 => ?_)
  refine vs_jn (β := Int32 → Option (Int32 × Wo)) (P := fun k5 => ∀ (x4 : Int32), VS G p l e ({ frames := 3, cells := 0, slots := 0, locals := 69 } : Room) s m args below meth c 6 (fun r => MQ below (QI G r) args s 0 0 (Af G)) (k5 x4) 0 0 S 35 [(0, rf G 166), (1, .int p1)] [.int x4, rf G 166]) (fun x4 => ?_) (fun k5 hk5 => ?_)
  · refine vs_callVi X  (As := [.int x4]) (st' := []) (mtX7_fails hl0 x4) (cwV 1 X.2.2.2.2.1 gX7_chainLength_X7_fails rfl rfl rfl (by decide +kernel) ⟨Nat.le_of_ble_eq_true rfl, Nat.le_of_ble_eq_true rfl⟩) (by decide) (by decide) rfl rfl rfl (Nat.le_of_ble_eq_true rfl) dX7_chainLength_35 ⟨Nat.le_of_ble_eq_true rfl, Nat.le_of_ble_eq_true rfl⟩ (fun x6 S7 hx6 => ?_)
    refine vs_if_eq X (tgt := 43) dX7_chainLength_38 (by decide) (fun _ => ?_) (fun _ => ?_)
    · refine vs_iconst X (v := 0) dX7_chainLength_43 (by decide) ?_
      refine vs_istore_n X (lv' := [(2, .int 0), (0, rf G 166), (1, .int p1)]) dX7_chainLength_44 (by decide) rfl ?_
      refine vs_iconst X (v := 0) dX7_chainLength_45 (by decide) ?_
      refine vs_istore_n X (lv' := [(3, .int 0), (2, .int 0), (0, rf G 166), (1, .int p1)]) dX7_chainLength_46 (by decide) rfl ?_
      have L8 : ∀ (f : Nat) (v2 : Int32) (v3 : Int32) (S9 : Wo), VS G p l e ({ frames := 3, cells := 0, slots := 0, locals := 69 } : Room) s m args below meth c 6 (fun r => MQ below (QI G r) args s 0 0 (Af G)) (lpX7_chainLength_47 p1 f v2 v3 S9) 0 0 S9 47 [(0, rf G 166), (1, .int p1), (2, .int v2), (3, .int v3)] [] := by
        intro f
        induction f with
        | zero => intro v2 v3 S9; exact vs_none rfl
        | succ f ih =>
            intro v2 v3 S9
            rw [lpX7_chainLength_47]
            refine vs_iload_n X dX7_chainLength_47 2 rfl ?_
            refine vs_iload_n X dX7_chainLength_48 1 rfl ?_
            refine vs_callSp X  (As := [.int v2, .int p1]) (st' := []) (mtX7_has hl0 v2 p1) (va_cwS 2 X.2.2.2.2.1 gX7_chainLength_X7_has rfl rfl rfl (by decide +kernel) ⟨Nat.le_of_ble_eq_true rfl, Nat.le_of_ble_eq_true rfl⟩) rfl (Nat.le_of_ble_eq_true rfl) dX7_chainLength_49 ⟨Nat.le_of_ble_eq_true rfl, Nat.le_of_ble_eq_true rfl⟩ (fun x10 hx10 => ?_)
            refine vs_if_ne X (tgt := 133) dX7_chainLength_52 (by decide) (fun _ => ?_) (fun _ => ?_)
            · refine vs_iload_n X dX7_chainLength_55 2 rfl ?_
              refine vs_istore X (lv' := [(4, .int v2), (0, rf G 166), (1, .int p1), (2, .int v2), (3, .int v3)]) dX7_chainLength_56 (by decide) rfl ?_
              refine vs_iconst X (v := 0) dX7_chainLength_58 (by decide) ?_
              refine vs_istore X (lv' := [(5, .int 0), (4, .int v2), (0, rf G 166), (1, .int p1), (2, .int v2), (3, .int v3)]) dX7_chainLength_59 (by decide) rfl ?_
              have L11 : ∀ (w4 : Int32) (w3 : Int32) (K : Int32 → Int32 → Wo → Option (Int32 × Wo)) (hK : ∀ (v2 : Int32) (v5 : Int32) (S12 : Wo), VS G p l e ({ frames := 3, cells := 0, slots := 0, locals := 69 } : Room) s m args below meth c 6 (fun r => MQ below (QI G r) args s 0 0 (Af G)) (K v2 v5 S12) 0 0 S12 127 [(0, rf G 166), (1, .int p1), (2, .int v2), (3, .int w3), (4, .int w4), (5, .int v5)] []) (f : Nat) (v2 : Int32) (v5 : Int32) (S12 : Wo), VS G p l e ({ frames := 3, cells := 0, slots := 0, locals := 69 } : Room) s m args below meth c 6 (fun r => MQ below (QI G r) args s 0 0 (Af G)) (lpX7_chainLength_61 p1 w4 w3 K f v2 v5 S12) 0 0 S12 61 [(0, rf G 166), (1, .int p1), (2, .int v2), (3, .int w3), (4, .int w4), (5, .int v5)] [] := by
                intro w4 w3 K hK f
                induction f with
                | zero => intro v2 v5 S12; exact vs_none rfl
                | succ f ih =>
                    intro v2 v5 S12
                    rw [lpX7_chainLength_61]
                    refine vs_iload X dX7_chainLength_61 5 rfl ?_
                    refine vs_aload_n X dX7_chainLength_63 0 rfl ?_
                    refine g_Mod  X hinX7 0 (by decide) (by decide +kernel) rfl rfl dX7_chainLength_64 ?_
                    refine vs_iconst X (v := 1) dX7_chainLength_67 (by decide) ?_
                    refine vs_iald X (by decide) (by decide) rfl dX7_chainLength_68 ?_
                    refine vs_icmp_ge X (tgt := 127) dX7_chainLength_69 (by decide) (fun _ => ?_) (fun _ => ?_)
                    · refine vs_sub [0, 1, 2, 3, 4, 5] (lv' := [(0, rf G 166), (1, .int p1), (2, .int v2), (3, .int w3), (4, .int w4), (5, .int v5)]) rfl ?_
                      exact hK v2 v5 S12
                    · refine vs_aload_n X dX7_chainLength_72 0 rfl ?_
                      refine vs_iload X dX7_chainLength_73 5 rfl ?_
                      refine vs_iload X dX7_chainLength_75 4 rfl ?_
                      refine vs_aload_n X dX7_chainLength_77 0 rfl ?_
                      refine g_Mod  X hinX7 0 (by decide) (by decide +kernel) rfl rfl dX7_chainLength_78 ?_
                      refine vs_iconst X (v := 2) dX7_chainLength_81 (by decide) ?_
                      refine vs_iald X (by decide) (by decide) rfl dX7_chainLength_82 ?_
                      refine vs_callVp X  (As := [.int v5, .int w4, .int (S12.2.1 167 (ix 2))]) (st' := []) (mtX7_holds hl0 v5 w4 (S12.2.1 167 (ix 2))) (cwV 3 X.2.2.2.2.1 gX7_chainLength_X7_holds rfl rfl rfl (by decide +kernel) ⟨Nat.le_of_ble_eq_true rfl, Nat.le_of_ble_eq_true rfl⟩) (by decide) (by decide) rfl rfl rfl (Nat.le_of_ble_eq_true rfl) dX7_chainLength_83 ⟨Nat.le_of_ble_eq_true rfl, Nat.le_of_ble_eq_true rfl⟩ (fun x13 hx13 => ?_)
                      refine vs_if_eq X (tgt := 121) dX7_chainLength_86 (by decide) (fun _ => ?_) (fun _ => ?_)
                      · refine vs_iinc X (v := (v5 + 1)) (lv' := [(5, .int (v5 + 1)), (0, rf G 166), (1, .int p1), (2, .int v2), (3, .int w3), (4, .int w4)]) dX7_chainLength_121 5 rfl rfl (by decide) rfl ?_
                        refine vs_goto X (tgt := 61) dX7_chainLength_124 (by decide) ?_
                        refine vs_sub [1, 2, 3, 4, 5, 0] (lv' := [(0, rf G 166), (1, .int p1), (2, .int v2), (3, .int w3), (4, .int w4), (5, .int (v5 + 1))]) rfl ?_
                        exact ih v2 (v5 + 1) S12
                      · refine vs_aload_n X dX7_chainLength_89 0 rfl ?_
                        refine g_Mod  X hinX7 0 (by decide) (by decide +kernel) rfl rfl dX7_chainLength_90 ?_
                        refine vs_bipush X (v := 15) dX7_chainLength_93 (by decide) ?_
                        refine vs_iald X (by decide) (by decide) rfl dX7_chainLength_95 ?_
                        refine vs_aload_n X dX7_chainLength_96 0 rfl ?_
                        refine vs_iload X dX7_chainLength_97 5 rfl ?_
                        refine vs_iconst X (v := 1) dX7_chainLength_99 (by decide) ?_
                        refine vs_callVp X  (As := [.int v5, .int 1]) (st' := [.int (S12.2.1 167 (ix 15))]) (mtX7_of hl0 v5 1) (cwV 2 X.2.2.2.2.1 gX7_chainLength_X7_of rfl rfl rfl (by decide +kernel) ⟨Nat.le_of_ble_eq_true rfl, Nat.le_of_ble_eq_true rfl⟩) (by decide) (by decide) rfl rfl rfl (Nat.le_of_ble_eq_true rfl) dX7_chainLength_100 ⟨Nat.le_of_ble_eq_true rfl, Nat.le_of_ble_eq_true rfl⟩ (fun x14 hx14 => ?_)
                        refine vs_callSp X  (As := [.int (S12.2.1 167 (ix 15)), .int x14]) (st' := []) (mtX7_has hl0 (S12.2.1 167 (ix 15)) x14) (va_cwS 2 X.2.2.2.2.1 gX7_chainLength_X7_has rfl rfl rfl (by decide +kernel) ⟨Nat.le_of_ble_eq_true rfl, Nat.le_of_ble_eq_true rfl⟩) rfl (Nat.le_of_ble_eq_true rfl) dX7_chainLength_103 ⟨Nat.le_of_ble_eq_true rfl, Nat.le_of_ble_eq_true rfl⟩ (fun x15 hx15 => ?_)
                        refine vs_if_ne X (tgt := 121) dX7_chainLength_106 (by decide) (fun _ => ?_) (fun _ => ?_)
                        · refine vs_iload_n X dX7_chainLength_109 2 rfl ?_
                          refine vs_iconst X (v := 1) dX7_chainLength_110 (by decide) ?_
                          refine vs_aload_n X dX7_chainLength_111 0 rfl ?_
                          refine vs_iload X dX7_chainLength_112 5 rfl ?_
                          refine vs_iconst X (v := 1) dX7_chainLength_114 (by decide) ?_
                          refine vs_callVp X  (As := [.int v5, .int 1]) (st' := [.int 1, .int v2]) (mtX7_of hl0 v5 1) (cwV 2 X.2.2.2.2.1 gX7_chainLength_X7_of rfl rfl rfl (by decide +kernel) ⟨Nat.le_of_ble_eq_true rfl, Nat.le_of_ble_eq_true rfl⟩) (by decide) (by decide) rfl rfl rfl (Nat.le_of_ble_eq_true rfl) dX7_chainLength_115 ⟨Nat.le_of_ble_eq_true rfl, Nat.le_of_ble_eq_true rfl⟩ (fun x16 hx16 => ?_)
                          refine vs_ishl X dX7_chainLength_118 ?_
                          refine vs_ior X dX7_chainLength_119 ?_
                          refine vs_istore_n X (lv' := [(2, .int (v2 ||| (1 <<< (x16 &&& 31)))), (0, rf G 166), (1, .int p1), (3, .int w3), (4, .int w4), (5, .int v5)]) dX7_chainLength_120 (by decide) rfl ?_
                          refine vs_iinc X (v := (v5 + 1)) (lv' := [(5, .int (v5 + 1)), (2, .int (v2 ||| (1 <<< (x16 &&& 31)))), (0, rf G 166), (1, .int p1), (3, .int w3), (4, .int w4)]) dX7_chainLength_121 5 rfl rfl (by decide) rfl ?_
                          refine vs_goto X (tgt := 61) dX7_chainLength_124 (by decide) ?_
                          refine vs_sub [2, 3, 1, 4, 5, 0] (lv' := [(0, rf G 166), (1, .int p1), (2, .int (v2 ||| (1 <<< (x16 &&& 31)))), (3, .int w3), (4, .int w4), (5, .int (v5 + 1))]) rfl ?_
                          exact ih (v2 ||| (1 <<< (x16 &&& 31))) (v5 + 1) S12
                        · refine vs_iinc X (v := (v5 + 1)) (lv' := [(5, .int (v5 + 1)), (0, rf G 166), (1, .int p1), (2, .int v2), (3, .int w3), (4, .int w4)]) dX7_chainLength_121 5 rfl rfl (by decide) rfl ?_
                          refine vs_goto X (tgt := 61) dX7_chainLength_124 (by decide) ?_
                          refine vs_sub [1, 2, 3, 4, 5, 0] (lv' := [(0, rf G 166), (1, .int p1), (2, .int v2), (3, .int w3), (4, .int w4), (5, .int (v5 + 1))]) rfl ?_
                          exact ih v2 (v5 + 1) S12
              refine vs_sub [2, 3, 4, 5, 1, 0] (lv' := [(0, rf G 166), (1, .int p1), (2, .int v2), (3, .int v3), (4, .int v2), (5, .int 0)]) rfl ?_
              refine L11 v2 v3 (fun (u17 : Int32) (u18 : Int32) (S19 : Wo) => lpX7_chainLength_47 p1 f u17 (v3 + 1) S19) (fun u17 u18 S19 => ?_) 200 v2 0 S9
              refine vs_iinc X (v := (v3 + 1)) (lv' := [(3, .int (v3 + 1)), (0, rf G 166), (1, .int p1), (2, .int u17), (4, .int v2), (5, .int u18)]) dX7_chainLength_127 3 rfl rfl (by decide) rfl ?_
              refine vs_goto X (tgt := 47) dX7_chainLength_130 (by decide) ?_
              refine vs_sub [1, 2, 3, 0] (lv' := [(0, rf G 166), (1, .int p1), (2, .int u17), (3, .int (v3 + 1))]) rfl ?_
              exact ih u17 (v3 + 1) S19
            · refine vs_iload_n X dX7_chainLength_133 3 rfl ?_
              exact vs_iret X dX7_chainLength_134 (by decide) (by decide)
      refine vs_sub [2, 3, 1, 0] (lv' := [(0, rf G 166), (1, .int p1), (2, .int 0), (3, .int 0)]) rfl ?_
      exact L8 200 0 0 S7
    · refine vs_iconst X (v := 0) dX7_chainLength_41 (by decide) ?_
      exact vs_iret X dX7_chainLength_42 (by decide) (by decide)
  · refine vs_if_ne X (tgt := 13) dX7_chainLength_6 (by decide) (fun _ => ?_) (fun _ => ?_)
    · refine vs_iconst X (v := 1) dX7_chainLength_9 (by decide) ?_
      refine vs_goto X (tgt := 35) dX7_chainLength_10 (by decide) ?_
      exact vs_join [0, 1] (Nat.le_of_ble_eq_true rfl) (Nat.le_of_ble_eq_true rfl) rfl (hk5 1)
    · refine vs_aload_n X dX7_chainLength_13 0 rfl ?_
      refine vs_aload_n X dX7_chainLength_14 0 rfl ?_
      refine g_Mod  X hinX7 0 (by decide) (by decide +kernel) rfl rfl dX7_chainLength_15 ?_
      refine vs_iconst X (v := 2) dX7_chainLength_18 (by decide) ?_
      refine vs_iald X (by decide) (by decide) rfl dX7_chainLength_19 ?_
      refine vs_callVp X  (As := [.int (S.2.1 167 (ix 2))]) (st' := [rf G 166]) (mtX7_certified hl0 (S.2.1 167 (ix 2))) (cwV 1 X.2.2.2.2.1 gX7_chainLength_X7_certified rfl rfl rfl (by decide +kernel) ⟨Nat.le_of_ble_eq_true rfl, Nat.le_of_ble_eq_true rfl⟩) (by decide) (by decide) rfl rfl rfl (Nat.le_of_ble_eq_true rfl) dX7_chainLength_20 ⟨Nat.le_of_ble_eq_true rfl, Nat.le_of_ble_eq_true rfl⟩ (fun x2 hx2 => ?_)
      refine vs_iload_n X dX7_chainLength_23 1 rfl ?_
      refine vs_callSp X  (As := [.int x2, .int p1]) (st' := [rf G 166]) (mtX7_has hl0 x2 p1) (va_cwS 2 X.2.2.2.2.1 gX7_chainLength_X7_has rfl rfl rfl (by decide +kernel) ⟨Nat.le_of_ble_eq_true rfl, Nat.le_of_ble_eq_true rfl⟩) rfl (Nat.le_of_ble_eq_true rfl) dX7_chainLength_24 ⟨Nat.le_of_ble_eq_true rfl, Nat.le_of_ble_eq_true rfl⟩ (fun x3 hx3 => ?_)
      refine vs_if_eq X (tgt := 34) dX7_chainLength_27 (by decide) (fun _ => ?_) (fun _ => ?_)
      · refine vs_iconst X (v := 2) dX7_chainLength_34 (by decide) ?_
        exact vs_join [0, 1] (Nat.le_of_ble_eq_true rfl) (Nat.le_of_ble_eq_true rfl) rfl (hk5 2)
      · refine vs_iconst X (v := 0) dX7_chainLength_30 (by decide) ?_
        refine vs_goto X (tgt := 35) dX7_chainLength_31 (by decide) ?_
        exact vs_join [0, 1] (Nat.le_of_ble_eq_true rfl) (Nat.le_of_ble_eq_true rfl) rfl (hk5 0)

def lpX7_daysUntilUncertified_12 (p1 : Int32)   : Nat → Int32 → Wo → Option (Int32 × Wo)
  | 0, _, _ => none
  | f + 1, v2, S4 => (if inb 2 112 = true then (spX7_certified ((S4.2.1 167 (ix 2)) + v2) S4).bind (fun x5 => (spX7_has x5 p1 S4).bind (fun x6 => (if x6 = 0 then some (v2, S4) else lpX7_daysUntilUncertified_12 p1 f (v2 + 1) S4))) else none)
def spX7_daysUntilUncertified (p1 : Int32) (S : Wo) : Option (Int32 × Wo) :=
  bd2 (spX7_isNone p1 S) (fun x1 S2 => (if x1 = 0 then lpX7_daysUntilUncertified_12 p1 200 0 S2 else some (0, S2)))
set_option maxHeartbeats 4000000 in
set_option maxRecDepth 100000 in
theorem mtX7_daysUntilUncertified {l : Launch} (hl0 : l.stackTraces = false) {G : Gt} (p1 : Int32) {S : Wo} : ∀ rr, spX7_daysUntilUncertified p1 S = some rr → MI l yX7_daysUntilUncertified wsX7_daysUntilUncertified { frames := 3, cells := 0, slots := 0, locals := 69 } G S [rf G 166, .int p1] rr 0 0 := by
  refine MI_of (cc := cX7_daysUntilUncertified) (own := RX7) (maxL := 3) (ret := (some .int)) (sp := spX7_daysUntilUncertified p1 S) (by decide +kernel) rfl rfl (Nat.le_of_ble_eq_true rfl) ?_
  intro p e s m args below meth c X
  have hinX7 : ∀ w ∈ wsX70, w ∈ wsX7_daysUntilUncertified := by decide +kernel
  show VS G p l e _ s m args below meth c 3 _ _ 0 0 S 0 [(0, rf G 166), (1, .int p1)] []
  unfold spX7_daysUntilUncertified
  refine vs_aload_n X dX7_daysUntilUncertified_0 0 rfl ?_
  refine vs_iload_n X dX7_daysUntilUncertified_1 1 rfl ?_
  refine vs_callVi X  (As := [.int p1]) (st' := []) (mtX7_isNone hl0 p1) (cwV 1 X.2.2.2.2.1 gX7_daysUntilUncertified_X7_isNone rfl rfl rfl (by decide +kernel) ⟨Nat.le_of_ble_eq_true rfl, Nat.le_of_ble_eq_true rfl⟩) (by decide) (by decide) rfl rfl rfl (Nat.le_of_ble_eq_true rfl) dX7_daysUntilUncertified_2 ⟨Nat.le_of_ble_eq_true rfl, Nat.le_of_ble_eq_true rfl⟩ (fun x1 S2 hx1 => ?_)
  refine vs_if_eq X (tgt := 10) dX7_daysUntilUncertified_5 (by decide) (fun _ => ?_) (fun _ => ?_)
  · refine vs_iconst X (v := 0) dX7_daysUntilUncertified_10 (by decide) ?_
    refine vs_istore_n X (lv' := [(2, .int 0), (0, rf G 166), (1, .int p1)]) dX7_daysUntilUncertified_11 (by decide) rfl ?_
    have L3 : ∀ (f : Nat) (v2 : Int32) (S4 : Wo), VS G p l e ({ frames := 3, cells := 0, slots := 0, locals := 69 } : Room) s m args below meth c 3 (fun r => MQ below (QI G r) args s 0 0 (Af G)) (lpX7_daysUntilUncertified_12 p1 f v2 S4) 0 0 S4 12 [(0, rf G 166), (1, .int p1), (2, .int v2)] [] := by
      intro f
      induction f with
      | zero => intro v2 S4; exact vs_none rfl
      | succ f ih =>
          intro v2 S4
          rw [lpX7_daysUntilUncertified_12]
          refine vs_aload_n X dX7_daysUntilUncertified_12 0 rfl ?_
          refine vs_aload_n X dX7_daysUntilUncertified_13 0 rfl ?_
          refine g_Mod  X hinX7 0 (by decide) (by decide +kernel) rfl rfl dX7_daysUntilUncertified_14 ?_
          refine vs_iconst X (v := 2) dX7_daysUntilUncertified_17 (by decide) ?_
          refine vs_iald X (by decide) (by decide) rfl dX7_daysUntilUncertified_18 ?_
          refine vs_iload_n X dX7_daysUntilUncertified_19 2 rfl ?_
          refine vs_iadd X dX7_daysUntilUncertified_20 ?_
          refine vs_callVp X  (As := [.int ((S4.2.1 167 (ix 2)) + v2)]) (st' := []) (mtX7_certified hl0 ((S4.2.1 167 (ix 2)) + v2)) (cwV 1 X.2.2.2.2.1 gX7_daysUntilUncertified_X7_certified rfl rfl rfl (by decide +kernel) ⟨Nat.le_of_ble_eq_true rfl, Nat.le_of_ble_eq_true rfl⟩) (by decide) (by decide) rfl rfl rfl (Nat.le_of_ble_eq_true rfl) dX7_daysUntilUncertified_21 ⟨Nat.le_of_ble_eq_true rfl, Nat.le_of_ble_eq_true rfl⟩ (fun x5 hx5 => ?_)
          refine vs_iload_n X dX7_daysUntilUncertified_24 1 rfl ?_
          refine vs_callSp X  (As := [.int x5, .int p1]) (st' := []) (mtX7_has hl0 x5 p1) (va_cwS 2 X.2.2.2.2.1 gX7_daysUntilUncertified_X7_has rfl rfl rfl (by decide +kernel) ⟨Nat.le_of_ble_eq_true rfl, Nat.le_of_ble_eq_true rfl⟩) rfl (Nat.le_of_ble_eq_true rfl) dX7_daysUntilUncertified_25 ⟨Nat.le_of_ble_eq_true rfl, Nat.le_of_ble_eq_true rfl⟩ (fun x6 hx6 => ?_)
          refine vs_if_eq X (tgt := 37) dX7_daysUntilUncertified_28 (by decide) (fun _ => ?_) (fun _ => ?_)
          · refine vs_iload_n X dX7_daysUntilUncertified_37 2 rfl ?_
            exact vs_iret X dX7_daysUntilUncertified_38 (by decide) (by decide)
          · refine vs_iinc X (v := (v2 + 1)) (lv' := [(2, .int (v2 + 1)), (0, rf G 166), (1, .int p1)]) dX7_daysUntilUncertified_31 2 rfl rfl (by decide) rfl ?_
            refine vs_goto X (tgt := 12) dX7_daysUntilUncertified_34 (by decide) ?_
            refine vs_sub [1, 2, 0] (lv' := [(0, rf G 166), (1, .int p1), (2, .int (v2 + 1))]) rfl ?_
            exact ih (v2 + 1) S4
    refine vs_sub [1, 2, 0] (lv' := [(0, rf G 166), (1, .int p1), (2, .int 0)]) rfl ?_
    exact L3 200 0 S2
  · refine vs_iconst X (v := 0) dX7_daysUntilUncertified_8 (by decide) ?_
    exact vs_iret X dX7_daysUntilUncertified_9 (by decide) (by decide)

def spX7_isValid (p1 : Int32) (S : Wo) : Option (Int32) :=
  (if inb 2 112 = true then (spX7_certified (S.2.1 167 (ix 2)) S).bind (fun x1 => (if inb 2 112 = true then (spX7_holds p1 x1 (S.2.1 167 (ix 2)) S).bind (fun x2 => rz x2 some) else none)) else none)
set_option maxHeartbeats 4000000 in
set_option maxRecDepth 100000 in
theorem mtX7_isValid {l : Launch} (hl0 : l.stackTraces = false) {G : Gt} (p1 : Int32) {S : Wo} : ∀ x, spX7_isValid p1 S = some x → MI l yX7_isValid wsX7_isValid { frames := 3, cells := 0, slots := 0, locals := 69 } G S [rf G 166, .int p1] (x, S) 0 0 := by
  refine MIp_of (cc := cX7_isValid) (own := RX7) (maxL := 2) (ret := (some .boolean)) (sp := spX7_isValid p1 S) (by decide +kernel) rfl rfl (Nat.le_of_ble_eq_true rfl) ?_
  intro p e s m args below meth c X
  have hinX7 : ∀ w ∈ wsX70, w ∈ wsX7_isValid := by decide +kernel
  show VS G p l e _ s m args below meth c 2 _ _ 0 0 S 0 [(0, rf G 166), (1, .int p1)] []
  unfold spX7_isValid
  refine vs_aload_n X dX7_isValid_0 0 rfl ?_
  refine vs_iload_n X dX7_isValid_1 1 rfl ?_
  refine vs_aload_n X dX7_isValid_2 0 rfl ?_
  refine vs_aload_n X dX7_isValid_3 0 rfl ?_
  refine g_Mod  X hinX7 0 (by decide) (by decide +kernel) rfl rfl dX7_isValid_4 ?_
  refine vs_iconst X (v := 2) dX7_isValid_7 (by decide) ?_
  refine vs_iald X (by decide) (by decide) rfl dX7_isValid_8 ?_
  refine vs_callVp X  (As := [.int (S.2.1 167 (ix 2))]) (st' := [.int p1, rf G 166]) (mtX7_certified hl0 (S.2.1 167 (ix 2))) (cwV 1 X.2.2.2.2.1 gX7_isValid_X7_certified rfl rfl rfl (by decide +kernel) ⟨Nat.le_of_ble_eq_true rfl, Nat.le_of_ble_eq_true rfl⟩) (by decide) (by decide) rfl rfl rfl (Nat.le_of_ble_eq_true rfl) dX7_isValid_9 ⟨Nat.le_of_ble_eq_true rfl, Nat.le_of_ble_eq_true rfl⟩ (fun x1 hx1 => ?_)
  refine vs_aload_n X dX7_isValid_12 0 rfl ?_
  refine g_Mod  X hinX7 0 (by decide) (by decide +kernel) rfl rfl dX7_isValid_13 ?_
  refine vs_iconst X (v := 2) dX7_isValid_16 (by decide) ?_
  refine vs_iald X (by decide) (by decide) rfl dX7_isValid_17 ?_
  refine vs_callVp X  (As := [.int p1, .int x1, .int (S.2.1 167 (ix 2))]) (st' := []) (mtX7_holds hl0 p1 x1 (S.2.1 167 (ix 2))) (cwV 3 X.2.2.2.2.1 gX7_isValid_X7_holds rfl rfl rfl (by decide +kernel) ⟨Nat.le_of_ble_eq_true rfl, Nat.le_of_ble_eq_true rfl⟩) (by decide) (by decide) rfl rfl rfl (Nat.le_of_ble_eq_true rfl) dX7_isValid_18 ⟨Nat.le_of_ble_eq_true rfl, Nat.le_of_ble_eq_true rfl⟩ (fun x2 hx2 => ?_)
  exact vs_zretp X dX7_isValid_21 (by decide) (by decide)

def lpX7_validOf_4 (p1 : Int32) (S : Wo)   : Nat → Int32 → Int32 → Option (Int32)
  | 0, _, _ => none
  | f + 1, v2, v3 => (if inb 1 112 = true then (if (S.2.1 167 (ix 1)) ≤ v3 then some v2 else (spX7_of v3 1 S).bind (fun x2 => (if x2 = p1 then (spX7_isValid v3 S).bind (fun x3 => (if x3 = 0 then lpX7_validOf_4 p1 S f (v2 + 0) (v3 + 1) else lpX7_validOf_4 p1 S f (v2 + 1) (v3 + 1))) else lpX7_validOf_4 p1 S f (v2 + 0) (v3 + 1)))) else none)
def spX7_validOf (p1 : Int32) (S : Wo) : Option (Int32) :=
  lpX7_validOf_4 p1 S 200 0 0
set_option maxHeartbeats 4000000 in
set_option maxRecDepth 100000 in
theorem mtX7_validOf {l : Launch} (hl0 : l.stackTraces = false) {G : Gt} (p1 : Int32) {S : Wo} : ∀ x, spX7_validOf p1 S = some x → MI l yX7_validOf wsX7_validOf { frames := 4, cells := 0, slots := 0, locals := 90 } G S [rf G 166, .int p1] (x, S) 0 0 := by
  refine MIp_of (cc := cX7_validOf) (own := RX7) (maxL := 4) (ret := (some .int)) (sp := spX7_validOf p1 S) (by decide +kernel) rfl rfl (Nat.le_of_ble_eq_true rfl) ?_
  intro p e s m args below meth c X
  have hinX7 : ∀ w ∈ wsX70, w ∈ wsX7_validOf := by decide +kernel
  show VS G p l e _ s m args below meth c 4 _ _ 0 0 S 0 [(0, rf G 166), (1, .int p1)] []
  unfold spX7_validOf
  refine vs_iconst X (v := 0) dX7_validOf_0 (by decide) ?_
  refine vs_istore_n X (lv' := [(2, .int 0), (0, rf G 166), (1, .int p1)]) dX7_validOf_1 (by decide) rfl ?_
  refine vs_iconst X (v := 0) dX7_validOf_2 (by decide) ?_
  refine vs_istore_n X (lv' := [(3, .int 0), (2, .int 0), (0, rf G 166), (1, .int p1)]) dX7_validOf_3 (by decide) rfl ?_
  have L1 : ∀ (f : Nat) (v2 : Int32) (v3 : Int32), VS G p l e ({ frames := 4, cells := 0, slots := 0, locals := 90 } : Room) s m args below meth c 4 (fun x => MQ below (QI G (x, S)) args s 0 0 (Af G)) (lpX7_validOf_4 p1 S f v2 v3) 0 0 S 4 [(0, rf G 166), (1, .int p1), (2, .int v2), (3, .int v3)] [] := by
    intro f
    induction f with
    | zero => intro v2 v3; exact vs_none rfl
    | succ f ih =>
        intro v2 v3
        rw [lpX7_validOf_4]
        refine vs_iload_n X dX7_validOf_4 3 rfl ?_
        refine vs_aload_n X dX7_validOf_5 0 rfl ?_
        refine g_Mod  X hinX7 0 (by decide) (by decide +kernel) rfl rfl dX7_validOf_6 ?_
        refine vs_iconst X (v := 1) dX7_validOf_9 (by decide) ?_
        refine vs_iald X (by decide) (by decide) rfl dX7_validOf_10 ?_
        refine vs_icmp_ge X (tgt := 46) dX7_validOf_11 (by decide) (fun _ => ?_) (fun _ => ?_)
        · refine vs_iload_n X dX7_validOf_46 2 rfl ?_
          exact vs_iretp X dX7_validOf_47 (by decide) (by decide)
        · refine vs_iload_n X dX7_validOf_14 2 rfl ?_
          refine vs_aload_n X dX7_validOf_15 0 rfl ?_
          refine vs_iload_n X dX7_validOf_16 3 rfl ?_
          refine vs_iconst X (v := 1) dX7_validOf_17 (by decide) ?_
          refine vs_callVp X  (As := [.int v3, .int 1]) (st' := [.int v2]) (mtX7_of hl0 v3 1) (cwV 2 X.2.2.2.2.1 gX7_validOf_X7_of rfl rfl rfl (by decide +kernel) ⟨Nat.le_of_ble_eq_true rfl, Nat.le_of_ble_eq_true rfl⟩) (by decide) (by decide) rfl rfl rfl (Nat.le_of_ble_eq_true rfl) dX7_validOf_18 ⟨Nat.le_of_ble_eq_true rfl, Nat.le_of_ble_eq_true rfl⟩ (fun x2 hx2 => ?_)
          refine vs_iload_n X dX7_validOf_21 1 rfl ?_
          refine vs_icmp_ne X (tgt := 37) dX7_validOf_22 (by decide) (fun _ => ?_) (fun _ => ?_)
          · refine vs_aload_n X dX7_validOf_25 0 rfl ?_
            refine vs_iload_n X dX7_validOf_26 3 rfl ?_
            refine vs_callVp X  (As := [.int v3]) (st' := [.int v2]) (mtX7_isValid hl0 v3) (cwV 1 X.2.2.2.2.1 gX7_validOf_X7_isValid rfl rfl rfl (by decide +kernel) ⟨Nat.le_of_ble_eq_true rfl, Nat.le_of_ble_eq_true rfl⟩) (by decide) (by decide) rfl rfl rfl (Nat.le_of_ble_eq_true rfl) dX7_validOf_27 ⟨Nat.le_of_ble_eq_true rfl, Nat.le_of_ble_eq_true rfl⟩ (fun x3 hx3 => ?_)
            refine vs_if_eq X (tgt := 37) dX7_validOf_30 (by decide) (fun _ => ?_) (fun _ => ?_)
            · refine vs_iconst X (v := 0) dX7_validOf_37 (by decide) ?_
              refine vs_iadd X dX7_validOf_38 ?_
              refine vs_istore_n X (lv' := [(2, .int (v2 + 0)), (0, rf G 166), (1, .int p1), (3, .int v3)]) dX7_validOf_39 (by decide) rfl ?_
              refine vs_iinc X (v := (v3 + 1)) (lv' := [(3, .int (v3 + 1)), (2, .int (v2 + 0)), (0, rf G 166), (1, .int p1)]) dX7_validOf_40 3 rfl rfl (by decide) rfl ?_
              refine vs_goto X (tgt := 4) dX7_validOf_43 (by decide) ?_
              refine vs_sub [2, 3, 1, 0] (lv' := [(0, rf G 166), (1, .int p1), (2, .int (v2 + 0)), (3, .int (v3 + 1))]) rfl ?_
              exact ih (v2 + 0) (v3 + 1)
            · refine vs_iconst X (v := 1) dX7_validOf_33 (by decide) ?_
              refine vs_goto X (tgt := 38) dX7_validOf_34 (by decide) ?_
              refine vs_iadd X dX7_validOf_38 ?_
              refine vs_istore_n X (lv' := [(2, .int (v2 + 1)), (0, rf G 166), (1, .int p1), (3, .int v3)]) dX7_validOf_39 (by decide) rfl ?_
              refine vs_iinc X (v := (v3 + 1)) (lv' := [(3, .int (v3 + 1)), (2, .int (v2 + 1)), (0, rf G 166), (1, .int p1)]) dX7_validOf_40 3 rfl rfl (by decide) rfl ?_
              refine vs_goto X (tgt := 4) dX7_validOf_43 (by decide) ?_
              refine vs_sub [2, 3, 1, 0] (lv' := [(0, rf G 166), (1, .int p1), (2, .int (v2 + 1)), (3, .int (v3 + 1))]) rfl ?_
              exact ih (v2 + 1) (v3 + 1)
          · refine vs_iconst X (v := 0) dX7_validOf_37 (by decide) ?_
            refine vs_iadd X dX7_validOf_38 ?_
            refine vs_istore_n X (lv' := [(2, .int (v2 + 0)), (0, rf G 166), (1, .int p1), (3, .int v3)]) dX7_validOf_39 (by decide) rfl ?_
            refine vs_iinc X (v := (v3 + 1)) (lv' := [(3, .int (v3 + 1)), (2, .int (v2 + 0)), (0, rf G 166), (1, .int p1)]) dX7_validOf_40 3 rfl rfl (by decide) rfl ?_
            refine vs_goto X (tgt := 4) dX7_validOf_43 (by decide) ?_
            refine vs_sub [2, 3, 1, 0] (lv' := [(0, rf G 166), (1, .int p1), (2, .int (v2 + 0)), (3, .int (v3 + 1))]) rfl ?_
            exact ih (v2 + 0) (v3 + 1)
  refine vs_sub [2, 3, 1, 0] (lv' := [(0, rf G 166), (1, .int p1), (2, .int 0), (3, .int 0)]) rfl ?_
  exact L1 200 0 0

def lpX7_scarecrowByCertificates_17 (p1 : Int32) (w2 : Int32) (K : Int32 → Int32 → Wo → Option (Int32 × Wo)) : Nat → Int32 → Int32 → Wo → Option (Int32 × Wo)
  | 0, _, _, _ => none
  | f + 1, v3, v4, S5 => (if inb 0 112 = true then (if (S5.2.1 167 (ix 0)) ≤ v4 then K v3 v4 S5 else (spX7_validOf v4 S5).bind (fun x6 => (spX7_validOf w2 S5).bind (fun x7 => (if x7 < x6 then lpX7_scarecrowByCertificates_17 p1 w2 K f (v3 + 1) (v4 + 1) S5 else (spX7_validOf v4 S5).bind (fun x8 => (spX7_validOf w2 S5).bind (fun x9 => (if x8 = x9 then (if w2 ≤ v4 then lpX7_scarecrowByCertificates_17 p1 w2 K f (v3 + 0) (v4 + 1) S5 else lpX7_scarecrowByCertificates_17 p1 w2 K f (v3 + 1) (v4 + 1) S5) else lpX7_scarecrowByCertificates_17 p1 w2 K f (v3 + 0) (v4 + 1) S5))))))) else none)
def lpX7_scarecrowByCertificates_2 (p1 : Int32)   : Nat → Int32 → Wo → Option (Int32 × Wo)
  | 0, _, _ => none
  | f + 1, v2, S2 => (if inb 0 112 = true then (if (S2.2.1 167 (ix 0)) ≤ v2 then wr (pI S2 166 9 1) (fun S3 => some (0, S3)) else lpX7_scarecrowByCertificates_17 p1 v2 (fun (u10 : Int32) (u11 : Int32) (S12 : Wo) => (if u10 = p1 then wr (pI S12 166 9 0) (fun S13 => some (v2, S13)) else lpX7_scarecrowByCertificates_2 p1 f (v2 + 1) S12)) 200 0 0 S2) else none)
def spX7_scarecrowByCertificates (p1 : Int32) (S : Wo) : Option (Int32 × Wo) :=
  lpX7_scarecrowByCertificates_2 p1 200 0 S
set_option maxHeartbeats 4000000 in
set_option maxRecDepth 100000 in
theorem mtX7_scarecrowByCertificates {l : Launch} (hl0 : l.stackTraces = false) {G : Gt} (p1 : Int32) {S : Wo} : ∀ rr, spX7_scarecrowByCertificates p1 S = some rr → MI l yX7_scarecrowByCertificates wsX7_scarecrowByCertificates { frames := 5, cells := 0, slots := 0, locals := 113 } G S [rf G 166, .int p1] rr 0 0 := by
  refine MI_of (cc := cX7_scarecrowByCertificates) (own := RX7) (maxL := 5) (ret := (some .int)) (sp := spX7_scarecrowByCertificates p1 S) (by decide +kernel) rfl rfl (Nat.le_of_ble_eq_true rfl) ?_
  intro p e s m args below meth c X
  have hinX7 : ∀ w ∈ wsX70, w ∈ wsX7_scarecrowByCertificates := by decide +kernel
  show VS G p l e _ s m args below meth c 5 _ _ 0 0 S 0 [(0, rf G 166), (1, .int p1)] []
  unfold spX7_scarecrowByCertificates
  refine vs_iconst X (v := 0) dX7_scarecrowByCertificates_0 (by decide) ?_
  refine vs_istore_n X (lv' := [(2, .int 0), (0, rf G 166), (1, .int p1)]) dX7_scarecrowByCertificates_1 (by decide) rfl ?_
  have L1 : ∀ (f : Nat) (v2 : Int32) (S2 : Wo), VS G p l e ({ frames := 5, cells := 0, slots := 0, locals := 113 } : Room) s m args below meth c 5 (fun r => MQ below (QI G r) args s 0 0 (Af G)) (lpX7_scarecrowByCertificates_2 p1 f v2 S2) 0 0 S2 2 [(0, rf G 166), (1, .int p1), (2, .int v2)] [] := by
    intro f
    induction f with
    | zero => intro v2 S2; exact vs_none rfl
    | succ f ih =>
        intro v2 S2
        rw [lpX7_scarecrowByCertificates_2]
        refine vs_iload_n X dX7_scarecrowByCertificates_2 2 rfl ?_
        refine vs_aload_n X dX7_scarecrowByCertificates_3 0 rfl ?_
        refine g_Mod  X hinX7 0 (by decide) (by decide +kernel) rfl rfl dX7_scarecrowByCertificates_4 ?_
        refine vs_iconst X (v := 0) dX7_scarecrowByCertificates_7 (by decide) ?_
        refine vs_iald X (by decide) (by decide) rfl dX7_scarecrowByCertificates_8 ?_
        refine vs_icmp_ge X (tgt := 97) dX7_scarecrowByCertificates_9 (by decide) (fun _ => ?_) (fun _ => ?_)
        · refine vs_aload_n X dX7_scarecrowByCertificates_97 0 rfl ?_
          refine vs_iconst X (v := 1) dX7_scarecrowByCertificates_98 (by decide) ?_
          refine p_Mod  X hinX7 9 (by decide) (by decide +kernel) rfl rfl rfl rfl rfl rfl dX7_scarecrowByCertificates_99 (fun S3 hS3 => ?_)
          refine vs_iconst X (v := 0) dX7_scarecrowByCertificates_102 (by decide) ?_
          exact vs_iret X dX7_scarecrowByCertificates_103 (by decide) (by decide)
        · refine vs_iconst X (v := 0) dX7_scarecrowByCertificates_12 (by decide) ?_
          refine vs_istore_n X (lv' := [(3, .int 0), (0, rf G 166), (1, .int p1), (2, .int v2)]) dX7_scarecrowByCertificates_13 (by decide) rfl ?_
          refine vs_iconst X (v := 0) dX7_scarecrowByCertificates_14 (by decide) ?_
          refine vs_istore X (lv' := [(4, .int 0), (3, .int 0), (0, rf G 166), (1, .int p1), (2, .int v2)]) dX7_scarecrowByCertificates_15 (by decide) rfl ?_
          have L4 : ∀ (w2 : Int32) (K : Int32 → Int32 → Wo → Option (Int32 × Wo)) (hK : ∀ (v3 : Int32) (v4 : Int32) (S5 : Wo), VS G p l e ({ frames := 5, cells := 0, slots := 0, locals := 113 } : Room) s m args below meth c 5 (fun r => MQ below (QI G r) args s 0 0 (Af G)) (K v3 v4 S5) 0 0 S5 76 [(0, rf G 166), (1, .int p1), (2, .int w2), (3, .int v3), (4, .int v4)] []) (f : Nat) (v3 : Int32) (v4 : Int32) (S5 : Wo), VS G p l e ({ frames := 5, cells := 0, slots := 0, locals := 113 } : Room) s m args below meth c 5 (fun r => MQ below (QI G r) args s 0 0 (Af G)) (lpX7_scarecrowByCertificates_17 p1 w2 K f v3 v4 S5) 0 0 S5 17 [(0, rf G 166), (1, .int p1), (2, .int w2), (3, .int v3), (4, .int v4)] [] := by
            intro w2 K hK f
            induction f with
            | zero => intro v3 v4 S5; exact vs_none rfl
            | succ f ih =>
                intro v3 v4 S5
                rw [lpX7_scarecrowByCertificates_17]
                refine vs_iload X dX7_scarecrowByCertificates_17 4 rfl ?_
                refine vs_aload_n X dX7_scarecrowByCertificates_19 0 rfl ?_
                refine g_Mod  X hinX7 0 (by decide) (by decide +kernel) rfl rfl dX7_scarecrowByCertificates_20 ?_
                refine vs_iconst X (v := 0) dX7_scarecrowByCertificates_23 (by decide) ?_
                refine vs_iald X (by decide) (by decide) rfl dX7_scarecrowByCertificates_24 ?_
                refine vs_icmp_ge X (tgt := 76) dX7_scarecrowByCertificates_25 (by decide) (fun _ => ?_) (fun _ => ?_)
                · refine vs_sub [0, 1, 2, 3, 4] (lv' := [(0, rf G 166), (1, .int p1), (2, .int w2), (3, .int v3), (4, .int v4)]) rfl ?_
                  exact hK v3 v4 S5
                · refine vs_iload_n X dX7_scarecrowByCertificates_28 3 rfl ?_
                  refine vs_aload_n X dX7_scarecrowByCertificates_29 0 rfl ?_
                  refine vs_iload X dX7_scarecrowByCertificates_30 4 rfl ?_
                  refine vs_callVp X  (As := [.int v4]) (st' := [.int v3]) (mtX7_validOf hl0 v4) (cwV 1 X.2.2.2.2.1 gX7_scarecrowByCertificates_X7_validOf rfl rfl rfl (by decide +kernel) ⟨Nat.le_of_ble_eq_true rfl, Nat.le_of_ble_eq_true rfl⟩) (by decide) (by decide) rfl rfl rfl (Nat.le_of_ble_eq_true rfl) dX7_scarecrowByCertificates_32 ⟨Nat.le_of_ble_eq_true rfl, Nat.le_of_ble_eq_true rfl⟩ (fun x6 hx6 => ?_)
                  refine vs_aload_n X dX7_scarecrowByCertificates_35 0 rfl ?_
                  refine vs_iload_n X dX7_scarecrowByCertificates_36 2 rfl ?_
                  refine vs_callVp X  (As := [.int w2]) (st' := [.int x6, .int v3]) (mtX7_validOf hl0 w2) (cwV 1 X.2.2.2.2.1 gX7_scarecrowByCertificates_X7_validOf rfl rfl rfl (by decide +kernel) ⟨Nat.le_of_ble_eq_true rfl, Nat.le_of_ble_eq_true rfl⟩) (by decide) (by decide) rfl rfl rfl (Nat.le_of_ble_eq_true rfl) dX7_scarecrowByCertificates_37 ⟨Nat.le_of_ble_eq_true rfl, Nat.le_of_ble_eq_true rfl⟩ (fun x7 hx7 => ?_)
                  refine vs_icmp_gt X (tgt := 63) dX7_scarecrowByCertificates_40 (by decide) (fun _ => ?_) (fun _ => ?_)
                  · refine vs_iconst X (v := 1) dX7_scarecrowByCertificates_63 (by decide) ?_
                    refine vs_goto X (tgt := 68) dX7_scarecrowByCertificates_64 (by decide) ?_
                    refine vs_iadd X dX7_scarecrowByCertificates_68 ?_
                    refine vs_istore_n X (lv' := [(3, .int (v3 + 1)), (0, rf G 166), (1, .int p1), (2, .int w2), (4, .int v4)]) dX7_scarecrowByCertificates_69 (by decide) rfl ?_
                    refine vs_iinc X (v := (v4 + 1)) (lv' := [(4, .int (v4 + 1)), (3, .int (v3 + 1)), (0, rf G 166), (1, .int p1), (2, .int w2)]) dX7_scarecrowByCertificates_70 4 rfl rfl (by decide) rfl ?_
                    refine vs_goto X (tgt := 17) dX7_scarecrowByCertificates_73 (by decide) ?_
                    refine vs_sub [2, 3, 4, 1, 0] (lv' := [(0, rf G 166), (1, .int p1), (2, .int w2), (3, .int (v3 + 1)), (4, .int (v4 + 1))]) rfl ?_
                    exact ih (v3 + 1) (v4 + 1) S5
                  · refine vs_aload_n X dX7_scarecrowByCertificates_43 0 rfl ?_
                    refine vs_iload X dX7_scarecrowByCertificates_44 4 rfl ?_
                    refine vs_callVp X  (As := [.int v4]) (st' := [.int v3]) (mtX7_validOf hl0 v4) (cwV 1 X.2.2.2.2.1 gX7_scarecrowByCertificates_X7_validOf rfl rfl rfl (by decide +kernel) ⟨Nat.le_of_ble_eq_true rfl, Nat.le_of_ble_eq_true rfl⟩) (by decide) (by decide) rfl rfl rfl (Nat.le_of_ble_eq_true rfl) dX7_scarecrowByCertificates_46 ⟨Nat.le_of_ble_eq_true rfl, Nat.le_of_ble_eq_true rfl⟩ (fun x8 hx8 => ?_)
                    refine vs_aload_n X dX7_scarecrowByCertificates_49 0 rfl ?_
                    refine vs_iload_n X dX7_scarecrowByCertificates_50 2 rfl ?_
                    refine vs_callVp X  (As := [.int w2]) (st' := [.int x8, .int v3]) (mtX7_validOf hl0 w2) (cwV 1 X.2.2.2.2.1 gX7_scarecrowByCertificates_X7_validOf rfl rfl rfl (by decide +kernel) ⟨Nat.le_of_ble_eq_true rfl, Nat.le_of_ble_eq_true rfl⟩) (by decide) (by decide) rfl rfl rfl (Nat.le_of_ble_eq_true rfl) dX7_scarecrowByCertificates_51 ⟨Nat.le_of_ble_eq_true rfl, Nat.le_of_ble_eq_true rfl⟩ (fun x9 hx9 => ?_)
                    refine vs_icmp_ne X (tgt := 67) dX7_scarecrowByCertificates_54 (by decide) (fun _ => ?_) (fun _ => ?_)
                    · refine vs_iload X dX7_scarecrowByCertificates_57 4 rfl ?_
                      refine vs_iload_n X dX7_scarecrowByCertificates_59 2 rfl ?_
                      refine vs_icmp_ge X (tgt := 67) dX7_scarecrowByCertificates_60 (by decide) (fun _ => ?_) (fun _ => ?_)
                      · refine vs_iconst X (v := 0) dX7_scarecrowByCertificates_67 (by decide) ?_
                        refine vs_iadd X dX7_scarecrowByCertificates_68 ?_
                        refine vs_istore_n X (lv' := [(3, .int (v3 + 0)), (0, rf G 166), (1, .int p1), (2, .int w2), (4, .int v4)]) dX7_scarecrowByCertificates_69 (by decide) rfl ?_
                        refine vs_iinc X (v := (v4 + 1)) (lv' := [(4, .int (v4 + 1)), (3, .int (v3 + 0)), (0, rf G 166), (1, .int p1), (2, .int w2)]) dX7_scarecrowByCertificates_70 4 rfl rfl (by decide) rfl ?_
                        refine vs_goto X (tgt := 17) dX7_scarecrowByCertificates_73 (by decide) ?_
                        refine vs_sub [2, 3, 4, 1, 0] (lv' := [(0, rf G 166), (1, .int p1), (2, .int w2), (3, .int (v3 + 0)), (4, .int (v4 + 1))]) rfl ?_
                        exact ih (v3 + 0) (v4 + 1) S5
                      · refine vs_iconst X (v := 1) dX7_scarecrowByCertificates_63 (by decide) ?_
                        refine vs_goto X (tgt := 68) dX7_scarecrowByCertificates_64 (by decide) ?_
                        refine vs_iadd X dX7_scarecrowByCertificates_68 ?_
                        refine vs_istore_n X (lv' := [(3, .int (v3 + 1)), (0, rf G 166), (1, .int p1), (2, .int w2), (4, .int v4)]) dX7_scarecrowByCertificates_69 (by decide) rfl ?_
                        refine vs_iinc X (v := (v4 + 1)) (lv' := [(4, .int (v4 + 1)), (3, .int (v3 + 1)), (0, rf G 166), (1, .int p1), (2, .int w2)]) dX7_scarecrowByCertificates_70 4 rfl rfl (by decide) rfl ?_
                        refine vs_goto X (tgt := 17) dX7_scarecrowByCertificates_73 (by decide) ?_
                        refine vs_sub [2, 3, 4, 1, 0] (lv' := [(0, rf G 166), (1, .int p1), (2, .int w2), (3, .int (v3 + 1)), (4, .int (v4 + 1))]) rfl ?_
                        exact ih (v3 + 1) (v4 + 1) S5
                    · refine vs_iconst X (v := 0) dX7_scarecrowByCertificates_67 (by decide) ?_
                      refine vs_iadd X dX7_scarecrowByCertificates_68 ?_
                      refine vs_istore_n X (lv' := [(3, .int (v3 + 0)), (0, rf G 166), (1, .int p1), (2, .int w2), (4, .int v4)]) dX7_scarecrowByCertificates_69 (by decide) rfl ?_
                      refine vs_iinc X (v := (v4 + 1)) (lv' := [(4, .int (v4 + 1)), (3, .int (v3 + 0)), (0, rf G 166), (1, .int p1), (2, .int w2)]) dX7_scarecrowByCertificates_70 4 rfl rfl (by decide) rfl ?_
                      refine vs_goto X (tgt := 17) dX7_scarecrowByCertificates_73 (by decide) ?_
                      refine vs_sub [2, 3, 4, 1, 0] (lv' := [(0, rf G 166), (1, .int p1), (2, .int w2), (3, .int (v3 + 0)), (4, .int (v4 + 1))]) rfl ?_
                      exact ih (v3 + 0) (v4 + 1) S5
          refine vs_sub [2, 3, 4, 1, 0] (lv' := [(0, rf G 166), (1, .int p1), (2, .int v2), (3, .int 0), (4, .int 0)]) rfl ?_
          refine L4 v2 (fun (u10 : Int32) (u11 : Int32) (S12 : Wo) => (if u10 = p1 then wr (pI S12 166 9 0) (fun S13 => some (v2, S13)) else lpX7_scarecrowByCertificates_2 p1 f (v2 + 1) S12)) (fun u10 u11 S12 => ?_) 200 0 0 S2
          refine vs_iload_n X dX7_scarecrowByCertificates_76 3 rfl ?_
          refine vs_iload_n X dX7_scarecrowByCertificates_77 1 rfl ?_
          refine vs_icmp_eq X (tgt := 84) dX7_scarecrowByCertificates_78 (by decide) (fun _ => ?_) (fun _ => ?_)
          · refine vs_aload_n X dX7_scarecrowByCertificates_84 0 rfl ?_
            refine vs_iconst X (v := 0) dX7_scarecrowByCertificates_85 (by decide) ?_
            refine p_Mod  X hinX7 9 (by decide) (by decide +kernel) rfl rfl rfl rfl rfl rfl dX7_scarecrowByCertificates_86 (fun S13 hS13 => ?_)
            refine vs_iload_n X dX7_scarecrowByCertificates_89 2 rfl ?_
            exact vs_iret X dX7_scarecrowByCertificates_90 (by decide) (by decide)
          · refine vs_goto X (tgt := 91) dX7_scarecrowByCertificates_81 (by decide) ?_
            refine vs_iinc X (v := (v2 + 1)) (lv' := [(2, .int (v2 + 1)), (0, rf G 166), (1, .int p1), (3, .int u10), (4, .int u11)]) dX7_scarecrowByCertificates_91 2 rfl rfl (by decide) rfl ?_
            refine vs_goto X (tgt := 2) dX7_scarecrowByCertificates_94 (by decide) ?_
            refine vs_sub [1, 2, 0] (lv' := [(0, rf G 166), (1, .int p1), (2, .int (v2 + 1))]) rfl ?_
            exact ih (v2 + 1) S12
  refine vs_sub [1, 2, 0] (lv' := [(0, rf G 166), (1, .int p1), (2, .int 0)]) rfl ?_
  exact L1 200 0 S

def spX7_adds (p1 : Int32) (p2 : Int32) (p3 : Int32) (S : Wo) : Option (Int32 × Wo) :=
  (spX7_keeps 167 112 S).bind (fun S1 => (if inb 1 112 = true then (if inb ((32 + (4 * (S1.2.1 167 (ix 1)))) + 0) 112 = true then wr (pF S1 167 (upd (S1.2.1 167) (ix ((32 + (4 * (S1.2.1 167 (ix 1)))) + 0)) p1)) (fun S2 => (if inb ((32 + (4 * (S1.2.1 167 (ix 1)))) + 1) 112 = true then wr (pF S2 167 (upd (S2.2.1 167) (ix ((32 + (4 * (S1.2.1 167 (ix 1)))) + 1)) p2)) (fun S3 => (if inb (5 + p2) 112 = true then (if inb ((32 + (4 * (S1.2.1 167 (ix 1)))) + 2) 112 = true then wr (pF S3 167 (upd (S3.2.1 167) (ix ((32 + (4 * (S1.2.1 167 (ix 1)))) + 2)) (S3.2.1 167 (ix (5 + p2))))) (fun S4 => (if inb 2 112 = true then (if inb ((32 + (4 * (S1.2.1 167 (ix 1)))) + 3) 112 = true then wr (pF S4 167 (upd (S4.2.1 167) (ix ((32 + (4 * (S1.2.1 167 (ix 1)))) + 3)) ((S4.2.1 167 (ix 2)) + p3))) (fun S5 => (if inb 1 112 = true then (if inb 1 112 = true then wr (pF S5 167 (upd (S5.2.1 167) (ix 1) ((S5.2.1 167 (ix 1)) + 1))) (fun S6 => (if inb 1 112 = true then some (((S6.2.1 167 (ix 1)) - 1), S6) else none)) else none) else none)) else none) else none)) else none) else none)) else none)) else none) else none))
set_option maxHeartbeats 4000000 in
set_option maxRecDepth 100000 in
theorem mtX7_adds {l : Launch} (hl0 : l.stackTraces = false) {G : Gt} (p1 : Int32) (p2 : Int32) (p3 : Int32) {S : Wo} : ∀ rr, spX7_adds p1 p2 p3 S = some rr → MI l yX7_adds wsX7_adds { frames := 2, cells := 0, slots := 0, locals := 46 } G S [rf G 166, .int p1, .int p2, .int p3] rr 0 0 := by
  refine MI_of (cc := cX7_adds) (own := RX7) (maxL := 5) (ret := (some .int)) (sp := spX7_adds p1 p2 p3 S) (by decide +kernel) rfl rfl (Nat.le_of_ble_eq_true rfl) ?_
  intro p e s m args below meth c X
  have hinX7 : ∀ w ∈ wsX70, w ∈ wsX7_adds := by decide +kernel
  show VS G p l e _ s m args below meth c 5 _ _ 0 0 S 0 [(0, rf G 166), (1, .int p1), (2, .int p2), (3, .int p3)] []
  unfold spX7_adds
  refine vs_aload_n X dX7_adds_0 0 rfl ?_
  refine vs_aload_n X dX7_adds_1 0 rfl ?_
  refine g_Mod  X hinX7 0 (by decide) (by decide +kernel) rfl rfl dX7_adds_2 ?_
  refine vs_callVv X  (As := [rf G 167]) (st' := []) (mtX7_keeps hl0 isIA_167) (cwV 1 X.2.2.2.2.1 gX7_adds_X7_keeps rfl rfl rfl (by decide +kernel) ⟨Nat.le_of_ble_eq_true rfl, Nat.le_of_ble_eq_true rfl⟩) (by decide) (by decide) rfl rfl rfl (Nat.le_of_ble_eq_true rfl) dX7_adds_5 ⟨Nat.le_of_ble_eq_true rfl, Nat.le_of_ble_eq_true rfl⟩ (fun S1 hS1 => ?_)
  refine vs_bipush X (v := 32) dX7_adds_8 (by decide) ?_
  refine vs_iconst X (v := 4) dX7_adds_10 (by decide) ?_
  refine vs_aload_n X dX7_adds_11 0 rfl ?_
  refine g_Mod  X hinX7 0 (by decide) (by decide +kernel) rfl rfl dX7_adds_12 ?_
  refine vs_iconst X (v := 1) dX7_adds_15 (by decide) ?_
  refine vs_iald X (by decide) (by decide) rfl dX7_adds_16 ?_
  refine vs_imul X dX7_adds_17 ?_
  refine vs_iadd X dX7_adds_18 ?_
  refine vs_istore X (lv' := [(4, .int (32 + (4 * (S1.2.1 167 (ix 1))))), (0, rf G 166), (1, .int p1), (2, .int p2), (3, .int p3)]) dX7_adds_19 (by decide) rfl ?_
  refine vs_aload_n X dX7_adds_21 1 rfl ?_
  refine g_Mod  X hinX7 0 (by decide) (by decide +kernel) rfl rfl dX7_adds_22 ?_
  refine vs_iload X dX7_adds_25 0 rfl ?_
  refine vs_iconst X (v := 0) dX7_adds_27 (by decide) ?_
  refine vs_iadd X dX7_adds_28 ?_
  refine vs_iload_n X dX7_adds_29 2 rfl ?_
  refine vs_iast X (by decide) (by decide) (fun _ => rfl) dX7_adds_30 (fun S2 hS2 => ?_)
  refine vs_aload_n X dX7_adds_31 1 rfl ?_
  refine g_Mod  X hinX7 0 (by decide) (by decide +kernel) rfl rfl dX7_adds_32 ?_
  refine vs_iload X dX7_adds_35 0 rfl ?_
  refine vs_iconst X (v := 1) dX7_adds_37 (by decide) ?_
  refine vs_iadd X dX7_adds_38 ?_
  refine vs_iload_n X dX7_adds_39 3 rfl ?_
  refine vs_iast X (by decide) (by decide) (fun _ => rfl) dX7_adds_40 (fun S3 hS3 => ?_)
  refine vs_aload_n X dX7_adds_41 1 rfl ?_
  refine g_Mod  X hinX7 0 (by decide) (by decide +kernel) rfl rfl dX7_adds_42 ?_
  refine vs_iload X dX7_adds_45 0 rfl ?_
  refine vs_iconst X (v := 2) dX7_adds_47 (by decide) ?_
  refine vs_iadd X dX7_adds_48 ?_
  refine vs_aload_n X dX7_adds_49 1 rfl ?_
  refine g_Mod  X hinX7 0 (by decide) (by decide +kernel) rfl rfl dX7_adds_50 ?_
  refine vs_iconst X (v := 5) dX7_adds_53 (by decide) ?_
  refine vs_iload_n X dX7_adds_54 3 rfl ?_
  refine vs_iadd X dX7_adds_55 ?_
  refine vs_iald X (by decide) (by decide) rfl dX7_adds_56 ?_
  refine vs_iast X (by decide) (by decide) (fun _ => rfl) dX7_adds_57 (fun S4 hS4 => ?_)
  refine vs_aload_n X dX7_adds_58 1 rfl ?_
  refine g_Mod  X hinX7 0 (by decide) (by decide +kernel) rfl rfl dX7_adds_59 ?_
  refine vs_iload X dX7_adds_62 0 rfl ?_
  refine vs_iconst X (v := 3) dX7_adds_64 (by decide) ?_
  refine vs_iadd X dX7_adds_65 ?_
  refine vs_aload_n X dX7_adds_66 1 rfl ?_
  refine g_Mod  X hinX7 0 (by decide) (by decide +kernel) rfl rfl dX7_adds_67 ?_
  refine vs_iconst X (v := 2) dX7_adds_70 (by decide) ?_
  refine vs_iald X (by decide) (by decide) rfl dX7_adds_71 ?_
  refine vs_iload_n X dX7_adds_72 4 rfl ?_
  refine vs_iadd X dX7_adds_73 ?_
  refine vs_iast X (by decide) (by decide) (fun _ => rfl) dX7_adds_74 (fun S5 hS5 => ?_)
  refine vs_aload_n X dX7_adds_75 1 rfl ?_
  refine g_Mod  X hinX7 0 (by decide) (by decide +kernel) rfl rfl dX7_adds_76 ?_
  refine vs_iconst X (v := 1) dX7_adds_79 (by decide) ?_
  refine vs_dup2 X dX7_adds_80 rfl rfl ?_
  refine vs_iald X (by decide) (by decide) rfl dX7_adds_81 ?_
  refine vs_iconst X (v := 1) dX7_adds_82 (by decide) ?_
  refine vs_iadd X dX7_adds_83 ?_
  refine vs_iast X (by decide) (by decide) (fun _ => rfl) dX7_adds_84 (fun S6 hS6 => ?_)
  refine vs_aload_n X dX7_adds_85 1 rfl ?_
  refine g_Mod  X hinX7 0 (by decide) (by decide +kernel) rfl rfl dX7_adds_86 ?_
  refine vs_iconst X (v := 1) dX7_adds_89 (by decide) ?_
  refine vs_iald X (by decide) (by decide) rfl dX7_adds_90 ?_
  refine vs_iconst X (v := 1) dX7_adds_91 (by decide) ?_
  refine vs_isub X dX7_adds_92 ?_
  exact vs_iret X dX7_adds_93 (by decide) (by decide)

def spX7_issueByRegistry (p1 : Int32) (p2 : Int32) (S : Wo) : Option (Int32 × Wo) :=
  (spX7_isCrow p1 S).bind (fun x1 => jn (β := Int32 → Option (Int32 × Wo)) (fun (x3 : Int32) => bd2 (spX7_fails x3 S) (fun x5 S6 => (if x5 = 0 then (if inb 1 112 = true then (if (S6.2.1 167 (ix 1)) = 20 then bd2 (spX7_denies 3 1 20 S6) (fun x7 S8 => some (x7, S8)) else bd2 (spX7_adds (-1) p1 p2 S6) (fun x9 S10 => some (x9, S10))) else none) else some (0, S6)))) (fun k4 => (if x1 = 0 then k4 1 else (spX7_in p2 0 99 S).bind (fun x2 => (if x2 = 0 then k4 2 else k4 0)))))
set_option maxHeartbeats 4000000 in
set_option maxRecDepth 100000 in
theorem mtX7_issueByRegistry {l : Launch} (hl0 : l.stackTraces = false) {G : Gt} (p1 : Int32) (p2 : Int32) {S : Wo} : ∀ rr, spX7_issueByRegistry p1 p2 S = some rr → MI l yX7_issueByRegistry wsX7_issueByRegistry { frames := 3, cells := 0, slots := 0, locals := 70 } G S [rf G 166, .int p1, .int p2] rr 0 0 := by
  refine MI_of (cc := cX7_issueByRegistry) (own := RX7) (maxL := 3) (ret := (some .int)) (sp := spX7_issueByRegistry p1 p2 S) (by decide +kernel) rfl rfl (Nat.le_of_ble_eq_true rfl) ?_
  intro p e s m args below meth c X
  have hinX7 : ∀ w ∈ wsX70, w ∈ wsX7_issueByRegistry := by decide +kernel
  show VS G p l e _ s m args below meth c 3 _ _ 0 0 S 0 [(0, rf G 166), (1, .int p1), (2, .int p2)] []
  unfold spX7_issueByRegistry
  refine vs_aload_n X dX7_issueByRegistry_0 0 rfl ?_
  refine vs_aload_n X dX7_issueByRegistry_1 0 rfl ?_
  refine vs_iload_n X dX7_issueByRegistry_2 1 rfl ?_
  refine vs_callVp X  (As := [.int p1]) (st' := [rf G 166]) (mtX7_isCrow hl0 p1) (cwV 1 X.2.2.2.2.1 gX7_issueByRegistry_X7_isCrow rfl rfl rfl (by decide +kernel) ⟨Nat.le_of_ble_eq_true rfl, Nat.le_of_ble_eq_true rfl⟩) (by decide) (by decide) rfl rfl rfl (Nat.le_of_ble_eq_true rfl) dX7_issueByRegistry_3 ⟨Nat.le_of_ble_eq_true rfl, Nat.le_of_ble_eq_true rfl⟩ (fun x1 hx1 => ?_)
  refine vs_jn (β := Int32 → Option (Int32 × Wo)) (P := fun k4 => ∀ (x3 : Int32), VS G p l e ({ frames := 3, cells := 0, slots := 0, locals := 70 } : Room) s m args below meth c 3 (fun r => MQ below (QI G r) args s 0 0 (Af G)) (k4 x3) 0 0 S 28 [(0, rf G 166), (1, .int p1), (2, .int p2)] [.int x3, rf G 166]) (fun x3 => ?_) (fun k4 hk4 => ?_)
  · refine vs_callVi X  (As := [.int x3]) (st' := []) (mtX7_fails hl0 x3) (cwV 1 X.2.2.2.2.1 gX7_issueByRegistry_X7_fails rfl rfl rfl (by decide +kernel) ⟨Nat.le_of_ble_eq_true rfl, Nat.le_of_ble_eq_true rfl⟩) (by decide) (by decide) rfl rfl rfl (Nat.le_of_ble_eq_true rfl) dX7_issueByRegistry_28 ⟨Nat.le_of_ble_eq_true rfl, Nat.le_of_ble_eq_true rfl⟩ (fun x5 S6 hx5 => ?_)
    refine vs_if_eq X (tgt := 36) dX7_issueByRegistry_31 (by decide) (fun _ => ?_) (fun _ => ?_)
    · refine vs_aload_n X dX7_issueByRegistry_36 0 rfl ?_
      refine g_Mod  X hinX7 0 (by decide) (by decide +kernel) rfl rfl dX7_issueByRegistry_37 ?_
      refine vs_iconst X (v := 1) dX7_issueByRegistry_40 (by decide) ?_
      refine vs_iald X (by decide) (by decide) rfl dX7_issueByRegistry_41 ?_
      refine vs_bipush X (v := 20) dX7_issueByRegistry_42 (by decide) ?_
      refine vs_icmp_ne X (tgt := 56) dX7_issueByRegistry_44 (by decide) (fun _ => ?_) (fun _ => ?_)
      · refine vs_aload_n X dX7_issueByRegistry_47 0 rfl ?_
        refine vs_iconst X (v := 3) dX7_issueByRegistry_48 (by decide) ?_
        refine vs_iconst X (v := 1) dX7_issueByRegistry_49 (by decide) ?_
        refine vs_bipush X (v := 20) dX7_issueByRegistry_50 (by decide) ?_
        refine vs_callVi X  (As := [.int 3, .int 1, .int 20]) (st' := []) (mtX7_denies hl0 3 1 20) (cwV 3 X.2.2.2.2.1 gX7_issueByRegistry_X7_denies rfl rfl rfl (by decide +kernel) ⟨Nat.le_of_ble_eq_true rfl, Nat.le_of_ble_eq_true rfl⟩) (by decide) (by decide) rfl rfl rfl (Nat.le_of_ble_eq_true rfl) dX7_issueByRegistry_52 ⟨Nat.le_of_ble_eq_true rfl, Nat.le_of_ble_eq_true rfl⟩ (fun x7 S8 hx7 => ?_)
        exact vs_iret X dX7_issueByRegistry_55 (by decide) (by decide)
      · refine vs_aload_n X dX7_issueByRegistry_56 0 rfl ?_
        refine vs_iconst X (v := (-1)) dX7_issueByRegistry_57 (by decide) ?_
        refine vs_iload_n X dX7_issueByRegistry_58 1 rfl ?_
        refine vs_iload_n X dX7_issueByRegistry_59 2 rfl ?_
        refine vs_callVi X  (As := [.int (-1), .int p1, .int p2]) (st' := []) (mtX7_adds hl0 (-1) p1 p2) (cwV 3 X.2.2.2.2.1 gX7_issueByRegistry_X7_adds rfl rfl rfl (by decide +kernel) ⟨Nat.le_of_ble_eq_true rfl, Nat.le_of_ble_eq_true rfl⟩) (by decide) (by decide) rfl rfl rfl (Nat.le_of_ble_eq_true rfl) dX7_issueByRegistry_60 ⟨Nat.le_of_ble_eq_true rfl, Nat.le_of_ble_eq_true rfl⟩ (fun x9 S10 hx9 => ?_)
        exact vs_iret X dX7_issueByRegistry_63 (by decide) (by decide)
    · refine vs_iconst X (v := 0) dX7_issueByRegistry_34 (by decide) ?_
      exact vs_iret X dX7_issueByRegistry_35 (by decide) (by decide)
  · refine vs_if_ne X (tgt := 13) dX7_issueByRegistry_6 (by decide) (fun _ => ?_) (fun _ => ?_)
    · refine vs_iconst X (v := 1) dX7_issueByRegistry_9 (by decide) ?_
      refine vs_goto X (tgt := 28) dX7_issueByRegistry_10 (by decide) ?_
      exact vs_join [0, 1, 2] (Nat.le_of_ble_eq_true rfl) (Nat.le_of_ble_eq_true rfl) rfl (hk4 1)
    · refine vs_iload_n X dX7_issueByRegistry_13 2 rfl ?_
      refine vs_iconst X (v := 0) dX7_issueByRegistry_14 (by decide) ?_
      refine vs_bipush X (v := 99) dX7_issueByRegistry_15 (by decide) ?_
      refine vs_callSp X  (As := [.int p2, .int 0, .int 99]) (st' := [rf G 166]) (mtX7_in hl0 p2 0 99) (va_cwS 3 X.2.2.2.2.1 gX7_issueByRegistry_X7_in rfl rfl rfl (by decide +kernel) ⟨Nat.le_of_ble_eq_true rfl, Nat.le_of_ble_eq_true rfl⟩) rfl (Nat.le_of_ble_eq_true rfl) dX7_issueByRegistry_17 ⟨Nat.le_of_ble_eq_true rfl, Nat.le_of_ble_eq_true rfl⟩ (fun x2 hx2 => ?_)
      refine vs_if_eq X (tgt := 27) dX7_issueByRegistry_20 (by decide) (fun _ => ?_) (fun _ => ?_)
      · refine vs_iconst X (v := 2) dX7_issueByRegistry_27 (by decide) ?_
        exact vs_join [0, 1, 2] (Nat.le_of_ble_eq_true rfl) (Nat.le_of_ble_eq_true rfl) rfl (hk4 2)
      · refine vs_iconst X (v := 0) dX7_issueByRegistry_23 (by decide) ?_
        refine vs_goto X (tgt := 28) dX7_issueByRegistry_24 (by decide) ?_
        exact vs_join [0, 1, 2] (Nat.le_of_ble_eq_true rfl) (Nat.le_of_ble_eq_true rfl) rfl (hk4 0)

def spX7_issue (p1 : Int32) (p2 : Int32) (p3 : Int32) (S : Wo) : Option (Int32 × Wo) :=
  (spX7_isCrow p1 S).bind (fun x1 => jn (β := Int32 → Option (Int32 × Wo)) (fun (x4 : Int32) => bd2 (spX7_fails x4 S) (fun x6 S7 => (if x6 = 0 then (if p1 = p2 then bd2 (spX7_denies 3 4 p1 S7) (fun x8 S9 => some (x8, S9)) else (if inb 2 112 = true then (spX7_certified (S7.2.1 167 (ix 2)) S7).bind (fun x10 => (spX7_has x10 p1 S7).bind (fun x11 => (if x11 = 0 then bd2 (spX7_denies 3 3 p1 S7) (fun x12 S13 => some (x12, S13)) else (if inb 1 112 = true then (if (S7.2.1 167 (ix 1)) = 20 then bd2 (spX7_denies 3 1 20 S7) (fun x14 S15 => some (x14, S15)) else bd2 (spX7_adds p1 p2 p3 S7) (fun x16 S17 => some (x16, S17))) else none)))) else none)) else some (0, S7)))) (fun k5 => (if x1 = 0 then k5 1 else (spX7_isCrow p2 S).bind (fun x2 => (if x2 = 0 then k5 1 else (spX7_in p3 0 99 S).bind (fun x3 => (if x3 = 0 then k5 2 else k5 0)))))))
set_option maxHeartbeats 4000000 in
set_option maxRecDepth 100000 in
theorem mtX7_issue {l : Launch} (hl0 : l.stackTraces = false) {G : Gt} (p1 : Int32) (p2 : Int32) (p3 : Int32) {S : Wo} : ∀ rr, spX7_issue p1 p2 p3 S = some rr → MI l yX7_issue wsX7_issue { frames := 3, cells := 0, slots := 0, locals := 70 } G S [rf G 166, .int p1, .int p2, .int p3] rr 0 0 := by
  refine MI_of (cc := cX7_issue) (own := RX7) (maxL := 4) (ret := (some .int)) (sp := spX7_issue p1 p2 p3 S) (by decide +kernel) rfl rfl (Nat.le_of_ble_eq_true rfl) ?_
  intro p e s m args below meth c X
  have hinX7 : ∀ w ∈ wsX70, w ∈ wsX7_issue := by decide +kernel
  show VS G p l e _ s m args below meth c 4 _ _ 0 0 S 0 [(0, rf G 166), (1, .int p1), (2, .int p2), (3, .int p3)] []
  unfold spX7_issue
  refine vs_aload_n X dX7_issue_0 0 rfl ?_
  refine vs_aload_n X dX7_issue_1 0 rfl ?_
  refine vs_iload_n X dX7_issue_2 1 rfl ?_
  refine vs_callVp X  (As := [.int p1]) (st' := [rf G 166]) (mtX7_isCrow hl0 p1) (cwV 1 X.2.2.2.2.1 gX7_issue_X7_isCrow rfl rfl rfl (by decide +kernel) ⟨Nat.le_of_ble_eq_true rfl, Nat.le_of_ble_eq_true rfl⟩) (by decide) (by decide) rfl rfl rfl (Nat.le_of_ble_eq_true rfl) dX7_issue_3 ⟨Nat.le_of_ble_eq_true rfl, Nat.le_of_ble_eq_true rfl⟩ (fun x1 hx1 => ?_)
  refine vs_jn (β := Int32 → Option (Int32 × Wo)) (P := fun k5 => ∀ (x4 : Int32), VS G p l e ({ frames := 3, cells := 0, slots := 0, locals := 70 } : Room) s m args below meth c 4 (fun r => MQ below (QI G r) args s 0 0 (Af G)) (k5 x4) 0 0 S 36 [(0, rf G 166), (1, .int p1), (2, .int p2), (3, .int p3)] [.int x4, rf G 166]) (fun x4 => ?_) (fun k5 hk5 => ?_)
  · refine vs_callVi X  (As := [.int x4]) (st' := []) (mtX7_fails hl0 x4) (cwV 1 X.2.2.2.2.1 gX7_issue_X7_fails rfl rfl rfl (by decide +kernel) ⟨Nat.le_of_ble_eq_true rfl, Nat.le_of_ble_eq_true rfl⟩) (by decide) (by decide) rfl rfl rfl (Nat.le_of_ble_eq_true rfl) dX7_issue_36 ⟨Nat.le_of_ble_eq_true rfl, Nat.le_of_ble_eq_true rfl⟩ (fun x6 S7 hx6 => ?_)
    refine vs_if_eq X (tgt := 44) dX7_issue_39 (by decide) (fun _ => ?_) (fun _ => ?_)
    · refine vs_iload_n X dX7_issue_44 1 rfl ?_
      refine vs_iload_n X dX7_issue_45 2 rfl ?_
      refine vs_icmp_ne X (tgt := 57) dX7_issue_46 (by decide) (fun _ => ?_) (fun _ => ?_)
      · refine vs_aload_n X dX7_issue_49 0 rfl ?_
        refine vs_iconst X (v := 3) dX7_issue_50 (by decide) ?_
        refine vs_iconst X (v := 4) dX7_issue_51 (by decide) ?_
        refine vs_iload_n X dX7_issue_52 1 rfl ?_
        refine vs_callVi X  (As := [.int 3, .int 4, .int p1]) (st' := []) (mtX7_denies hl0 3 4 p1) (cwV 3 X.2.2.2.2.1 gX7_issue_X7_denies rfl rfl rfl (by decide +kernel) ⟨Nat.le_of_ble_eq_true rfl, Nat.le_of_ble_eq_true rfl⟩) (by decide) (by decide) rfl rfl rfl (Nat.le_of_ble_eq_true rfl) dX7_issue_53 ⟨Nat.le_of_ble_eq_true rfl, Nat.le_of_ble_eq_true rfl⟩ (fun x8 S9 hx8 => ?_)
        exact vs_iret X dX7_issue_56 (by decide) (by decide)
      · refine vs_aload_n X dX7_issue_57 0 rfl ?_
        refine vs_aload_n X dX7_issue_58 0 rfl ?_
        refine g_Mod  X hinX7 0 (by decide) (by decide +kernel) rfl rfl dX7_issue_59 ?_
        refine vs_iconst X (v := 2) dX7_issue_62 (by decide) ?_
        refine vs_iald X (by decide) (by decide) rfl dX7_issue_63 ?_
        refine vs_callVp X  (As := [.int (S7.2.1 167 (ix 2))]) (st' := []) (mtX7_certified hl0 (S7.2.1 167 (ix 2))) (cwV 1 X.2.2.2.2.1 gX7_issue_X7_certified rfl rfl rfl (by decide +kernel) ⟨Nat.le_of_ble_eq_true rfl, Nat.le_of_ble_eq_true rfl⟩) (by decide) (by decide) rfl rfl rfl (Nat.le_of_ble_eq_true rfl) dX7_issue_64 ⟨Nat.le_of_ble_eq_true rfl, Nat.le_of_ble_eq_true rfl⟩ (fun x10 hx10 => ?_)
        refine vs_iload_n X dX7_issue_67 1 rfl ?_
        refine vs_callSp X  (As := [.int x10, .int p1]) (st' := []) (mtX7_has hl0 x10 p1) (va_cwS 2 X.2.2.2.2.1 gX7_issue_X7_has rfl rfl rfl (by decide +kernel) ⟨Nat.le_of_ble_eq_true rfl, Nat.le_of_ble_eq_true rfl⟩) rfl (Nat.le_of_ble_eq_true rfl) dX7_issue_68 ⟨Nat.le_of_ble_eq_true rfl, Nat.le_of_ble_eq_true rfl⟩ (fun x11 hx11 => ?_)
        refine vs_if_ne X (tgt := 82) dX7_issue_71 (by decide) (fun _ => ?_) (fun _ => ?_)
        · refine vs_aload_n X dX7_issue_74 0 rfl ?_
          refine vs_iconst X (v := 3) dX7_issue_75 (by decide) ?_
          refine vs_iconst X (v := 3) dX7_issue_76 (by decide) ?_
          refine vs_iload_n X dX7_issue_77 1 rfl ?_
          refine vs_callVi X  (As := [.int 3, .int 3, .int p1]) (st' := []) (mtX7_denies hl0 3 3 p1) (cwV 3 X.2.2.2.2.1 gX7_issue_X7_denies rfl rfl rfl (by decide +kernel) ⟨Nat.le_of_ble_eq_true rfl, Nat.le_of_ble_eq_true rfl⟩) (by decide) (by decide) rfl rfl rfl (Nat.le_of_ble_eq_true rfl) dX7_issue_78 ⟨Nat.le_of_ble_eq_true rfl, Nat.le_of_ble_eq_true rfl⟩ (fun x12 S13 hx12 => ?_)
          exact vs_iret X dX7_issue_81 (by decide) (by decide)
        · refine vs_aload_n X dX7_issue_82 0 rfl ?_
          refine g_Mod  X hinX7 0 (by decide) (by decide +kernel) rfl rfl dX7_issue_83 ?_
          refine vs_iconst X (v := 1) dX7_issue_86 (by decide) ?_
          refine vs_iald X (by decide) (by decide) rfl dX7_issue_87 ?_
          refine vs_bipush X (v := 20) dX7_issue_88 (by decide) ?_
          refine vs_icmp_ne X (tgt := 102) dX7_issue_90 (by decide) (fun _ => ?_) (fun _ => ?_)
          · refine vs_aload_n X dX7_issue_93 0 rfl ?_
            refine vs_iconst X (v := 3) dX7_issue_94 (by decide) ?_
            refine vs_iconst X (v := 1) dX7_issue_95 (by decide) ?_
            refine vs_bipush X (v := 20) dX7_issue_96 (by decide) ?_
            refine vs_callVi X  (As := [.int 3, .int 1, .int 20]) (st' := []) (mtX7_denies hl0 3 1 20) (cwV 3 X.2.2.2.2.1 gX7_issue_X7_denies rfl rfl rfl (by decide +kernel) ⟨Nat.le_of_ble_eq_true rfl, Nat.le_of_ble_eq_true rfl⟩) (by decide) (by decide) rfl rfl rfl (Nat.le_of_ble_eq_true rfl) dX7_issue_98 ⟨Nat.le_of_ble_eq_true rfl, Nat.le_of_ble_eq_true rfl⟩ (fun x14 S15 hx14 => ?_)
            exact vs_iret X dX7_issue_101 (by decide) (by decide)
          · refine vs_aload_n X dX7_issue_102 0 rfl ?_
            refine vs_iload_n X dX7_issue_103 1 rfl ?_
            refine vs_iload_n X dX7_issue_104 2 rfl ?_
            refine vs_iload_n X dX7_issue_105 3 rfl ?_
            refine vs_callVi X  (As := [.int p1, .int p2, .int p3]) (st' := []) (mtX7_adds hl0 p1 p2 p3) (cwV 3 X.2.2.2.2.1 gX7_issue_X7_adds rfl rfl rfl (by decide +kernel) ⟨Nat.le_of_ble_eq_true rfl, Nat.le_of_ble_eq_true rfl⟩) (by decide) (by decide) rfl rfl rfl (Nat.le_of_ble_eq_true rfl) dX7_issue_106 ⟨Nat.le_of_ble_eq_true rfl, Nat.le_of_ble_eq_true rfl⟩ (fun x16 S17 hx16 => ?_)
            exact vs_iret X dX7_issue_109 (by decide) (by decide)
    · refine vs_iconst X (v := 0) dX7_issue_42 (by decide) ?_
      exact vs_iret X dX7_issue_43 (by decide) (by decide)
  · refine vs_if_eq X (tgt := 17) dX7_issue_6 (by decide) (fun _ => ?_) (fun _ => ?_)
    · refine vs_iconst X (v := 1) dX7_issue_17 (by decide) ?_
      refine vs_goto X (tgt := 36) dX7_issue_18 (by decide) ?_
      exact vs_join [0, 1, 2, 3] (Nat.le_of_ble_eq_true rfl) (Nat.le_of_ble_eq_true rfl) rfl (hk5 1)
    · refine vs_aload_n X dX7_issue_9 0 rfl ?_
      refine vs_iload_n X dX7_issue_10 2 rfl ?_
      refine vs_callVp X  (As := [.int p2]) (st' := [rf G 166]) (mtX7_isCrow hl0 p2) (cwV 1 X.2.2.2.2.1 gX7_issue_X7_isCrow rfl rfl rfl (by decide +kernel) ⟨Nat.le_of_ble_eq_true rfl, Nat.le_of_ble_eq_true rfl⟩) (by decide) (by decide) rfl rfl rfl (Nat.le_of_ble_eq_true rfl) dX7_issue_11 ⟨Nat.le_of_ble_eq_true rfl, Nat.le_of_ble_eq_true rfl⟩ (fun x2 hx2 => ?_)
      refine vs_if_ne X (tgt := 21) dX7_issue_14 (by decide) (fun _ => ?_) (fun _ => ?_)
      · refine vs_iconst X (v := 1) dX7_issue_17 (by decide) ?_
        refine vs_goto X (tgt := 36) dX7_issue_18 (by decide) ?_
        exact vs_join [0, 1, 2, 3] (Nat.le_of_ble_eq_true rfl) (Nat.le_of_ble_eq_true rfl) rfl (hk5 1)
      · refine vs_iload_n X dX7_issue_21 3 rfl ?_
        refine vs_iconst X (v := 0) dX7_issue_22 (by decide) ?_
        refine vs_bipush X (v := 99) dX7_issue_23 (by decide) ?_
        refine vs_callSp X  (As := [.int p3, .int 0, .int 99]) (st' := [rf G 166]) (mtX7_in hl0 p3 0 99) (va_cwS 3 X.2.2.2.2.1 gX7_issue_X7_in rfl rfl rfl (by decide +kernel) ⟨Nat.le_of_ble_eq_true rfl, Nat.le_of_ble_eq_true rfl⟩) rfl (Nat.le_of_ble_eq_true rfl) dX7_issue_25 ⟨Nat.le_of_ble_eq_true rfl, Nat.le_of_ble_eq_true rfl⟩ (fun x3 hx3 => ?_)
        refine vs_if_eq X (tgt := 35) dX7_issue_28 (by decide) (fun _ => ?_) (fun _ => ?_)
        · refine vs_iconst X (v := 2) dX7_issue_35 (by decide) ?_
          exact vs_join [0, 1, 2, 3] (Nat.le_of_ble_eq_true rfl) (Nat.le_of_ble_eq_true rfl) rfl (hk5 2)
        · refine vs_iconst X (v := 0) dX7_issue_31 (by decide) ?_
          refine vs_goto X (tgt := 36) dX7_issue_32 (by decide) ?_
          exact vs_join [0, 1, 2, 3] (Nat.le_of_ble_eq_true rfl) (Nat.le_of_ble_eq_true rfl) rfl (hk5 0)

def lpX7_drops_54 (p1 : Int32)   : Nat → Int32 → Wo → Option (Wo)
  | 0, _, _ => none
  | f + 1, v2, S5 => (if (4 : Int32) ≤ v2 then some S5 else (if inb 1 112 = true then (if inb ((32 + (4 * (S5.2.1 167 (ix 1)))) + v2) 112 = true then wr (pF S5 167 (upd (S5.2.1 167) (ix ((32 + (4 * (S5.2.1 167 (ix 1)))) + v2)) 0)) (fun S6 => lpX7_drops_54 p1 f (v2 + 1) S6) else none) else none))
def lpX7_drops_17 (p1 : Int32)   : Nat → Int32 → Wo → Option (Wo)
  | 0, _, _ => none
  | f + 1, v2, S3 => (if inb 1 112 = true then (if ((32 : Int32) + (4 * (S3.2.1 167 (ix 1)))) ≤ v2 then lpX7_drops_54 p1 200 0 S3 else (if inb (v2 + 4) 112 = true then (if inb v2 112 = true then wr (pF S3 167 (upd (S3.2.1 167) (ix v2) (S3.2.1 167 (ix (v2 + 4))))) (fun S7 => lpX7_drops_17 p1 f (v2 + 1) S7) else none) else none)) else none)
def spX7_drops (p1 : Int32) (S : Wo) : Option (Wo) :=
  (if inb 1 112 = true then (if inb 1 112 = true then wr (pF S 167 (upd (S.2.1 167) (ix 1) ((S.2.1 167 (ix 1)) - 1))) (fun S1 => lpX7_drops_17 p1 200 (32 + (4 * p1)) S1) else none) else none)
set_option maxHeartbeats 4000000 in
set_option maxRecDepth 100000 in
theorem mtX7_drops {l : Launch} (hl0 : l.stackTraces = false) {G : Gt} (p1 : Int32) {S : Wo} : ∀ rr, spX7_drops p1 S = some rr → MV l yX7_drops wsX7_drops { frames := 0, cells := 0, slots := 0, locals := 0 } G S [rf G 166, .int p1] rr 0 0 := by
  refine MV_of (cc := cX7_drops) (own := RX7) (maxL := 3) (ret := none) (sp := spX7_drops p1 S) (by decide +kernel) rfl rfl (Nat.le_of_ble_eq_true rfl) ?_
  intro p e s m args below meth c X
  have hinX7 : ∀ w ∈ wsX70, w ∈ wsX7_drops := by decide +kernel
  show VS G p l e _ s m args below meth c 3 _ _ 0 0 S 0 [(0, rf G 166), (1, .int p1)] []
  unfold spX7_drops
  refine vs_aload_n X dX7_drops_0 0 rfl ?_
  refine g_Mod  X hinX7 0 (by decide) (by decide +kernel) rfl rfl dX7_drops_1 ?_
  refine vs_iconst X (v := 1) dX7_drops_4 (by decide) ?_
  refine vs_dup2 X dX7_drops_5 rfl rfl ?_
  refine vs_iald X (by decide) (by decide) rfl dX7_drops_6 ?_
  refine vs_iconst X (v := 1) dX7_drops_7 (by decide) ?_
  refine vs_isub X dX7_drops_8 ?_
  refine vs_iast X (by decide) (by decide) (fun _ => rfl) dX7_drops_9 (fun S1 hS1 => ?_)
  refine vs_bipush X (v := 32) dX7_drops_10 (by decide) ?_
  refine vs_iconst X (v := 4) dX7_drops_12 (by decide) ?_
  refine vs_iload_n X dX7_drops_13 1 rfl ?_
  refine vs_imul X dX7_drops_14 ?_
  refine vs_iadd X dX7_drops_15 ?_
  refine vs_istore_n X (lv' := [(2, .int (32 + (4 * p1))), (0, rf G 166), (1, .int p1)]) dX7_drops_16 (by decide) rfl ?_
  have L2 : ∀ (f : Nat) (v2 : Int32) (S3 : Wo), VS G p l e ({ frames := 0, cells := 0, slots := 0, locals := 0 } : Room) s m args below meth c 3 (fun r => MQ below (QV G r) args s 0 0 (Af G)) (lpX7_drops_17 p1 f v2 S3) 0 0 S3 17 [(0, rf G 166), (1, .int p1), (2, .int v2)] [] := by
    intro f
    induction f with
    | zero => intro v2 S3; exact vs_none rfl
    | succ f ih =>
        intro v2 S3
        rw [lpX7_drops_17]
        refine vs_iload_n X dX7_drops_17 2 rfl ?_
        refine vs_bipush X (v := 32) dX7_drops_18 (by decide) ?_
        refine vs_iconst X (v := 4) dX7_drops_20 (by decide) ?_
        refine vs_aload_n X dX7_drops_21 0 rfl ?_
        refine g_Mod  X hinX7 0 (by decide) (by decide +kernel) rfl rfl dX7_drops_22 ?_
        refine vs_iconst X (v := 1) dX7_drops_25 (by decide) ?_
        refine vs_iald X (by decide) (by decide) rfl dX7_drops_26 ?_
        refine vs_imul X dX7_drops_27 ?_
        refine vs_iadd X dX7_drops_28 ?_
        refine vs_icmp_ge X (tgt := 52) dX7_drops_29 (by decide) (fun _ => ?_) (fun _ => ?_)
        · refine vs_iconst X (v := 0) dX7_drops_52 (by decide) ?_
          refine vs_istore_n X (lv' := [(2, .int 0), (0, rf G 166), (1, .int p1)]) dX7_drops_53 (by decide) rfl ?_
          have L4 : ∀ (f : Nat) (v2 : Int32) (S5 : Wo), VS G p l e ({ frames := 0, cells := 0, slots := 0, locals := 0 } : Room) s m args below meth c 3 (fun r => MQ below (QV G r) args s 0 0 (Af G)) (lpX7_drops_54 p1 f v2 S5) 0 0 S5 54 [(0, rf G 166), (1, .int p1), (2, .int v2)] [] := by
            intro f
            induction f with
            | zero => intro v2 S5; exact vs_none rfl
            | succ f ih =>
                intro v2 S5
                rw [lpX7_drops_54]
                refine vs_iload_n X dX7_drops_54 2 rfl ?_
                refine vs_iconst X (v := 4) dX7_drops_55 (by decide) ?_
                refine vs_icmp_ge X (tgt := 84) dX7_drops_56 (by decide) (fun _ => ?_) (fun _ => ?_)
                · exact vs_vret X dX7_drops_84 (by decide) (by decide)
                · refine vs_aload_n X dX7_drops_59 0 rfl ?_
                  refine g_Mod  X hinX7 0 (by decide) (by decide +kernel) rfl rfl dX7_drops_60 ?_
                  refine vs_bipush X (v := 32) dX7_drops_63 (by decide) ?_
                  refine vs_iconst X (v := 4) dX7_drops_65 (by decide) ?_
                  refine vs_aload_n X dX7_drops_66 0 rfl ?_
                  refine g_Mod  X hinX7 0 (by decide) (by decide +kernel) rfl rfl dX7_drops_67 ?_
                  refine vs_iconst X (v := 1) dX7_drops_70 (by decide) ?_
                  refine vs_iald X (by decide) (by decide) rfl dX7_drops_71 ?_
                  refine vs_imul X dX7_drops_72 ?_
                  refine vs_iadd X dX7_drops_73 ?_
                  refine vs_iload_n X dX7_drops_74 2 rfl ?_
                  refine vs_iadd X dX7_drops_75 ?_
                  refine vs_iconst X (v := 0) dX7_drops_76 (by decide) ?_
                  refine vs_iast X (by decide) (by decide) (fun _ => rfl) dX7_drops_77 (fun S6 hS6 => ?_)
                  refine vs_iinc X (v := (v2 + 1)) (lv' := [(2, .int (v2 + 1)), (0, rf G 166), (1, .int p1)]) dX7_drops_78 2 rfl rfl (by decide) rfl ?_
                  refine vs_goto X (tgt := 54) dX7_drops_81 (by decide) ?_
                  refine vs_sub [1, 2, 0] (lv' := [(0, rf G 166), (1, .int p1), (2, .int (v2 + 1))]) rfl ?_
                  exact ih (v2 + 1) S6
          refine vs_sub [1, 2, 0] (lv' := [(0, rf G 166), (1, .int p1), (2, .int 0)]) rfl ?_
          exact L4 200 0 S3
        · refine vs_aload_n X dX7_drops_32 0 rfl ?_
          refine g_Mod  X hinX7 0 (by decide) (by decide +kernel) rfl rfl dX7_drops_33 ?_
          refine vs_iload_n X dX7_drops_36 2 rfl ?_
          refine vs_aload_n X dX7_drops_37 0 rfl ?_
          refine g_Mod  X hinX7 0 (by decide) (by decide +kernel) rfl rfl dX7_drops_38 ?_
          refine vs_iload_n X dX7_drops_41 2 rfl ?_
          refine vs_iconst X (v := 4) dX7_drops_42 (by decide) ?_
          refine vs_iadd X dX7_drops_43 ?_
          refine vs_iald X (by decide) (by decide) rfl dX7_drops_44 ?_
          refine vs_iast X (by decide) (by decide) (fun _ => rfl) dX7_drops_45 (fun S7 hS7 => ?_)
          refine vs_iinc X (v := (v2 + 1)) (lv' := [(2, .int (v2 + 1)), (0, rf G 166), (1, .int p1)]) dX7_drops_46 2 rfl rfl (by decide) rfl ?_
          refine vs_goto X (tgt := 17) dX7_drops_49 (by decide) ?_
          refine vs_sub [1, 2, 0] (lv' := [(0, rf G 166), (1, .int p1), (2, .int (v2 + 1))]) rfl ?_
          exact ih (v2 + 1) S7
  refine vs_sub [1, 2, 0] (lv' := [(0, rf G 166), (1, .int p1), (2, .int (32 + (4 * p1)))]) rfl ?_
  exact L2 200 (32 + (4 * p1)) S1

def spX7_withdraw (p1 : Int32) (S : Wo) : Option (Int32 × Wo) :=
  bd2 (spX7_isLost p1 S) (fun x1 S2 => (if x1 = 0 then (spX7_of p1 1 S2).bind (fun x3 => (spX7_keeps 167 112 S2).bind (fun S4 => (spX7_drops p1 S4).bind (fun S5 => some (x3, S5)))) else some (0, S2)))
set_option maxHeartbeats 4000000 in
set_option maxRecDepth 100000 in
theorem mtX7_withdraw {l : Launch} (hl0 : l.stackTraces = false) {G : Gt} (p1 : Int32) {S : Wo} : ∀ rr, spX7_withdraw p1 S = some rr → MI l yX7_withdraw wsX7_withdraw { frames := 3, cells := 0, slots := 0, locals := 64 } G S [rf G 166, .int p1] rr 0 0 := by
  refine MI_of (cc := cX7_withdraw) (own := RX7) (maxL := 3) (ret := (some .int)) (sp := spX7_withdraw p1 S) (by decide +kernel) rfl rfl (Nat.le_of_ble_eq_true rfl) ?_
  intro p e s m args below meth c X
  have hinX7 : ∀ w ∈ wsX70, w ∈ wsX7_withdraw := by decide +kernel
  show VS G p l e _ s m args below meth c 3 _ _ 0 0 S 0 [(0, rf G 166), (1, .int p1)] []
  unfold spX7_withdraw
  refine vs_aload_n X dX7_withdraw_0 0 rfl ?_
  refine vs_iload_n X dX7_withdraw_1 1 rfl ?_
  refine vs_callVi X  (As := [.int p1]) (st' := []) (mtX7_isLost hl0 p1) (cwV 1 X.2.2.2.2.1 gX7_withdraw_X7_isLost rfl rfl rfl (by decide +kernel) ⟨Nat.le_of_ble_eq_true rfl, Nat.le_of_ble_eq_true rfl⟩) (by decide) (by decide) rfl rfl rfl (Nat.le_of_ble_eq_true rfl) dX7_withdraw_2 ⟨Nat.le_of_ble_eq_true rfl, Nat.le_of_ble_eq_true rfl⟩ (fun x1 S2 hx1 => ?_)
  refine vs_if_eq X (tgt := 10) dX7_withdraw_5 (by decide) (fun _ => ?_) (fun _ => ?_)
  · refine vs_aload_n X dX7_withdraw_10 0 rfl ?_
    refine vs_iload_n X dX7_withdraw_11 1 rfl ?_
    refine vs_iconst X (v := 1) dX7_withdraw_12 (by decide) ?_
    refine vs_callVp X  (As := [.int p1, .int 1]) (st' := []) (mtX7_of hl0 p1 1) (cwV 2 X.2.2.2.2.1 gX7_withdraw_X7_of rfl rfl rfl (by decide +kernel) ⟨Nat.le_of_ble_eq_true rfl, Nat.le_of_ble_eq_true rfl⟩) (by decide) (by decide) rfl rfl rfl (Nat.le_of_ble_eq_true rfl) dX7_withdraw_13 ⟨Nat.le_of_ble_eq_true rfl, Nat.le_of_ble_eq_true rfl⟩ (fun x3 hx3 => ?_)
    refine vs_istore_n X (lv' := [(2, .int x3), (0, rf G 166), (1, .int p1)]) dX7_withdraw_16 (by decide) rfl ?_
    refine vs_aload_n X dX7_withdraw_17 1 rfl ?_
    refine vs_aload_n X dX7_withdraw_18 1 rfl ?_
    refine g_Mod  X hinX7 0 (by decide) (by decide +kernel) rfl rfl dX7_withdraw_19 ?_
    refine vs_callVv X  (As := [rf G 167]) (st' := []) (mtX7_keeps hl0 isIA_167) (cwV 1 X.2.2.2.2.1 gX7_withdraw_X7_keeps rfl rfl rfl (by decide +kernel) ⟨Nat.le_of_ble_eq_true rfl, Nat.le_of_ble_eq_true rfl⟩) (by decide) (by decide) rfl rfl rfl (Nat.le_of_ble_eq_true rfl) dX7_withdraw_22 ⟨Nat.le_of_ble_eq_true rfl, Nat.le_of_ble_eq_true rfl⟩ (fun S4 hS4 => ?_)
    refine vs_aload_n X dX7_withdraw_25 1 rfl ?_
    refine vs_iload_n X dX7_withdraw_26 2 rfl ?_
    refine vs_callVv X  (As := [.int p1]) (st' := []) (mtX7_drops hl0 p1) (cwV 1 X.2.2.2.2.1 gX7_withdraw_X7_drops rfl rfl rfl (by decide +kernel) ⟨Nat.le_of_ble_eq_true rfl, Nat.le_of_ble_eq_true rfl⟩) (by decide) (by decide) rfl rfl rfl (Nat.le_of_ble_eq_true rfl) dX7_withdraw_27 ⟨Nat.le_of_ble_eq_true rfl, Nat.le_of_ble_eq_true rfl⟩ (fun S5 hS5 => ?_)
    refine vs_iload_n X dX7_withdraw_30 0 rfl ?_
    exact vs_iret X dX7_withdraw_31 (by decide) (by decide)
  · refine vs_iconst X (v := 0) dX7_withdraw_8 (by decide) ?_
    exact vs_iret X dX7_withdraw_9 (by decide) (by decide)

def spX7_certificateCount  (S : Wo) : Option (Int32 × Wo) :=
  wr (pI S 166 9 0) (fun S1 => (if inb 1 112 = true then some ((S1.2.1 167 (ix 1)), S1) else none))
set_option maxHeartbeats 4000000 in
set_option maxRecDepth 100000 in
theorem mtX7_certificateCount {l : Launch} (hl0 : l.stackTraces = false) {G : Gt}  {S : Wo} : ∀ rr, spX7_certificateCount  S = some rr → MI l yX7_certificateCount wsX7_certificateCount { frames := 0, cells := 0, slots := 0, locals := 0 } G S [rf G 166] rr 0 0 := by
  refine MI_of (cc := cX7_certificateCount) (own := RX7) (maxL := 1) (ret := (some .int)) (sp := spX7_certificateCount  S) (by decide +kernel) rfl rfl (Nat.le_of_ble_eq_true rfl) ?_
  intro p e s m args below meth c X
  have hinX7 : ∀ w ∈ wsX70, w ∈ wsX7_certificateCount := by decide +kernel
  show VS G p l e _ s m args below meth c 1 _ _ 0 0 S 0 [(0, rf G 166)] []
  unfold spX7_certificateCount
  refine vs_aload_n X dX7_certificateCount_0 0 rfl ?_
  refine vs_iconst X (v := 0) dX7_certificateCount_1 (by decide) ?_
  refine p_Mod  X hinX7 9 (by decide) (by decide +kernel) rfl rfl rfl rfl rfl rfl dX7_certificateCount_2 (fun S1 hS1 => ?_)
  refine vs_aload_n X dX7_certificateCount_5 0 rfl ?_
  refine g_Mod  X hinX7 0 (by decide) (by decide +kernel) rfl rfl dX7_certificateCount_6 ?_
  refine vs_iconst X (v := 1) dX7_certificateCount_9 (by decide) ?_
  refine vs_iald X (by decide) (by decide) rfl dX7_certificateCount_10 ?_
  exact vs_iret X dX7_certificateCount_11 (by decide) (by decide)

def spX7_isByRegistry (p1 : Int32) (S : Wo) : Option (Int32 × Wo) :=
  bd2 (spX7_isLost p1 S) (fun x1 S2 => (if x1 = 0 then (spX7_of p1 0 S2).bind (fun x3 => (if (0 : Int32) ≤ x3 then rz 0 (fun y => some (y, S2)) else rz 1 (fun y => some (y, S2)))) else rz 0 (fun y => some (y, S2))))
set_option maxHeartbeats 4000000 in
set_option maxRecDepth 100000 in
theorem mtX7_isByRegistry {l : Launch} (hl0 : l.stackTraces = false) {G : Gt} (p1 : Int32) {S : Wo} : ∀ rr, spX7_isByRegistry p1 S = some rr → MI l yX7_isByRegistry wsX7_isByRegistry { frames := 3, cells := 0, slots := 0, locals := 64 } G S [rf G 166, .int p1] rr 0 0 := by
  refine MI_of (cc := cX7_isByRegistry) (own := RX7) (maxL := 2) (ret := (some .boolean)) (sp := spX7_isByRegistry p1 S) (by decide +kernel) rfl rfl (Nat.le_of_ble_eq_true rfl) ?_
  intro p e s m args below meth c X
  show VS G p l e _ s m args below meth c 2 _ _ 0 0 S 0 [(0, rf G 166), (1, .int p1)] []
  unfold spX7_isByRegistry
  refine vs_aload_n X dX7_isByRegistry_0 0 rfl ?_
  refine vs_iload_n X dX7_isByRegistry_1 1 rfl ?_
  refine vs_callVi X  (As := [.int p1]) (st' := []) (mtX7_isLost hl0 p1) (cwV 1 X.2.2.2.2.1 gX7_isByRegistry_X7_isLost rfl rfl rfl (by decide +kernel) ⟨Nat.le_of_ble_eq_true rfl, Nat.le_of_ble_eq_true rfl⟩) (by decide) (by decide) rfl rfl rfl (Nat.le_of_ble_eq_true rfl) dX7_isByRegistry_2 ⟨Nat.le_of_ble_eq_true rfl, Nat.le_of_ble_eq_true rfl⟩ (fun x1 S2 hx1 => ?_)
  refine vs_if_ne X (tgt := 21) dX7_isByRegistry_5 (by decide) (fun _ => ?_) (fun _ => ?_)
  · refine vs_aload_n X dX7_isByRegistry_8 0 rfl ?_
    refine vs_iload_n X dX7_isByRegistry_9 1 rfl ?_
    refine vs_iconst X (v := 0) dX7_isByRegistry_10 (by decide) ?_
    refine vs_callVp X  (As := [.int p1, .int 0]) (st' := []) (mtX7_of hl0 p1 0) (cwV 2 X.2.2.2.2.1 gX7_isByRegistry_X7_of rfl rfl rfl (by decide +kernel) ⟨Nat.le_of_ble_eq_true rfl, Nat.le_of_ble_eq_true rfl⟩) (by decide) (by decide) rfl rfl rfl (Nat.le_of_ble_eq_true rfl) dX7_isByRegistry_11 ⟨Nat.le_of_ble_eq_true rfl, Nat.le_of_ble_eq_true rfl⟩ (fun x3 hx3 => ?_)
    refine vs_if_ge X (tgt := 21) dX7_isByRegistry_14 (by decide) (fun _ => ?_) (fun _ => ?_)
    · refine vs_iconst X (v := 0) dX7_isByRegistry_21 (by decide) ?_
      exact vs_zret X dX7_isByRegistry_22 (by decide) (by decide)
    · refine vs_iconst X (v := 1) dX7_isByRegistry_17 (by decide) ?_
      refine vs_goto X (tgt := 22) dX7_isByRegistry_18 (by decide) ?_
      exact vs_zret X dX7_isByRegistry_22 (by decide) (by decide)
  · refine vs_iconst X (v := 0) dX7_isByRegistry_21 (by decide) ?_
    exact vs_zret X dX7_isByRegistry_22 (by decide) (by decide)

def spX7_issuerOf (p1 : Int32) (S : Wo) : Option (Int32 × Wo) :=
  (spX7_isCert p1 S).bind (fun x1 => jn (β := Int32 → Option (Int32 × Wo)) (fun (x3 : Int32) => bd2 (spX7_fails x3 S) (fun x5 S6 => (if x5 = 0 then (spX7_of p1 0 S6).bind (fun x7 => some (x7, S6)) else some (0, S6)))) (fun k4 => (if x1 = 0 then k4 1 else (spX7_of p1 0 S).bind (fun x2 => (if (0 : Int32) ≤ x2 then k4 0 else k4 2)))))
set_option maxHeartbeats 4000000 in
set_option maxRecDepth 100000 in
theorem mtX7_issuerOf {l : Launch} (hl0 : l.stackTraces = false) {G : Gt} (p1 : Int32) {S : Wo} : ∀ rr, spX7_issuerOf p1 S = some rr → MI l yX7_issuerOf wsX7_issuerOf { frames := 2, cells := 0, slots := 0, locals := 43 } G S [rf G 166, .int p1] rr 0 0 := by
  refine MI_of (cc := cX7_issuerOf) (own := RX7) (maxL := 2) (ret := (some .int)) (sp := spX7_issuerOf p1 S) (by decide +kernel) rfl rfl (Nat.le_of_ble_eq_true rfl) ?_
  intro p e s m args below meth c X
  show VS G p l e _ s m args below meth c 2 _ _ 0 0 S 0 [(0, rf G 166), (1, .int p1)] []
  unfold spX7_issuerOf
  refine vs_aload_n X dX7_issuerOf_0 0 rfl ?_
  refine vs_aload_n X dX7_issuerOf_1 0 rfl ?_
  refine vs_iload_n X dX7_issuerOf_2 1 rfl ?_
  refine vs_callVp X  (As := [.int p1]) (st' := [rf G 166]) (mtX7_isCert hl0 p1) (cwV 1 X.2.2.2.2.1 gX7_issuerOf_X7_isCert rfl rfl rfl (by decide +kernel) ⟨Nat.le_of_ble_eq_true rfl, Nat.le_of_ble_eq_true rfl⟩) (by decide) (by decide) rfl rfl rfl (Nat.le_of_ble_eq_true rfl) dX7_issuerOf_3 ⟨Nat.le_of_ble_eq_true rfl, Nat.le_of_ble_eq_true rfl⟩ (fun x1 hx1 => ?_)
  refine vs_jn (β := Int32 → Option (Int32 × Wo)) (P := fun k4 => ∀ (x3 : Int32), VS G p l e ({ frames := 2, cells := 0, slots := 0, locals := 43 } : Room) s m args below meth c 2 (fun r => MQ below (QI G r) args s 0 0 (Af G)) (k4 x3) 0 0 S 27 [(0, rf G 166), (1, .int p1)] [.int x3, rf G 166]) (fun x3 => ?_) (fun k4 hk4 => ?_)
  · refine vs_callVi X  (As := [.int x3]) (st' := []) (mtX7_fails hl0 x3) (cwV 1 X.2.2.2.2.1 gX7_issuerOf_X7_fails rfl rfl rfl (by decide +kernel) ⟨Nat.le_of_ble_eq_true rfl, Nat.le_of_ble_eq_true rfl⟩) (by decide) (by decide) rfl rfl rfl (Nat.le_of_ble_eq_true rfl) dX7_issuerOf_27 ⟨Nat.le_of_ble_eq_true rfl, Nat.le_of_ble_eq_true rfl⟩ (fun x5 S6 hx5 => ?_)
    refine vs_if_eq X (tgt := 37) dX7_issuerOf_30 (by decide) (fun _ => ?_) (fun _ => ?_)
    · refine vs_aload_n X dX7_issuerOf_37 0 rfl ?_
      refine vs_iload_n X dX7_issuerOf_38 1 rfl ?_
      refine vs_iconst X (v := 0) dX7_issuerOf_39 (by decide) ?_
      refine vs_callVp X  (As := [.int p1, .int 0]) (st' := []) (mtX7_of hl0 p1 0) (cwV 2 X.2.2.2.2.1 gX7_issuerOf_X7_of rfl rfl rfl (by decide +kernel) ⟨Nat.le_of_ble_eq_true rfl, Nat.le_of_ble_eq_true rfl⟩) (by decide) (by decide) rfl rfl rfl (Nat.le_of_ble_eq_true rfl) dX7_issuerOf_40 ⟨Nat.le_of_ble_eq_true rfl, Nat.le_of_ble_eq_true rfl⟩ (fun x7 hx7 => ?_)
      exact vs_iret X dX7_issuerOf_43 (by decide) (by decide)
    · refine vs_iconst X (v := 0) dX7_issuerOf_33 (by decide) ?_
      refine vs_goto X (tgt := 43) dX7_issuerOf_34 (by decide) ?_
      exact vs_iret X dX7_issuerOf_43 (by decide) (by decide)
  · refine vs_if_ne X (tgt := 13) dX7_issuerOf_6 (by decide) (fun _ => ?_) (fun _ => ?_)
    · refine vs_iconst X (v := 1) dX7_issuerOf_9 (by decide) ?_
      refine vs_goto X (tgt := 27) dX7_issuerOf_10 (by decide) ?_
      exact vs_join [0, 1] (Nat.le_of_ble_eq_true rfl) (Nat.le_of_ble_eq_true rfl) rfl (hk4 1)
    · refine vs_aload_n X dX7_issuerOf_13 0 rfl ?_
      refine vs_iload_n X dX7_issuerOf_14 1 rfl ?_
      refine vs_iconst X (v := 0) dX7_issuerOf_15 (by decide) ?_
      refine vs_callVp X  (As := [.int p1, .int 0]) (st' := [rf G 166]) (mtX7_of hl0 p1 0) (cwV 2 X.2.2.2.2.1 gX7_issuerOf_X7_of rfl rfl rfl (by decide +kernel) ⟨Nat.le_of_ble_eq_true rfl, Nat.le_of_ble_eq_true rfl⟩) (by decide) (by decide) rfl rfl rfl (Nat.le_of_ble_eq_true rfl) dX7_issuerOf_16 ⟨Nat.le_of_ble_eq_true rfl, Nat.le_of_ble_eq_true rfl⟩ (fun x2 hx2 => ?_)
      refine vs_if_ge X (tgt := 26) dX7_issuerOf_19 (by decide) (fun _ => ?_) (fun _ => ?_)
      · refine vs_iconst X (v := 0) dX7_issuerOf_26 (by decide) ?_
        exact vs_join [0, 1] (Nat.le_of_ble_eq_true rfl) (Nat.le_of_ble_eq_true rfl) rfl (hk4 0)
      · refine vs_iconst X (v := 2) dX7_issuerOf_22 (by decide) ?_
        refine vs_goto X (tgt := 27) dX7_issuerOf_23 (by decide) ?_
        exact vs_join [0, 1] (Nat.le_of_ble_eq_true rfl) (Nat.le_of_ble_eq_true rfl) rfl (hk4 2)

def spX7_subjectOf (p1 : Int32) (S : Wo) : Option (Int32 × Wo) :=
  bd2 (spX7_isLost p1 S) (fun x1 S2 => (if x1 = 0 then (spX7_of p1 1 S2).bind (fun x3 => some (x3, S2)) else some (0, S2)))
set_option maxHeartbeats 4000000 in
set_option maxRecDepth 100000 in
theorem mtX7_subjectOf {l : Launch} (hl0 : l.stackTraces = false) {G : Gt} (p1 : Int32) {S : Wo} : ∀ rr, spX7_subjectOf p1 S = some rr → MI l yX7_subjectOf wsX7_subjectOf { frames := 3, cells := 0, slots := 0, locals := 64 } G S [rf G 166, .int p1] rr 0 0 := by
  refine MI_of (cc := cX7_subjectOf) (own := RX7) (maxL := 2) (ret := (some .int)) (sp := spX7_subjectOf p1 S) (by decide +kernel) rfl rfl (Nat.le_of_ble_eq_true rfl) ?_
  intro p e s m args below meth c X
  show VS G p l e _ s m args below meth c 2 _ _ 0 0 S 0 [(0, rf G 166), (1, .int p1)] []
  unfold spX7_subjectOf
  refine vs_aload_n X dX7_subjectOf_0 0 rfl ?_
  refine vs_iload_n X dX7_subjectOf_1 1 rfl ?_
  refine vs_callVi X  (As := [.int p1]) (st' := []) (mtX7_isLost hl0 p1) (cwV 1 X.2.2.2.2.1 gX7_subjectOf_X7_isLost rfl rfl rfl (by decide +kernel) ⟨Nat.le_of_ble_eq_true rfl, Nat.le_of_ble_eq_true rfl⟩) (by decide) (by decide) rfl rfl rfl (Nat.le_of_ble_eq_true rfl) dX7_subjectOf_2 ⟨Nat.le_of_ble_eq_true rfl, Nat.le_of_ble_eq_true rfl⟩ (fun x1 S2 hx1 => ?_)
  refine vs_if_eq X (tgt := 12) dX7_subjectOf_5 (by decide) (fun _ => ?_) (fun _ => ?_)
  · refine vs_aload_n X dX7_subjectOf_12 0 rfl ?_
    refine vs_iload_n X dX7_subjectOf_13 1 rfl ?_
    refine vs_iconst X (v := 1) dX7_subjectOf_14 (by decide) ?_
    refine vs_callVp X  (As := [.int p1, .int 1]) (st' := []) (mtX7_of hl0 p1 1) (cwV 2 X.2.2.2.2.1 gX7_subjectOf_X7_of rfl rfl rfl (by decide +kernel) ⟨Nat.le_of_ble_eq_true rfl, Nat.le_of_ble_eq_true rfl⟩) (by decide) (by decide) rfl rfl rfl (Nat.le_of_ble_eq_true rfl) dX7_subjectOf_15 ⟨Nat.le_of_ble_eq_true rfl, Nat.le_of_ble_eq_true rfl⟩ (fun x3 hx3 => ?_)
    exact vs_iret X dX7_subjectOf_18 (by decide) (by decide)
  · refine vs_iconst X (v := 0) dX7_subjectOf_8 (by decide) ?_
    refine vs_goto X (tgt := 18) dX7_subjectOf_9 (by decide) ?_
    exact vs_iret X dX7_subjectOf_18 (by decide) (by decide)

def spX7_addressOf (p1 : Int32) (S : Wo) : Option (Int32 × Wo) :=
  bd2 (spX7_isLost p1 S) (fun x1 S2 => (if x1 = 0 then (spX7_of p1 2 S2).bind (fun x3 => some (x3, S2)) else some (0, S2)))
set_option maxHeartbeats 4000000 in
set_option maxRecDepth 100000 in
theorem mtX7_addressOf {l : Launch} (hl0 : l.stackTraces = false) {G : Gt} (p1 : Int32) {S : Wo} : ∀ rr, spX7_addressOf p1 S = some rr → MI l yX7_addressOf wsX7_addressOf { frames := 3, cells := 0, slots := 0, locals := 64 } G S [rf G 166, .int p1] rr 0 0 := by
  refine MI_of (cc := cX7_addressOf) (own := RX7) (maxL := 2) (ret := (some .int)) (sp := spX7_addressOf p1 S) (by decide +kernel) rfl rfl (Nat.le_of_ble_eq_true rfl) ?_
  intro p e s m args below meth c X
  show VS G p l e _ s m args below meth c 2 _ _ 0 0 S 0 [(0, rf G 166), (1, .int p1)] []
  unfold spX7_addressOf
  refine vs_aload_n X dX7_addressOf_0 0 rfl ?_
  refine vs_iload_n X dX7_addressOf_1 1 rfl ?_
  refine vs_callVi X  (As := [.int p1]) (st' := []) (mtX7_isLost hl0 p1) (cwV 1 X.2.2.2.2.1 gX7_addressOf_X7_isLost rfl rfl rfl (by decide +kernel) ⟨Nat.le_of_ble_eq_true rfl, Nat.le_of_ble_eq_true rfl⟩) (by decide) (by decide) rfl rfl rfl (Nat.le_of_ble_eq_true rfl) dX7_addressOf_2 ⟨Nat.le_of_ble_eq_true rfl, Nat.le_of_ble_eq_true rfl⟩ (fun x1 S2 hx1 => ?_)
  refine vs_if_eq X (tgt := 12) dX7_addressOf_5 (by decide) (fun _ => ?_) (fun _ => ?_)
  · refine vs_aload_n X dX7_addressOf_12 0 rfl ?_
    refine vs_iload_n X dX7_addressOf_13 1 rfl ?_
    refine vs_iconst X (v := 2) dX7_addressOf_14 (by decide) ?_
    refine vs_callVp X  (As := [.int p1, .int 2]) (st' := []) (mtX7_of hl0 p1 2) (cwV 2 X.2.2.2.2.1 gX7_addressOf_X7_of rfl rfl rfl (by decide +kernel) ⟨Nat.le_of_ble_eq_true rfl, Nat.le_of_ble_eq_true rfl⟩) (by decide) (by decide) rfl rfl rfl (Nat.le_of_ble_eq_true rfl) dX7_addressOf_15 ⟨Nat.le_of_ble_eq_true rfl, Nat.le_of_ble_eq_true rfl⟩ (fun x3 hx3 => ?_)
    exact vs_iret X dX7_addressOf_18 (by decide) (by decide)
  · refine vs_iconst X (v := 0) dX7_addressOf_8 (by decide) ?_
    refine vs_goto X (tgt := 18) dX7_addressOf_9 (by decide) ?_
    exact vs_iret X dX7_addressOf_18 (by decide) (by decide)

def spX7_lastDayOf (p1 : Int32) (S : Wo) : Option (Int32 × Wo) :=
  bd2 (spX7_isLost p1 S) (fun x1 S2 => (if x1 = 0 then (spX7_of p1 3 S2).bind (fun x3 => some (x3, S2)) else some (0, S2)))
set_option maxHeartbeats 4000000 in
set_option maxRecDepth 100000 in
theorem mtX7_lastDayOf {l : Launch} (hl0 : l.stackTraces = false) {G : Gt} (p1 : Int32) {S : Wo} : ∀ rr, spX7_lastDayOf p1 S = some rr → MI l yX7_lastDayOf wsX7_lastDayOf { frames := 3, cells := 0, slots := 0, locals := 64 } G S [rf G 166, .int p1] rr 0 0 := by
  refine MI_of (cc := cX7_lastDayOf) (own := RX7) (maxL := 2) (ret := (some .int)) (sp := spX7_lastDayOf p1 S) (by decide +kernel) rfl rfl (Nat.le_of_ble_eq_true rfl) ?_
  intro p e s m args below meth c X
  show VS G p l e _ s m args below meth c 2 _ _ 0 0 S 0 [(0, rf G 166), (1, .int p1)] []
  unfold spX7_lastDayOf
  refine vs_aload_n X dX7_lastDayOf_0 0 rfl ?_
  refine vs_iload_n X dX7_lastDayOf_1 1 rfl ?_
  refine vs_callVi X  (As := [.int p1]) (st' := []) (mtX7_isLost hl0 p1) (cwV 1 X.2.2.2.2.1 gX7_lastDayOf_X7_isLost rfl rfl rfl (by decide +kernel) ⟨Nat.le_of_ble_eq_true rfl, Nat.le_of_ble_eq_true rfl⟩) (by decide) (by decide) rfl rfl rfl (Nat.le_of_ble_eq_true rfl) dX7_lastDayOf_2 ⟨Nat.le_of_ble_eq_true rfl, Nat.le_of_ble_eq_true rfl⟩ (fun x1 S2 hx1 => ?_)
  refine vs_if_eq X (tgt := 12) dX7_lastDayOf_5 (by decide) (fun _ => ?_) (fun _ => ?_)
  · refine vs_aload_n X dX7_lastDayOf_12 0 rfl ?_
    refine vs_iload_n X dX7_lastDayOf_13 1 rfl ?_
    refine vs_iconst X (v := 3) dX7_lastDayOf_14 (by decide) ?_
    refine vs_callVp X  (As := [.int p1, .int 3]) (st' := []) (mtX7_of hl0 p1 3) (cwV 2 X.2.2.2.2.1 gX7_lastDayOf_X7_of rfl rfl rfl (by decide +kernel) ⟨Nat.le_of_ble_eq_true rfl, Nat.le_of_ble_eq_true rfl⟩) (by decide) (by decide) rfl rfl rfl (Nat.le_of_ble_eq_true rfl) dX7_lastDayOf_15 ⟨Nat.le_of_ble_eq_true rfl, Nat.le_of_ble_eq_true rfl⟩ (fun x3 hx3 => ?_)
    exact vs_iret X dX7_lastDayOf_18 (by decide) (by decide)
  · refine vs_iconst X (v := 0) dX7_lastDayOf_8 (by decide) ?_
    refine vs_goto X (tgt := 18) dX7_lastDayOf_9 (by decide) ?_
    exact vs_iret X dX7_lastDayOf_18 (by decide) (by decide)

def spX7_isInForce (p1 : Int32) (S : Wo) : Option (Int32 × Wo) :=
  bd2 (spX7_isLost p1 S) (fun x1 S2 => (if x1 = 0 then (spX7_isValid p1 S2).bind (fun x3 => (if x3 = 0 then rz 0 (fun y => some (y, S2)) else rz 1 (fun y => some (y, S2)))) else rz 0 (fun y => some (y, S2))))
set_option maxHeartbeats 4000000 in
set_option maxRecDepth 100000 in
theorem mtX7_isInForce {l : Launch} (hl0 : l.stackTraces = false) {G : Gt} (p1 : Int32) {S : Wo} : ∀ rr, spX7_isInForce p1 S = some rr → MI l yX7_isInForce wsX7_isInForce { frames := 4, cells := 0, slots := 0, locals := 90 } G S [rf G 166, .int p1] rr 0 0 := by
  refine MI_of (cc := cX7_isInForce) (own := RX7) (maxL := 2) (ret := (some .boolean)) (sp := spX7_isInForce p1 S) (by decide +kernel) rfl rfl (Nat.le_of_ble_eq_true rfl) ?_
  intro p e s m args below meth c X
  show VS G p l e _ s m args below meth c 2 _ _ 0 0 S 0 [(0, rf G 166), (1, .int p1)] []
  unfold spX7_isInForce
  refine vs_aload_n X dX7_isInForce_0 0 rfl ?_
  refine vs_iload_n X dX7_isInForce_1 1 rfl ?_
  refine vs_callVi X  (As := [.int p1]) (st' := []) (mtX7_isLost hl0 p1) (cwV 1 X.2.2.2.2.1 gX7_isInForce_X7_isLost rfl rfl rfl (by decide +kernel) ⟨Nat.le_of_ble_eq_true rfl, Nat.le_of_ble_eq_true rfl⟩) (by decide) (by decide) rfl rfl rfl (Nat.le_of_ble_eq_true rfl) dX7_isInForce_2 ⟨Nat.le_of_ble_eq_true rfl, Nat.le_of_ble_eq_true rfl⟩ (fun x1 S2 hx1 => ?_)
  refine vs_if_ne X (tgt := 20) dX7_isInForce_5 (by decide) (fun _ => ?_) (fun _ => ?_)
  · refine vs_aload_n X dX7_isInForce_8 0 rfl ?_
    refine vs_iload_n X dX7_isInForce_9 1 rfl ?_
    refine vs_callVp X  (As := [.int p1]) (st' := []) (mtX7_isValid hl0 p1) (cwV 1 X.2.2.2.2.1 gX7_isInForce_X7_isValid rfl rfl rfl (by decide +kernel) ⟨Nat.le_of_ble_eq_true rfl, Nat.le_of_ble_eq_true rfl⟩) (by decide) (by decide) rfl rfl rfl (Nat.le_of_ble_eq_true rfl) dX7_isInForce_10 ⟨Nat.le_of_ble_eq_true rfl, Nat.le_of_ble_eq_true rfl⟩ (fun x3 hx3 => ?_)
    refine vs_if_eq X (tgt := 20) dX7_isInForce_13 (by decide) (fun _ => ?_) (fun _ => ?_)
    · refine vs_iconst X (v := 0) dX7_isInForce_20 (by decide) ?_
      exact vs_zret X dX7_isInForce_21 (by decide) (by decide)
    · refine vs_iconst X (v := 1) dX7_isInForce_16 (by decide) ?_
      refine vs_goto X (tgt := 21) dX7_isInForce_17 (by decide) ?_
      exact vs_zret X dX7_isInForce_21 (by decide) (by decide)
  · refine vs_iconst X (v := 0) dX7_isInForce_20 (by decide) ?_
    exact vs_zret X dX7_isInForce_21 (by decide) (by decide)

def lpX7_valid_4  (S : Wo)   : Nat → Int32 → Int32 → Option (Int32)
  | 0, _, _ => none
  | f + 1, v1, v2 => (if inb 1 112 = true then (if (S.2.1 167 (ix 1)) ≤ v2 then some v1 else (spX7_isValid v2 S).bind (fun x2 => (if x2 = 0 then lpX7_valid_4  S f (v1 + 0) (v2 + 1) else lpX7_valid_4  S f (v1 + 1) (v2 + 1)))) else none)
def spX7_valid  (S : Wo) : Option (Int32) :=
  lpX7_valid_4  S 200 0 0
set_option maxHeartbeats 4000000 in
set_option maxRecDepth 100000 in
theorem mtX7_valid {l : Launch} (hl0 : l.stackTraces = false) {G : Gt}  {S : Wo} : ∀ x, spX7_valid  S = some x → MI l yX7_valid wsX7_valid { frames := 4, cells := 0, slots := 0, locals := 90 } G S [rf G 166] (x, S) 0 0 := by
  refine MIp_of (cc := cX7_valid) (own := RX7) (maxL := 3) (ret := (some .int)) (sp := spX7_valid  S) (by decide +kernel) rfl rfl (Nat.le_of_ble_eq_true rfl) ?_
  intro p e s m args below meth c X
  have hinX7 : ∀ w ∈ wsX70, w ∈ wsX7_valid := by decide +kernel
  show VS G p l e _ s m args below meth c 3 _ _ 0 0 S 0 [(0, rf G 166)] []
  unfold spX7_valid
  refine vs_iconst X (v := 0) dX7_valid_0 (by decide) ?_
  refine vs_istore_n X (lv' := [(1, .int 0), (0, rf G 166)]) dX7_valid_1 (by decide) rfl ?_
  refine vs_iconst X (v := 0) dX7_valid_2 (by decide) ?_
  refine vs_istore_n X (lv' := [(2, .int 0), (1, .int 0), (0, rf G 166)]) dX7_valid_3 (by decide) rfl ?_
  have L1 : ∀ (f : Nat) (v1 : Int32) (v2 : Int32), VS G p l e ({ frames := 4, cells := 0, slots := 0, locals := 90 } : Room) s m args below meth c 3 (fun x => MQ below (QI G (x, S)) args s 0 0 (Af G)) (lpX7_valid_4  S f v1 v2) 0 0 S 4 [(0, rf G 166), (1, .int v1), (2, .int v2)] [] := by
    intro f
    induction f with
    | zero => intro v1 v2; exact vs_none rfl
    | succ f ih =>
        intro v1 v2
        rw [lpX7_valid_4]
        refine vs_iload_n X dX7_valid_4 2 rfl ?_
        refine vs_aload_n X dX7_valid_5 0 rfl ?_
        refine g_Mod  X hinX7 0 (by decide) (by decide +kernel) rfl rfl dX7_valid_6 ?_
        refine vs_iconst X (v := 1) dX7_valid_9 (by decide) ?_
        refine vs_iald X (by decide) (by decide) rfl dX7_valid_10 ?_
        refine vs_icmp_ge X (tgt := 36) dX7_valid_11 (by decide) (fun _ => ?_) (fun _ => ?_)
        · refine vs_iload_n X dX7_valid_36 1 rfl ?_
          exact vs_iretp X dX7_valid_37 (by decide) (by decide)
        · refine vs_iload_n X dX7_valid_14 1 rfl ?_
          refine vs_aload_n X dX7_valid_15 0 rfl ?_
          refine vs_iload_n X dX7_valid_16 2 rfl ?_
          refine vs_callVp X  (As := [.int v2]) (st' := [.int v1]) (mtX7_isValid hl0 v2) (cwV 1 X.2.2.2.2.1 gX7_valid_X7_isValid rfl rfl rfl (by decide +kernel) ⟨Nat.le_of_ble_eq_true rfl, Nat.le_of_ble_eq_true rfl⟩) (by decide) (by decide) rfl rfl rfl (Nat.le_of_ble_eq_true rfl) dX7_valid_17 ⟨Nat.le_of_ble_eq_true rfl, Nat.le_of_ble_eq_true rfl⟩ (fun x2 hx2 => ?_)
          refine vs_if_eq X (tgt := 27) dX7_valid_20 (by decide) (fun _ => ?_) (fun _ => ?_)
          · refine vs_iconst X (v := 0) dX7_valid_27 (by decide) ?_
            refine vs_iadd X dX7_valid_28 ?_
            refine vs_istore_n X (lv' := [(1, .int (v1 + 0)), (0, rf G 166), (2, .int v2)]) dX7_valid_29 (by decide) rfl ?_
            refine vs_iinc X (v := (v2 + 1)) (lv' := [(2, .int (v2 + 1)), (1, .int (v1 + 0)), (0, rf G 166)]) dX7_valid_30 2 rfl rfl (by decide) rfl ?_
            refine vs_goto X (tgt := 4) dX7_valid_33 (by decide) ?_
            refine vs_sub [2, 1, 0] (lv' := [(0, rf G 166), (1, .int (v1 + 0)), (2, .int (v2 + 1))]) rfl ?_
            exact ih (v1 + 0) (v2 + 1)
          · refine vs_iconst X (v := 1) dX7_valid_23 (by decide) ?_
            refine vs_goto X (tgt := 28) dX7_valid_24 (by decide) ?_
            refine vs_iadd X dX7_valid_28 ?_
            refine vs_istore_n X (lv' := [(1, .int (v1 + 1)), (0, rf G 166), (2, .int v2)]) dX7_valid_29 (by decide) rfl ?_
            refine vs_iinc X (v := (v2 + 1)) (lv' := [(2, .int (v2 + 1)), (1, .int (v1 + 1)), (0, rf G 166)]) dX7_valid_30 2 rfl rfl (by decide) rfl ?_
            refine vs_goto X (tgt := 4) dX7_valid_33 (by decide) ?_
            refine vs_sub [2, 1, 0] (lv' := [(0, rf G 166), (1, .int (v1 + 1)), (2, .int (v2 + 1))]) rfl ?_
            exact ih (v1 + 1) (v2 + 1)
  refine vs_sub [2, 1, 0] (lv' := [(0, rf G 166), (1, .int 0), (2, .int 0)]) rfl ?_
  exact L1 200 0 0

def spX7_inForceCount  (S : Wo) : Option (Int32 × Wo) :=
  wr (pI S 166 9 0) (fun S1 => (spX7_valid  S1).bind (fun x2 => some (x2, S1)))
set_option maxHeartbeats 4000000 in
set_option maxRecDepth 100000 in
theorem mtX7_inForceCount {l : Launch} (hl0 : l.stackTraces = false) {G : Gt}  {S : Wo} : ∀ rr, spX7_inForceCount  S = some rr → MI l yX7_inForceCount wsX7_inForceCount { frames := 5, cells := 0, slots := 0, locals := 112 } G S [rf G 166] rr 0 0 := by
  refine MI_of (cc := cX7_inForceCount) (own := RX7) (maxL := 1) (ret := (some .int)) (sp := spX7_inForceCount  S) (by decide +kernel) rfl rfl (Nat.le_of_ble_eq_true rfl) ?_
  intro p e s m args below meth c X
  have hinX7 : ∀ w ∈ wsX70, w ∈ wsX7_inForceCount := by decide +kernel
  show VS G p l e _ s m args below meth c 1 _ _ 0 0 S 0 [(0, rf G 166)] []
  unfold spX7_inForceCount
  refine vs_aload_n X dX7_inForceCount_0 0 rfl ?_
  refine vs_iconst X (v := 0) dX7_inForceCount_1 (by decide) ?_
  refine p_Mod  X hinX7 9 (by decide) (by decide +kernel) rfl rfl rfl rfl rfl rfl dX7_inForceCount_2 (fun S1 hS1 => ?_)
  refine vs_aload_n X dX7_inForceCount_5 0 rfl ?_
  refine vs_callVp X  (As := []) (st' := []) (mtX7_valid hl0 ) (cwV 0 X.2.2.2.2.1 gX7_inForceCount_X7_valid rfl rfl rfl (by decide +kernel) ⟨Nat.le_of_ble_eq_true rfl, Nat.le_of_ble_eq_true rfl⟩) (by decide) (by decide) rfl rfl rfl (Nat.le_of_ble_eq_true rfl) dX7_inForceCount_6 ⟨Nat.le_of_ble_eq_true rfl, Nat.le_of_ble_eq_true rfl⟩ (fun x2 hx2 => ?_)
  exact vs_iret X dX7_inForceCount_9 (by decide) (by decide)

def spX7_sow (p1 : Int32) (p2 : Int32) (S : Wo) : Option (Int32 × Wo) :=
  (spX7_isField p1 S).bind (fun x1 => jn (β := Int32 → Option (Int32 × Wo)) (fun (x3 : Int32) => bd2 (spX7_fails x3 S) (fun x5 S6 => (if x5 = 0 then (if inb (16 + p1) 112 = true then (if ((S6.2.1 167 (ix (16 + p1))) + p2) ≤ 99 then (spX7_keeps 167 112 S6).bind (fun S7 => (if inb (16 + p1) 112 = true then (if inb (16 + p1) 112 = true then wr (pF S7 167 (upd (S7.2.1 167) (ix (16 + p1)) ((S7.2.1 167 (ix (16 + p1))) + p2))) (fun S8 => (if inb 4 112 = true then (if inb 4 112 = true then wr (pF S8 167 (upd (S8.2.1 167) (ix 4) ((S8.2.1 167 (ix 4)) + p2))) (fun S9 => (if inb (16 + p1) 112 = true then some ((S9.2.1 167 (ix (16 + p1))), S9) else none)) else none) else none)) else none) else none)) else bd2 (spX7_denies 2 1 99 S6) (fun x10 S11 => some (x10, S11))) else none) else some (0, S6)))) (fun k4 => (if x1 = 0 then k4 1 else (spX7_in p2 1 99 S).bind (fun x2 => (if x2 = 0 then k4 1 else k4 0)))))
set_option maxHeartbeats 4000000 in
set_option maxRecDepth 100000 in
theorem mtX7_sow {l : Launch} (hl0 : l.stackTraces = false) {G : Gt} (p1 : Int32) (p2 : Int32) {S : Wo} : ∀ rr, spX7_sow p1 p2 S = some rr → MI l yX7_sow wsX7_sow { frames := 2, cells := 0, slots := 0, locals := 46 } G S [rf G 166, .int p1, .int p2] rr 0 0 := by
  refine MI_of (cc := cX7_sow) (own := RX7) (maxL := 3) (ret := (some .int)) (sp := spX7_sow p1 p2 S) (by decide +kernel) rfl rfl (Nat.le_of_ble_eq_true rfl) ?_
  intro p e s m args below meth c X
  have hinX7 : ∀ w ∈ wsX70, w ∈ wsX7_sow := by decide +kernel
  show VS G p l e _ s m args below meth c 3 _ _ 0 0 S 0 [(0, rf G 166), (1, .int p1), (2, .int p2)] []
  unfold spX7_sow
  refine vs_aload_n X dX7_sow_0 0 rfl ?_
  refine vs_iload_n X dX7_sow_1 1 rfl ?_
  refine vs_callSp X  (As := [.int p1]) (st' := [rf G 166]) (mtX7_isField hl0 p1) (va_cwS 1 X.2.2.2.2.1 gX7_sow_X7_isField rfl rfl rfl (by decide +kernel) ⟨Nat.le_of_ble_eq_true rfl, Nat.le_of_ble_eq_true rfl⟩) rfl (Nat.le_of_ble_eq_true rfl) dX7_sow_2 ⟨Nat.le_of_ble_eq_true rfl, Nat.le_of_ble_eq_true rfl⟩ (fun x1 hx1 => ?_)
  refine vs_jn (β := Int32 → Option (Int32 × Wo)) (P := fun k4 => ∀ (x3 : Int32), VS G p l e ({ frames := 2, cells := 0, slots := 0, locals := 46 } : Room) s m args below meth c 3 (fun r => MQ below (QI G r) args s 0 0 (Af G)) (k4 x3) 0 0 S 23 [(0, rf G 166), (1, .int p1), (2, .int p2)] [.int x3, rf G 166]) (fun x3 => ?_) (fun k4 hk4 => ?_)
  · refine vs_callVi X  (As := [.int x3]) (st' := []) (mtX7_fails hl0 x3) (cwV 1 X.2.2.2.2.1 gX7_sow_X7_fails rfl rfl rfl (by decide +kernel) ⟨Nat.le_of_ble_eq_true rfl, Nat.le_of_ble_eq_true rfl⟩) (by decide) (by decide) rfl rfl rfl (Nat.le_of_ble_eq_true rfl) dX7_sow_23 ⟨Nat.le_of_ble_eq_true rfl, Nat.le_of_ble_eq_true rfl⟩ (fun x5 S6 hx5 => ?_)
    refine vs_if_eq X (tgt := 31) dX7_sow_26 (by decide) (fun _ => ?_) (fun _ => ?_)
    · refine vs_aload_n X dX7_sow_31 0 rfl ?_
      refine g_Mod  X hinX7 0 (by decide) (by decide +kernel) rfl rfl dX7_sow_32 ?_
      refine vs_bipush X (v := 16) dX7_sow_35 (by decide) ?_
      refine vs_iload_n X dX7_sow_37 1 rfl ?_
      refine vs_iadd X dX7_sow_38 ?_
      refine vs_iald X (by decide) (by decide) rfl dX7_sow_39 ?_
      refine vs_iload_n X dX7_sow_40 2 rfl ?_
      refine vs_iadd X dX7_sow_41 ?_
      refine vs_bipush X (v := 99) dX7_sow_42 (by decide) ?_
      refine vs_icmp_le X (tgt := 56) dX7_sow_44 (by decide) (fun _ => ?_) (fun _ => ?_)
      · refine vs_aload_n X dX7_sow_56 0 rfl ?_
        refine vs_aload_n X dX7_sow_57 0 rfl ?_
        refine g_Mod  X hinX7 0 (by decide) (by decide +kernel) rfl rfl dX7_sow_58 ?_
        refine vs_callVv X  (As := [rf G 167]) (st' := []) (mtX7_keeps hl0 isIA_167) (cwV 1 X.2.2.2.2.1 gX7_sow_X7_keeps rfl rfl rfl (by decide +kernel) ⟨Nat.le_of_ble_eq_true rfl, Nat.le_of_ble_eq_true rfl⟩) (by decide) (by decide) rfl rfl rfl (Nat.le_of_ble_eq_true rfl) dX7_sow_61 ⟨Nat.le_of_ble_eq_true rfl, Nat.le_of_ble_eq_true rfl⟩ (fun S7 hS7 => ?_)
        refine vs_aload_n X dX7_sow_64 0 rfl ?_
        refine g_Mod  X hinX7 0 (by decide) (by decide +kernel) rfl rfl dX7_sow_65 ?_
        refine vs_bipush X (v := 16) dX7_sow_68 (by decide) ?_
        refine vs_iload_n X dX7_sow_70 1 rfl ?_
        refine vs_iadd X dX7_sow_71 ?_
        refine vs_dup2 X dX7_sow_72 rfl rfl ?_
        refine vs_iald X (by decide) (by decide) rfl dX7_sow_73 ?_
        refine vs_iload_n X dX7_sow_74 2 rfl ?_
        refine vs_iadd X dX7_sow_75 ?_
        refine vs_iast X (by decide) (by decide) (fun _ => rfl) dX7_sow_76 (fun S8 hS8 => ?_)
        refine vs_aload_n X dX7_sow_77 0 rfl ?_
        refine g_Mod  X hinX7 0 (by decide) (by decide +kernel) rfl rfl dX7_sow_78 ?_
        refine vs_iconst X (v := 4) dX7_sow_81 (by decide) ?_
        refine vs_dup2 X dX7_sow_82 rfl rfl ?_
        refine vs_iald X (by decide) (by decide) rfl dX7_sow_83 ?_
        refine vs_iload_n X dX7_sow_84 2 rfl ?_
        refine vs_iadd X dX7_sow_85 ?_
        refine vs_iast X (by decide) (by decide) (fun _ => rfl) dX7_sow_86 (fun S9 hS9 => ?_)
        refine vs_aload_n X dX7_sow_87 0 rfl ?_
        refine g_Mod  X hinX7 0 (by decide) (by decide +kernel) rfl rfl dX7_sow_88 ?_
        refine vs_bipush X (v := 16) dX7_sow_91 (by decide) ?_
        refine vs_iload_n X dX7_sow_93 1 rfl ?_
        refine vs_iadd X dX7_sow_94 ?_
        refine vs_iald X (by decide) (by decide) rfl dX7_sow_95 ?_
        exact vs_iret X dX7_sow_96 (by decide) (by decide)
      · refine vs_aload_n X dX7_sow_47 0 rfl ?_
        refine vs_iconst X (v := 2) dX7_sow_48 (by decide) ?_
        refine vs_iconst X (v := 1) dX7_sow_49 (by decide) ?_
        refine vs_bipush X (v := 99) dX7_sow_50 (by decide) ?_
        refine vs_callVi X  (As := [.int 2, .int 1, .int 99]) (st' := []) (mtX7_denies hl0 2 1 99) (cwV 3 X.2.2.2.2.1 gX7_sow_X7_denies rfl rfl rfl (by decide +kernel) ⟨Nat.le_of_ble_eq_true rfl, Nat.le_of_ble_eq_true rfl⟩) (by decide) (by decide) rfl rfl rfl (Nat.le_of_ble_eq_true rfl) dX7_sow_52 ⟨Nat.le_of_ble_eq_true rfl, Nat.le_of_ble_eq_true rfl⟩ (fun x10 S11 hx10 => ?_)
        exact vs_iret X dX7_sow_55 (by decide) (by decide)
    · refine vs_iconst X (v := 0) dX7_sow_29 (by decide) ?_
      exact vs_iret X dX7_sow_30 (by decide) (by decide)
  · refine vs_if_eq X (tgt := 22) dX7_sow_5 (by decide) (fun _ => ?_) (fun _ => ?_)
    · refine vs_iconst X (v := 1) dX7_sow_22 (by decide) ?_
      exact vs_join [0, 1, 2] (Nat.le_of_ble_eq_true rfl) (Nat.le_of_ble_eq_true rfl) rfl (hk4 1)
    · refine vs_iload_n X dX7_sow_8 2 rfl ?_
      refine vs_iconst X (v := 1) dX7_sow_9 (by decide) ?_
      refine vs_bipush X (v := 99) dX7_sow_10 (by decide) ?_
      refine vs_callSp X  (As := [.int p2, .int 1, .int 99]) (st' := [rf G 166]) (mtX7_in hl0 p2 1 99) (va_cwS 3 X.2.2.2.2.1 gX7_sow_X7_in rfl rfl rfl (by decide +kernel) ⟨Nat.le_of_ble_eq_true rfl, Nat.le_of_ble_eq_true rfl⟩) rfl (Nat.le_of_ble_eq_true rfl) dX7_sow_12 ⟨Nat.le_of_ble_eq_true rfl, Nat.le_of_ble_eq_true rfl⟩ (fun x2 hx2 => ?_)
      refine vs_if_eq X (tgt := 22) dX7_sow_15 (by decide) (fun _ => ?_) (fun _ => ?_)
      · refine vs_iconst X (v := 1) dX7_sow_22 (by decide) ?_
        exact vs_join [0, 1, 2] (Nat.le_of_ble_eq_true rfl) (Nat.le_of_ble_eq_true rfl) rfl (hk4 1)
      · refine vs_iconst X (v := 0) dX7_sow_18 (by decide) ?_
        refine vs_goto X (tgt := 23) dX7_sow_19 (by decide) ?_
        exact vs_join [0, 1, 2] (Nat.le_of_ble_eq_true rfl) (Nat.le_of_ble_eq_true rfl) rfl (hk4 0)

def spX7_apart (p1 : Int32) (p2 : Int32) (S : Wo) : Option (Int32) :=
  (if p1 ≤ p2 then some (p2 - p1) else some (p1 - p2))
set_option maxHeartbeats 4000000 in
set_option maxRecDepth 100000 in
theorem mtX7_apart {l : Launch} (hl0 : l.stackTraces = false) {G : Gt} (p1 : Int32) (p2 : Int32) {S : Wo} : ∀ x, spX7_apart p1 p2 S = some x → MI l yX7_apart wsX7_apart { frames := 0, cells := 0, slots := 0, locals := 0 } G S [.int p1, .int p2] (x, S) 0 0 := by
  refine MIp_of (cc := cX7_apart) (own := RX7) (maxL := 2) (ret := (some .int)) (sp := spX7_apart p1 p2 S) (by decide +kernel) rfl rfl (Nat.le_of_ble_eq_true rfl) ?_
  intro p e s m args below meth c X
  show VS G p l e _ s m args below meth c 2 _ _ 0 0 S 0 [(0, .int p1), (1, .int p2)] []
  unfold spX7_apart
  refine vs_iload_n X dX7_apart_0 0 rfl ?_
  refine vs_iload_n X dX7_apart_1 1 rfl ?_
  refine vs_icmp_le X (tgt := 11) dX7_apart_2 (by decide) (fun _ => ?_) (fun _ => ?_)
  · refine vs_iload_n X dX7_apart_11 1 rfl ?_
    refine vs_iload_n X dX7_apart_12 0 rfl ?_
    refine vs_isub X dX7_apart_13 ?_
    exact vs_iretp X dX7_apart_14 (by decide) (by decide)
  · refine vs_iload_n X dX7_apart_5 0 rfl ?_
    refine vs_iload_n X dX7_apart_6 1 rfl ?_
    refine vs_isub X dX7_apart_7 ?_
    refine vs_goto X (tgt := 14) dX7_apart_8 (by decide) ?_
    exact vs_iretp X dX7_apart_14 (by decide) (by decide)

def lpX7_guards_28  (S : Wo) (w1 : Int32) (w3 : Int32) (K : Int32 → Int32 → Option (Int32)) : Nat → Int32 → Int32 → Option (Int32)
  | 0, _, _ => none
  | f + 1, v2, v4 => (if (16 : Int32) ≤ v4 then K v2 v4 else (spX7_has w1 w3 S).bind (fun x4 => (if x4 = 0 then K v2 v4 else (if inb (5 + w3) 112 = true then (spX7_apart ((S.2.1 167 (ix (5 + w3))) / 4) (v4 / 4) S).bind (fun x5 => (spX7_apart ((S.2.1 167 (ix (5 + w3))) - (S.2.1 167 (ix (5 + w3))) / 4 * 4) (v4 - v4 / 4 * 4) S).bind (fun x6 => (if (2 : Int32) ≤ (x5 + x6) then lpX7_guards_28  S w1 w3 K f v2 (v4 + 1) else lpX7_guards_28  S w1 w3 K f (v2 ||| (1 <<< (v4 &&& 31))) (v4 + 1)))) else none))))
def lpX7_guards_15  (S : Wo) (w1 : Int32)  : Nat → Int32 → Int32 → Option (Int32)
  | 0, _, _ => none
  | f + 1, v2, v3 => (if inb 0 112 = true then (if (S.2.1 167 (ix 0)) ≤ v3 then some v2 else lpX7_guards_28  S w1 v3 (fun (u7 : Int32) (u8 : Int32) => lpX7_guards_15  S w1 f u7 (v3 + 1)) 200 v2 0) else none)
def spX7_guards  (S : Wo) : Option (Int32) :=
  (if inb 2 112 = true then (spX7_certified (S.2.1 167 (ix 2)) S).bind (fun x1 => lpX7_guards_15  S x1 200 0 0) else none)
set_option maxHeartbeats 4000000 in
set_option maxRecDepth 100000 in
theorem mtX7_guards {l : Launch} (hl0 : l.stackTraces = false) {G : Gt}  {S : Wo} : ∀ x, spX7_guards  S = some x → MI l yX7_guards wsX7_guards { frames := 3, cells := 0, slots := 0, locals := 69 } G S [rf G 166] (x, S) 0 0 := by
  refine MIp_of (cc := cX7_guards) (own := RX7) (maxL := 6) (ret := (some .int)) (sp := spX7_guards  S) (by decide +kernel) rfl rfl (Nat.le_of_ble_eq_true rfl) ?_
  intro p e s m args below meth c X
  have hinX7 : ∀ w ∈ wsX70, w ∈ wsX7_guards := by decide +kernel
  show VS G p l e _ s m args below meth c 6 _ _ 0 0 S 0 [(0, rf G 166)] []
  unfold spX7_guards
  refine vs_aload_n X dX7_guards_0 0 rfl ?_
  refine vs_aload_n X dX7_guards_1 0 rfl ?_
  refine g_Mod  X hinX7 0 (by decide) (by decide +kernel) rfl rfl dX7_guards_2 ?_
  refine vs_iconst X (v := 2) dX7_guards_5 (by decide) ?_
  refine vs_iald X (by decide) (by decide) rfl dX7_guards_6 ?_
  refine vs_callVp X  (As := [.int (S.2.1 167 (ix 2))]) (st' := []) (mtX7_certified hl0 (S.2.1 167 (ix 2))) (cwV 1 X.2.2.2.2.1 gX7_guards_X7_certified rfl rfl rfl (by decide +kernel) ⟨Nat.le_of_ble_eq_true rfl, Nat.le_of_ble_eq_true rfl⟩) (by decide) (by decide) rfl rfl rfl (Nat.le_of_ble_eq_true rfl) dX7_guards_7 ⟨Nat.le_of_ble_eq_true rfl, Nat.le_of_ble_eq_true rfl⟩ (fun x1 hx1 => ?_)
  refine vs_istore_n X (lv' := [(1, .int x1), (0, rf G 166)]) dX7_guards_10 (by decide) rfl ?_
  refine vs_iconst X (v := 0) dX7_guards_11 (by decide) ?_
  refine vs_istore_n X (lv' := [(2, .int 0), (1, .int x1), (0, rf G 166)]) dX7_guards_12 (by decide) rfl ?_
  refine vs_iconst X (v := 0) dX7_guards_13 (by decide) ?_
  refine vs_istore_n X (lv' := [(3, .int 0), (2, .int 0), (1, .int x1), (0, rf G 166)]) dX7_guards_14 (by decide) rfl ?_
  have L2 : ∀ (w1 : Int32) (f : Nat) (v2 : Int32) (v3 : Int32), VS G p l e ({ frames := 3, cells := 0, slots := 0, locals := 69 } : Room) s m args below meth c 6 (fun x => MQ below (QI G (x, S)) args s 0 0 (Af G)) (lpX7_guards_15  S w1 f v2 v3) 0 0 S 15 [(0, rf G 166), (1, .int w1), (2, .int v2), (3, .int v3)] [] := by
    intro w1 f
    induction f with
    | zero => intro v2 v3; exact vs_none rfl
    | succ f ih =>
        intro v2 v3
        rw [lpX7_guards_15]
        refine vs_iload_n X dX7_guards_15 3 rfl ?_
        refine vs_aload_n X dX7_guards_16 0 rfl ?_
        refine g_Mod  X hinX7 0 (by decide) (by decide +kernel) rfl rfl dX7_guards_17 ?_
        refine vs_iconst X (v := 0) dX7_guards_20 (by decide) ?_
        refine vs_iald X (by decide) (by decide) rfl dX7_guards_21 ?_
        refine vs_icmp_ge X (tgt := 99) dX7_guards_22 (by decide) (fun _ => ?_) (fun _ => ?_)
        · refine vs_iload_n X dX7_guards_99 2 rfl ?_
          exact vs_iretp X dX7_guards_100 (by decide) (by decide)
        · refine vs_iconst X (v := 0) dX7_guards_25 (by decide) ?_
          refine vs_istore X (lv' := [(4, .int 0), (0, rf G 166), (1, .int w1), (2, .int v2), (3, .int v3)]) dX7_guards_26 (by decide) rfl ?_
          have L3 : ∀ (w1 : Int32) (w3 : Int32) (K : Int32 → Int32 → Option (Int32)) (hK : ∀ (v2 : Int32) (v4 : Int32), VS G p l e ({ frames := 3, cells := 0, slots := 0, locals := 69 } : Room) s m args below meth c 6 (fun x => MQ below (QI G (x, S)) args s 0 0 (Af G)) (K v2 v4) 0 0 S 93 [(0, rf G 166), (1, .int w1), (2, .int v2), (3, .int w3), (4, .int v4)] []) (f : Nat) (v2 : Int32) (v4 : Int32), VS G p l e ({ frames := 3, cells := 0, slots := 0, locals := 69 } : Room) s m args below meth c 6 (fun x => MQ below (QI G (x, S)) args s 0 0 (Af G)) (lpX7_guards_28  S w1 w3 K f v2 v4) 0 0 S 28 [(0, rf G 166), (1, .int w1), (2, .int v2), (3, .int w3), (4, .int v4)] [] := by
            intro w1 w3 K hK f
            induction f with
            | zero => intro v2 v4; exact vs_none rfl
            | succ f ih =>
                intro v2 v4
                rw [lpX7_guards_28]
                refine vs_iload X dX7_guards_28 4 rfl ?_
                refine vs_bipush X (v := 16) dX7_guards_30 (by decide) ?_
                refine vs_icmp_ge X (tgt := 93) dX7_guards_32 (by decide) (fun _ => ?_) (fun _ => ?_)
                · refine vs_sub [0, 1, 2, 3, 4] (lv' := [(0, rf G 166), (1, .int w1), (2, .int v2), (3, .int w3), (4, .int v4)]) rfl ?_
                  exact hK v2 v4
                · refine vs_iload_n X dX7_guards_35 1 rfl ?_
                  refine vs_iload_n X dX7_guards_36 3 rfl ?_
                  refine vs_callSp X  (As := [.int w1, .int w3]) (st' := []) (mtX7_has hl0 w1 w3) (va_cwS 2 X.2.2.2.2.1 gX7_guards_X7_has rfl rfl rfl (by decide +kernel) ⟨Nat.le_of_ble_eq_true rfl, Nat.le_of_ble_eq_true rfl⟩) rfl (Nat.le_of_ble_eq_true rfl) dX7_guards_37 ⟨Nat.le_of_ble_eq_true rfl, Nat.le_of_ble_eq_true rfl⟩ (fun x4 hx4 => ?_)
                  refine vs_if_eq X (tgt := 93) dX7_guards_40 (by decide) (fun _ => ?_) (fun _ => ?_)
                  · refine vs_sub [0, 1, 2, 3, 4] (lv' := [(0, rf G 166), (1, .int w1), (2, .int v2), (3, .int w3), (4, .int v4)]) rfl ?_
                    exact hK v2 v4
                  · refine vs_aload_n X dX7_guards_43 0 rfl ?_
                    refine g_Mod  X hinX7 0 (by decide) (by decide +kernel) rfl rfl dX7_guards_44 ?_
                    refine vs_iconst X (v := 5) dX7_guards_47 (by decide) ?_
                    refine vs_iload_n X dX7_guards_48 3 rfl ?_
                    refine vs_iadd X dX7_guards_49 ?_
                    refine vs_iald X (by decide) (by decide) rfl dX7_guards_50 ?_
                    refine vs_istore X (lv' := [(5, .int (S.2.1 167 (ix (5 + w3)))), (0, rf G 166), (1, .int w1), (2, .int v2), (3, .int w3), (4, .int v4)]) dX7_guards_51 (by decide) rfl ?_
                    refine vs_iload X dX7_guards_53 0 rfl ?_
                    refine vs_iconst X (v := 4) dX7_guards_55 (by decide) ?_
                    refine vs_idiv X dX7_guards_56 (by decide) ?_
                    refine vs_iload X dX7_guards_57 5 rfl ?_
                    refine vs_iconst X (v := 4) dX7_guards_59 (by decide) ?_
                    refine vs_idiv X dX7_guards_60 (by decide) ?_
                    refine vs_callSp X  (As := [.int ((S.2.1 167 (ix (5 + w3))) / 4), .int (v4 / 4)]) (st' := []) (mtX7_apart hl0 ((S.2.1 167 (ix (5 + w3))) / 4) (v4 / 4)) (va_cwS 2 X.2.2.2.2.1 gX7_guards_X7_apart rfl rfl rfl (by decide +kernel) ⟨Nat.le_of_ble_eq_true rfl, Nat.le_of_ble_eq_true rfl⟩) rfl (Nat.le_of_ble_eq_true rfl) dX7_guards_61 ⟨Nat.le_of_ble_eq_true rfl, Nat.le_of_ble_eq_true rfl⟩ (fun x5 hx5 => ?_)
                    refine vs_iload X dX7_guards_64 0 rfl ?_
                    refine vs_iconst X (v := 4) dX7_guards_66 (by decide) ?_
                    refine vs_irem X dX7_guards_67 (by decide) ?_
                    refine vs_iload X dX7_guards_68 5 rfl ?_
                    refine vs_iconst X (v := 4) dX7_guards_70 (by decide) ?_
                    refine vs_irem X dX7_guards_71 (by decide) ?_
                    refine vs_callSp X  (As := [.int ((S.2.1 167 (ix (5 + w3))) - (S.2.1 167 (ix (5 + w3))) / 4 * 4), .int (v4 - v4 / 4 * 4)]) (st' := [.int x5]) (mtX7_apart hl0 ((S.2.1 167 (ix (5 + w3))) - (S.2.1 167 (ix (5 + w3))) / 4 * 4) (v4 - v4 / 4 * 4)) (va_cwS 2 X.2.2.2.2.1 gX7_guards_X7_apart rfl rfl rfl (by decide +kernel) ⟨Nat.le_of_ble_eq_true rfl, Nat.le_of_ble_eq_true rfl⟩) rfl (Nat.le_of_ble_eq_true rfl) dX7_guards_72 ⟨Nat.le_of_ble_eq_true rfl, Nat.le_of_ble_eq_true rfl⟩ (fun x6 hx6 => ?_)
                    refine vs_iadd X dX7_guards_75 ?_
                    refine vs_iconst X (v := 2) dX7_guards_76 (by decide) ?_
                    refine vs_icmp_ge X (tgt := 87) dX7_guards_77 (by decide) (fun _ => ?_) (fun _ => ?_)
                    · refine vs_iinc X (v := (v4 + 1)) (lv' := [(4, .int (v4 + 1)), (5, .int (S.2.1 167 (ix (5 + w3)))), (0, rf G 166), (1, .int w1), (2, .int v2), (3, .int w3)]) dX7_guards_87 5 rfl rfl (by decide) rfl ?_
                      refine vs_goto X (tgt := 28) dX7_guards_90 (by decide) ?_
                      refine vs_sub [2, 3, 4, 5, 0] (lv' := [(0, rf G 166), (1, .int w1), (2, .int v2), (3, .int w3), (4, .int (v4 + 1))]) rfl ?_
                      exact ih v2 (v4 + 1)
                    · refine vs_iload_n X dX7_guards_80 3 rfl ?_
                      refine vs_iconst X (v := 1) dX7_guards_81 (by decide) ?_
                      refine vs_iload X dX7_guards_82 5 rfl ?_
                      refine vs_ishl X dX7_guards_84 ?_
                      refine vs_ior X dX7_guards_85 ?_
                      refine vs_istore_n X (lv' := [(2, .int (v2 ||| (1 <<< (v4 &&& 31)))), (5, .int (S.2.1 167 (ix (5 + w3)))), (0, rf G 166), (1, .int w1), (3, .int w3), (4, .int v4)]) dX7_guards_86 (by decide) rfl ?_
                      refine vs_iinc X (v := (v4 + 1)) (lv' := [(4, .int (v4 + 1)), (2, .int (v2 ||| (1 <<< (v4 &&& 31)))), (5, .int (S.2.1 167 (ix (5 + w3)))), (0, rf G 166), (1, .int w1), (3, .int w3)]) dX7_guards_87 5 rfl rfl (by decide) rfl ?_
                      refine vs_goto X (tgt := 28) dX7_guards_90 (by decide) ?_
                      refine vs_sub [3, 4, 1, 5, 0] (lv' := [(0, rf G 166), (1, .int w1), (2, .int (v2 ||| (1 <<< (v4 &&& 31)))), (3, .int w3), (4, .int (v4 + 1))]) rfl ?_
                      exact ih (v2 ||| (1 <<< (v4 &&& 31))) (v4 + 1)
          refine vs_sub [1, 2, 3, 4, 0] (lv' := [(0, rf G 166), (1, .int w1), (2, .int v2), (3, .int v3), (4, .int 0)]) rfl ?_
          refine L3 w1 v3 (fun (u7 : Int32) (u8 : Int32) => lpX7_guards_15  S w1 f u7 (v3 + 1)) (fun u7 u8 => ?_) 200 v2 0
          refine vs_iinc X (v := (v3 + 1)) (lv' := [(3, .int (v3 + 1)), (0, rf G 166), (1, .int w1), (2, .int u7), (4, .int u8)]) dX7_guards_93 3 rfl rfl (by decide) rfl ?_
          refine vs_goto X (tgt := 15) dX7_guards_96 (by decide) ?_
          refine vs_sub [1, 2, 3, 0] (lv' := [(0, rf G 166), (1, .int w1), (2, .int u7), (3, .int (v3 + 1))]) rfl ?_
          exact ih u7 (v3 + 1)
  refine vs_sub [3, 2, 1, 0] (lv' := [(0, rf G 166), (1, .int x1), (2, .int 0), (3, .int 0)]) rfl ?_
  exact L2 x1 200 0 0

def lpX7_goes_19    : Nat → Int32 → Wo → Option (Int32 × Wo)
  | 0, _, _ => none
  | f + 1, v1, S3 => (if v1 < 0 then (if inb 2 112 = true then nm ((7 * (S3.2.1 167 (ix 2))) - (7 * (S3.2.1 167 (ix 2))) / 16 * 16) (fun y4 => (if inb (16 + y4) 112 = true then (if (S3.2.1 167 (ix (16 + y4))) = 0 then some (0, S3) else (spX7_guards  S3).bind (fun x5 => (spX7_has x5 y4 S3).bind (fun x6 => (if x6 = 0 then (if inb (16 + y4) 112 = true then (if inb (16 + y4) 112 = true then wr (pF S3 167 (upd (S3.2.1 167) (ix (16 + y4)) ((S3.2.1 167 (ix (16 + y4))) - 1))) (fun S7 => (if inb 3 112 = true then (if inb 3 112 = true then wr (pF S7 167 (upd (S7.2.1 167) (ix 3) ((S7.2.1 167 (ix 3)) + 1))) (fun S8 => some (1, S8)) else none) else none)) else none) else none) else some (0, S3))))) else none)) else none) else (spX7_of v1 3 S3).bind (fun x9 => (if inb 2 112 = true then (if (S3.2.1 167 (ix 2)) ≤ x9 then lpX7_goes_19  f (v1 + (-1)) S3 else (spX7_drops v1 S3).bind (fun S10 => lpX7_goes_19  f (v1 + (-1)) S10)) else none)))
def spX7_goes  (S : Wo) : Option (Int32 × Wo) :=
  (if inb 2 112 = true then (if inb 2 112 = true then wr (pF S 167 (upd (S.2.1 167) (ix 2) ((S.2.1 167 (ix 2)) + 1))) (fun S1 => (if inb 1 112 = true then lpX7_goes_19  200 ((S1.2.1 167 (ix 1)) - 1) S1 else none)) else none) else none)
set_option maxHeartbeats 4000000 in
set_option maxRecDepth 100000 in
theorem mtX7_goes {l : Launch} (hl0 : l.stackTraces = false) {G : Gt}  {S : Wo} : ∀ rr, spX7_goes  S = some rr → MI l yX7_goes wsX7_goes { frames := 4, cells := 0, slots := 0, locals := 94 } G S [rf G 166] rr 0 0 := by
  refine MI_of (cc := cX7_goes) (own := RX7) (maxL := 2) (ret := (some .int)) (sp := spX7_goes  S) (by decide +kernel) rfl rfl (Nat.le_of_ble_eq_true rfl) ?_
  intro p e s m args below meth c X
  have hinX7 : ∀ w ∈ wsX70, w ∈ wsX7_goes := by decide +kernel
  show VS G p l e _ s m args below meth c 2 _ _ 0 0 S 0 [(0, rf G 166)] []
  unfold spX7_goes
  refine vs_aload_n X dX7_goes_0 0 rfl ?_
  refine g_Mod  X hinX7 0 (by decide) (by decide +kernel) rfl rfl dX7_goes_1 ?_
  refine vs_iconst X (v := 2) dX7_goes_4 (by decide) ?_
  refine vs_dup2 X dX7_goes_5 rfl rfl ?_
  refine vs_iald X (by decide) (by decide) rfl dX7_goes_6 ?_
  refine vs_iconst X (v := 1) dX7_goes_7 (by decide) ?_
  refine vs_iadd X dX7_goes_8 ?_
  refine vs_iast X (by decide) (by decide) (fun _ => rfl) dX7_goes_9 (fun S1 hS1 => ?_)
  refine vs_aload_n X dX7_goes_10 0 rfl ?_
  refine g_Mod  X hinX7 0 (by decide) (by decide +kernel) rfl rfl dX7_goes_11 ?_
  refine vs_iconst X (v := 1) dX7_goes_14 (by decide) ?_
  refine vs_iald X (by decide) (by decide) rfl dX7_goes_15 ?_
  refine vs_iconst X (v := 1) dX7_goes_16 (by decide) ?_
  refine vs_isub X dX7_goes_17 ?_
  refine vs_istore_n X (lv' := [(1, .int ((S1.2.1 167 (ix 1)) - 1)), (0, rf G 166)]) dX7_goes_18 (by decide) rfl ?_
  have L2 : ∀ (f : Nat) (v1 : Int32) (S3 : Wo), VS G p l e ({ frames := 4, cells := 0, slots := 0, locals := 94 } : Room) s m args below meth c 2 (fun r => MQ below (QI G r) args s 0 0 (Af G)) (lpX7_goes_19  f v1 S3) 0 0 S3 19 [(0, rf G 166), (1, .int v1)] [] := by
    intro f
    induction f with
    | zero => intro v1 S3; exact vs_none rfl
    | succ f ih =>
        intro v1 S3
        rw [lpX7_goes_19]
        refine vs_iload_n X dX7_goes_19 1 rfl ?_
        refine vs_if_lt X (tgt := 49) dX7_goes_20 (by decide) (fun _ => ?_) (fun _ => ?_)
        · refine vs_bipush X (v := 7) dX7_goes_49 (by decide) ?_
          refine vs_aload_n X dX7_goes_51 0 rfl ?_
          refine g_Mod  X hinX7 0 (by decide) (by decide +kernel) rfl rfl dX7_goes_52 ?_
          refine vs_iconst X (v := 2) dX7_goes_55 (by decide) ?_
          refine vs_iald X (by decide) (by decide) rfl dX7_goes_56 ?_
          refine vs_imul X dX7_goes_57 ?_
          refine vs_bipush X (v := 16) dX7_goes_58 (by decide) ?_
          refine vs_irem X dX7_goes_60 (by decide) ?_
          refine vs_nm (fun y4 hy4 => ?_)
          refine vs_istore_n X (lv' := [(1, .int y4), (0, rf G 166)]) dX7_goes_61 (by decide) rfl ?_
          refine vs_aload_n X dX7_goes_62 1 rfl ?_
          refine g_Mod  X hinX7 0 (by decide) (by decide +kernel) rfl rfl dX7_goes_63 ?_
          refine vs_bipush X (v := 16) dX7_goes_66 (by decide) ?_
          refine vs_iload_n X dX7_goes_68 0 rfl ?_
          refine vs_iadd X dX7_goes_69 ?_
          refine vs_iald X (by decide) (by decide) rfl dX7_goes_70 ?_
          refine vs_if_eq X (tgt := 85) dX7_goes_71 (by decide) (fun _ => ?_) (fun _ => ?_)
          · refine vs_iconst X (v := 0) dX7_goes_85 (by decide) ?_
            exact vs_iret X dX7_goes_86 (by decide) (by decide)
          · refine vs_aload_n X dX7_goes_74 1 rfl ?_
            refine vs_callVp X  (As := []) (st' := []) (mtX7_guards hl0 ) (cwV 0 X.2.2.2.2.1 gX7_goes_X7_guards rfl rfl rfl (by decide +kernel) ⟨Nat.le_of_ble_eq_true rfl, Nat.le_of_ble_eq_true rfl⟩) (by decide) (by decide) rfl rfl rfl (Nat.le_of_ble_eq_true rfl) dX7_goes_75 ⟨Nat.le_of_ble_eq_true rfl, Nat.le_of_ble_eq_true rfl⟩ (fun x5 hx5 => ?_)
            refine vs_iload_n X dX7_goes_78 0 rfl ?_
            refine vs_callSp X  (As := [.int x5, .int y4]) (st' := []) (mtX7_has hl0 x5 y4) (va_cwS 2 X.2.2.2.2.1 gX7_goes_X7_has rfl rfl rfl (by decide +kernel) ⟨Nat.le_of_ble_eq_true rfl, Nat.le_of_ble_eq_true rfl⟩) rfl (Nat.le_of_ble_eq_true rfl) dX7_goes_79 ⟨Nat.le_of_ble_eq_true rfl, Nat.le_of_ble_eq_true rfl⟩ (fun x6 hx6 => ?_)
            refine vs_if_eq X (tgt := 87) dX7_goes_82 (by decide) (fun _ => ?_) (fun _ => ?_)
            · refine vs_aload_n X dX7_goes_87 1 rfl ?_
              refine g_Mod  X hinX7 0 (by decide) (by decide +kernel) rfl rfl dX7_goes_88 ?_
              refine vs_bipush X (v := 16) dX7_goes_91 (by decide) ?_
              refine vs_iload_n X dX7_goes_93 0 rfl ?_
              refine vs_iadd X dX7_goes_94 ?_
              refine vs_dup2 X dX7_goes_95 rfl rfl ?_
              refine vs_iald X (by decide) (by decide) rfl dX7_goes_96 ?_
              refine vs_iconst X (v := 1) dX7_goes_97 (by decide) ?_
              refine vs_isub X dX7_goes_98 ?_
              refine vs_iast X (by decide) (by decide) (fun _ => rfl) dX7_goes_99 (fun S7 hS7 => ?_)
              refine vs_aload_n X dX7_goes_100 1 rfl ?_
              refine g_Mod  X hinX7 0 (by decide) (by decide +kernel) rfl rfl dX7_goes_101 ?_
              refine vs_iconst X (v := 3) dX7_goes_104 (by decide) ?_
              refine vs_dup2 X dX7_goes_105 rfl rfl ?_
              refine vs_iald X (by decide) (by decide) rfl dX7_goes_106 ?_
              refine vs_iconst X (v := 1) dX7_goes_107 (by decide) ?_
              refine vs_iadd X dX7_goes_108 ?_
              refine vs_iast X (by decide) (by decide) (fun _ => rfl) dX7_goes_109 (fun S8 hS8 => ?_)
              refine vs_iconst X (v := 1) dX7_goes_110 (by decide) ?_
              exact vs_iret X dX7_goes_111 (by decide) (by decide)
            · refine vs_iconst X (v := 0) dX7_goes_85 (by decide) ?_
              exact vs_iret X dX7_goes_86 (by decide) (by decide)
        · refine vs_aload_n X dX7_goes_23 0 rfl ?_
          refine vs_iload_n X dX7_goes_24 1 rfl ?_
          refine vs_iconst X (v := 3) dX7_goes_25 (by decide) ?_
          refine vs_callVp X  (As := [.int v1, .int 3]) (st' := []) (mtX7_of hl0 v1 3) (cwV 2 X.2.2.2.2.1 gX7_goes_X7_of rfl rfl rfl (by decide +kernel) ⟨Nat.le_of_ble_eq_true rfl, Nat.le_of_ble_eq_true rfl⟩) (by decide) (by decide) rfl rfl rfl (Nat.le_of_ble_eq_true rfl) dX7_goes_26 ⟨Nat.le_of_ble_eq_true rfl, Nat.le_of_ble_eq_true rfl⟩ (fun x9 hx9 => ?_)
          refine vs_aload_n X dX7_goes_29 0 rfl ?_
          refine g_Mod  X hinX7 0 (by decide) (by decide +kernel) rfl rfl dX7_goes_30 ?_
          refine vs_iconst X (v := 2) dX7_goes_33 (by decide) ?_
          refine vs_iald X (by decide) (by decide) rfl dX7_goes_34 ?_
          refine vs_icmp_ge X (tgt := 43) dX7_goes_35 (by decide) (fun _ => ?_) (fun _ => ?_)
          · refine vs_iinc X (v := (v1 + (-1))) (lv' := [(1, .int (v1 + (-1))), (0, rf G 166)]) dX7_goes_43 1 rfl rfl (by decide) rfl ?_
            refine vs_goto X (tgt := 19) dX7_goes_46 (by decide) ?_
            refine vs_sub [1, 0] (lv' := [(0, rf G 166), (1, .int (v1 + (-1)))]) rfl ?_
            exact ih (v1 + (-1)) S3
          · refine vs_aload_n X dX7_goes_38 0 rfl ?_
            refine vs_iload_n X dX7_goes_39 1 rfl ?_
            refine vs_callVv X  (As := [.int v1]) (st' := []) (mtX7_drops hl0 v1) (cwV 1 X.2.2.2.2.1 gX7_goes_X7_drops rfl rfl rfl (by decide +kernel) ⟨Nat.le_of_ble_eq_true rfl, Nat.le_of_ble_eq_true rfl⟩) (by decide) (by decide) rfl rfl rfl (Nat.le_of_ble_eq_true rfl) dX7_goes_40 ⟨Nat.le_of_ble_eq_true rfl, Nat.le_of_ble_eq_true rfl⟩ (fun S10 hS10 => ?_)
            refine vs_iinc X (v := (v1 + (-1))) (lv' := [(1, .int (v1 + (-1))), (0, rf G 166)]) dX7_goes_43 1 rfl rfl (by decide) rfl ?_
            refine vs_goto X (tgt := 19) dX7_goes_46 (by decide) ?_
            refine vs_sub [1, 0] (lv' := [(0, rf G 166), (1, .int (v1 + (-1)))]) rfl ?_
            exact ih (v1 + (-1)) S10
  refine vs_sub [1, 0] (lv' := [(0, rf G 166), (1, .int ((S1.2.1 167 (ix 1)) - 1))]) rfl ?_
  exact L2 200 ((S1.2.1 167 (ix 1)) - 1) S1

def lpX7_goesOn_4 (p1 : Int32)   : Nat → Int32 → Int32 → Wo → Option (Int32 × Wo)
  | 0, _, _, _ => none
  | f + 1, v2, v3, S2 => (if p1 ≤ v3 then some (v2, S2) else bd2 (spX7_goes  S2) (fun x3 S4 => lpX7_goesOn_4 p1 f (v2 + x3) (v3 + 1) S4))
def spX7_goesOn (p1 : Int32) (S : Wo) : Option (Int32 × Wo) :=
  lpX7_goesOn_4 p1 200 0 0 S
set_option maxHeartbeats 4000000 in
set_option maxRecDepth 100000 in
theorem mtX7_goesOn {l : Launch} (hl0 : l.stackTraces = false) {G : Gt} (p1 : Int32) {S : Wo} : ∀ rr, spX7_goesOn p1 S = some rr → MI l yX7_goesOn wsX7_goesOn { frames := 5, cells := 0, slots := 0, locals := 115 } G S [rf G 166, .int p1] rr 0 0 := by
  refine MI_of (cc := cX7_goesOn) (own := RX7) (maxL := 4) (ret := (some .int)) (sp := spX7_goesOn p1 S) (by decide +kernel) rfl rfl (Nat.le_of_ble_eq_true rfl) ?_
  intro p e s m args below meth c X
  show VS G p l e _ s m args below meth c 4 _ _ 0 0 S 0 [(0, rf G 166), (1, .int p1)] []
  unfold spX7_goesOn
  refine vs_iconst X (v := 0) dX7_goesOn_0 (by decide) ?_
  refine vs_istore_n X (lv' := [(2, .int 0), (0, rf G 166), (1, .int p1)]) dX7_goesOn_1 (by decide) rfl ?_
  refine vs_iconst X (v := 0) dX7_goesOn_2 (by decide) ?_
  refine vs_istore_n X (lv' := [(3, .int 0), (2, .int 0), (0, rf G 166), (1, .int p1)]) dX7_goesOn_3 (by decide) rfl ?_
  have L1 : ∀ (f : Nat) (v2 : Int32) (v3 : Int32) (S2 : Wo), VS G p l e ({ frames := 5, cells := 0, slots := 0, locals := 115 } : Room) s m args below meth c 4 (fun r => MQ below (QI G r) args s 0 0 (Af G)) (lpX7_goesOn_4 p1 f v2 v3 S2) 0 0 S2 4 [(0, rf G 166), (1, .int p1), (2, .int v2), (3, .int v3)] [] := by
    intro f
    induction f with
    | zero => intro v2 v3 S2; exact vs_none rfl
    | succ f ih =>
        intro v2 v3 S2
        rw [lpX7_goesOn_4]
        refine vs_iload_n X dX7_goesOn_4 3 rfl ?_
        refine vs_iload_n X dX7_goesOn_5 1 rfl ?_
        refine vs_icmp_ge X (tgt := 22) dX7_goesOn_6 (by decide) (fun _ => ?_) (fun _ => ?_)
        · refine vs_iload_n X dX7_goesOn_22 2 rfl ?_
          exact vs_iret X dX7_goesOn_23 (by decide) (by decide)
        · refine vs_iload_n X dX7_goesOn_9 2 rfl ?_
          refine vs_aload_n X dX7_goesOn_10 0 rfl ?_
          refine vs_callVi X  (As := []) (st' := [.int v2]) (mtX7_goes hl0 ) (cwV 0 X.2.2.2.2.1 gX7_goesOn_X7_goes rfl rfl rfl (by decide +kernel) ⟨Nat.le_of_ble_eq_true rfl, Nat.le_of_ble_eq_true rfl⟩) (by decide) (by decide) rfl rfl rfl (Nat.le_of_ble_eq_true rfl) dX7_goesOn_11 ⟨Nat.le_of_ble_eq_true rfl, Nat.le_of_ble_eq_true rfl⟩ (fun x3 S4 hx3 => ?_)
          refine vs_iadd X dX7_goesOn_14 ?_
          refine vs_istore_n X (lv' := [(2, .int (v2 + x3)), (0, rf G 166), (1, .int p1), (3, .int v3)]) dX7_goesOn_15 (by decide) rfl ?_
          refine vs_iinc X (v := (v3 + 1)) (lv' := [(3, .int (v3 + 1)), (2, .int (v2 + x3)), (0, rf G 166), (1, .int p1)]) dX7_goesOn_16 3 rfl rfl (by decide) rfl ?_
          refine vs_goto X (tgt := 4) dX7_goesOn_19 (by decide) ?_
          refine vs_sub [2, 3, 1, 0] (lv' := [(0, rf G 166), (1, .int p1), (2, .int (v2 + x3)), (3, .int (v3 + 1))]) rfl ?_
          exact ih (v2 + x3) (v3 + 1) S4
  refine vs_sub [2, 3, 1, 0] (lv' := [(0, rf G 166), (1, .int p1), (2, .int 0), (3, .int 0)]) rfl ?_
  exact L1 200 0 0 S

def spX7_pass (p1 : Int32) (S : Wo) : Option (Int32 × Wo) :=
  (spX7_in p1 1 60 S).bind (fun x1 => jn (β := Int32 → Option (Int32 × Wo)) (fun (x2 : Int32) => bd2 (spX7_fails x2 S) (fun x4 S5 => (if x4 = 0 then (spX7_keeps 167 112 S5).bind (fun S6 => bd2 (spX7_goesOn p1 S6) (fun x7 S8 => some (x7, S8))) else some (0, S5)))) (fun k3 => (if x1 = 0 then k3 1 else k3 0)))
set_option maxHeartbeats 4000000 in
set_option maxRecDepth 100000 in
theorem mtX7_pass {l : Launch} (hl0 : l.stackTraces = false) {G : Gt} (p1 : Int32) {S : Wo} : ∀ rr, spX7_pass p1 S = some rr → MI l yX7_pass wsX7_pass { frames := 6, cells := 0, slots := 0, locals := 138 } G S [rf G 166, .int p1] rr 0 0 := by
  refine MI_of (cc := cX7_pass) (own := RX7) (maxL := 2) (ret := (some .int)) (sp := spX7_pass p1 S) (by decide +kernel) rfl rfl (Nat.le_of_ble_eq_true rfl) ?_
  intro p e s m args below meth c X
  have hinX7 : ∀ w ∈ wsX70, w ∈ wsX7_pass := by decide +kernel
  show VS G p l e _ s m args below meth c 2 _ _ 0 0 S 0 [(0, rf G 166), (1, .int p1)] []
  unfold spX7_pass
  refine vs_aload_n X dX7_pass_0 0 rfl ?_
  refine vs_iload_n X dX7_pass_1 1 rfl ?_
  refine vs_iconst X (v := 1) dX7_pass_2 (by decide) ?_
  refine vs_bipush X (v := 60) dX7_pass_3 (by decide) ?_
  refine vs_callSp X  (As := [.int p1, .int 1, .int 60]) (st' := [rf G 166]) (mtX7_in hl0 p1 1 60) (va_cwS 3 X.2.2.2.2.1 gX7_pass_X7_in rfl rfl rfl (by decide +kernel) ⟨Nat.le_of_ble_eq_true rfl, Nat.le_of_ble_eq_true rfl⟩) rfl (Nat.le_of_ble_eq_true rfl) dX7_pass_5 ⟨Nat.le_of_ble_eq_true rfl, Nat.le_of_ble_eq_true rfl⟩ (fun x1 hx1 => ?_)
  refine vs_jn (β := Int32 → Option (Int32 × Wo)) (P := fun k3 => ∀ (x2 : Int32), VS G p l e ({ frames := 6, cells := 0, slots := 0, locals := 138 } : Room) s m args below meth c 2 (fun r => MQ below (QI G r) args s 0 0 (Af G)) (k3 x2) 0 0 S 16 [(0, rf G 166), (1, .int p1)] [.int x2, rf G 166]) (fun x2 => ?_) (fun k3 hk3 => ?_)
  · refine vs_callVi X  (As := [.int x2]) (st' := []) (mtX7_fails hl0 x2) (cwV 1 X.2.2.2.2.1 gX7_pass_X7_fails rfl rfl rfl (by decide +kernel) ⟨Nat.le_of_ble_eq_true rfl, Nat.le_of_ble_eq_true rfl⟩) (by decide) (by decide) rfl rfl rfl (Nat.le_of_ble_eq_true rfl) dX7_pass_16 ⟨Nat.le_of_ble_eq_true rfl, Nat.le_of_ble_eq_true rfl⟩ (fun x4 S5 hx4 => ?_)
    refine vs_if_eq X (tgt := 24) dX7_pass_19 (by decide) (fun _ => ?_) (fun _ => ?_)
    · refine vs_aload_n X dX7_pass_24 0 rfl ?_
      refine vs_aload_n X dX7_pass_25 0 rfl ?_
      refine g_Mod  X hinX7 0 (by decide) (by decide +kernel) rfl rfl dX7_pass_26 ?_
      refine vs_callVv X  (As := [rf G 167]) (st' := []) (mtX7_keeps hl0 isIA_167) (cwV 1 X.2.2.2.2.1 gX7_pass_X7_keeps rfl rfl rfl (by decide +kernel) ⟨Nat.le_of_ble_eq_true rfl, Nat.le_of_ble_eq_true rfl⟩) (by decide) (by decide) rfl rfl rfl (Nat.le_of_ble_eq_true rfl) dX7_pass_29 ⟨Nat.le_of_ble_eq_true rfl, Nat.le_of_ble_eq_true rfl⟩ (fun S6 hS6 => ?_)
      refine vs_aload_n X dX7_pass_32 0 rfl ?_
      refine vs_iload_n X dX7_pass_33 1 rfl ?_
      refine vs_callVi X  (As := [.int p1]) (st' := []) (mtX7_goesOn hl0 p1) (cwV 1 X.2.2.2.2.1 gX7_pass_X7_goesOn rfl rfl rfl (by decide +kernel) ⟨Nat.le_of_ble_eq_true rfl, Nat.le_of_ble_eq_true rfl⟩) (by decide) (by decide) rfl rfl rfl (Nat.le_of_ble_eq_true rfl) dX7_pass_34 ⟨Nat.le_of_ble_eq_true rfl, Nat.le_of_ble_eq_true rfl⟩ (fun x7 S8 hx7 => ?_)
      exact vs_iret X dX7_pass_37 (by decide) (by decide)
    · refine vs_iconst X (v := 0) dX7_pass_22 (by decide) ?_
      exact vs_iret X dX7_pass_23 (by decide) (by decide)
  · refine vs_if_eq X (tgt := 15) dX7_pass_8 (by decide) (fun _ => ?_) (fun _ => ?_)
    · refine vs_iconst X (v := 1) dX7_pass_15 (by decide) ?_
      exact vs_join [0, 1] (Nat.le_of_ble_eq_true rfl) (Nat.le_of_ble_eq_true rfl) rfl (hk3 1)
    · refine vs_iconst X (v := 0) dX7_pass_11 (by decide) ?_
      refine vs_goto X (tgt := 16) dX7_pass_12 (by decide) ?_
      exact vs_join [0, 1] (Nat.le_of_ble_eq_true rfl) (Nat.le_of_ble_eq_true rfl) rfl (hk3 0)

def spX7_predictEaten (p1 : Int32) (S : Wo) : Option (Int32 × Wo) :=
  (spX7_in p1 0 60 S).bind (fun x1 => jn (β := Int32 → Option (Int32 × Wo)) (fun (x2 : Int32) => bd2 (spX7_fails x2 S) (fun x4 S5 => (if x4 = 0 then (spX7_copies 167 112 0 171 112 0 S5).bind (fun S6 => bd2 (spX7_goesOn p1 S6) (fun x7 S8 => (spX7_copies 171 112 0 167 112 0 S8).bind (fun S9 => some (x7, S9)))) else some (0, S5)))) (fun k3 => (if x1 = 0 then k3 1 else k3 0)))
set_option maxHeartbeats 4000000 in
set_option maxRecDepth 100000 in
theorem mtX7_predictEaten {l : Launch} (hl0 : l.stackTraces = false) {G : Gt} (p1 : Int32) {S : Wo} : ∀ rr, spX7_predictEaten p1 S = some rr → MI l yX7_predictEaten wsX7_predictEaten { frames := 6, cells := 0, slots := 0, locals := 138 } G S [rf G 166, .int p1] rr 0 0 := by
  refine MI_of (cc := cX7_predictEaten) (own := RX7) (maxL := 3) (ret := (some .int)) (sp := spX7_predictEaten p1 S) (by decide +kernel) rfl rfl (Nat.le_of_ble_eq_true rfl) ?_
  intro p e s m args below meth c X
  have hinX7 : ∀ w ∈ wsX70, w ∈ wsX7_predictEaten := by decide +kernel
  show VS G p l e _ s m args below meth c 3 _ _ 0 0 S 0 [(0, rf G 166), (1, .int p1)] []
  unfold spX7_predictEaten
  refine vs_aload_n X dX7_predictEaten_0 0 rfl ?_
  refine vs_iload_n X dX7_predictEaten_1 1 rfl ?_
  refine vs_iconst X (v := 0) dX7_predictEaten_2 (by decide) ?_
  refine vs_bipush X (v := 60) dX7_predictEaten_3 (by decide) ?_
  refine vs_callSp X  (As := [.int p1, .int 0, .int 60]) (st' := [rf G 166]) (mtX7_in hl0 p1 0 60) (va_cwS 3 X.2.2.2.2.1 gX7_predictEaten_X7_in rfl rfl rfl (by decide +kernel) ⟨Nat.le_of_ble_eq_true rfl, Nat.le_of_ble_eq_true rfl⟩) rfl (Nat.le_of_ble_eq_true rfl) dX7_predictEaten_5 ⟨Nat.le_of_ble_eq_true rfl, Nat.le_of_ble_eq_true rfl⟩ (fun x1 hx1 => ?_)
  refine vs_jn (β := Int32 → Option (Int32 × Wo)) (P := fun k3 => ∀ (x2 : Int32), VS G p l e ({ frames := 6, cells := 0, slots := 0, locals := 138 } : Room) s m args below meth c 3 (fun r => MQ below (QI G r) args s 0 0 (Af G)) (k3 x2) 0 0 S 16 [(0, rf G 166), (1, .int p1)] [.int x2, rf G 166]) (fun x2 => ?_) (fun k3 hk3 => ?_)
  · refine vs_callVi X  (As := [.int x2]) (st' := []) (mtX7_fails hl0 x2) (cwV 1 X.2.2.2.2.1 gX7_predictEaten_X7_fails rfl rfl rfl (by decide +kernel) ⟨Nat.le_of_ble_eq_true rfl, Nat.le_of_ble_eq_true rfl⟩) (by decide) (by decide) rfl rfl rfl (Nat.le_of_ble_eq_true rfl) dX7_predictEaten_16 ⟨Nat.le_of_ble_eq_true rfl, Nat.le_of_ble_eq_true rfl⟩ (fun x4 S5 hx4 => ?_)
    refine vs_if_eq X (tgt := 24) dX7_predictEaten_19 (by decide) (fun _ => ?_) (fun _ => ?_)
    · refine vs_aload_n X dX7_predictEaten_24 0 rfl ?_
      refine g_Mod  X hinX7 0 (by decide) (by decide +kernel) rfl rfl dX7_predictEaten_25 ?_
      refine vs_iconst X (v := 0) dX7_predictEaten_28 (by decide) ?_
      refine vs_aload_n X dX7_predictEaten_29 0 rfl ?_
      refine g_Mod  X hinX7 4 (by decide) (by decide +kernel) rfl rfl dX7_predictEaten_30 ?_
      refine vs_iconst X (v := 0) dX7_predictEaten_33 (by decide) ?_
      refine vs_callSv X  (As := [rf G 167, .int 0, rf G 171, .int 0]) (st' := []) (mtX7_copies hl0 isIA_167 0 isIA_171 0) (va_cwS 4 X.2.2.2.2.1 gX7_predictEaten_X7_copies rfl rfl rfl (by decide +kernel) ⟨Nat.le_of_ble_eq_true rfl, Nat.le_of_ble_eq_true rfl⟩) rfl (Nat.le_of_ble_eq_true rfl) dX7_predictEaten_34 ⟨Nat.le_of_ble_eq_true rfl, Nat.le_of_ble_eq_true rfl⟩ (fun S6 hS6 => ?_)
      refine vs_aload_n X dX7_predictEaten_37 0 rfl ?_
      refine vs_iload_n X dX7_predictEaten_38 1 rfl ?_
      refine vs_callVi X  (As := [.int p1]) (st' := []) (mtX7_goesOn hl0 p1) (cwV 1 X.2.2.2.2.1 gX7_predictEaten_X7_goesOn rfl rfl rfl (by decide +kernel) ⟨Nat.le_of_ble_eq_true rfl, Nat.le_of_ble_eq_true rfl⟩) (by decide) (by decide) rfl rfl rfl (Nat.le_of_ble_eq_true rfl) dX7_predictEaten_39 ⟨Nat.le_of_ble_eq_true rfl, Nat.le_of_ble_eq_true rfl⟩ (fun x7 S8 hx7 => ?_)
      refine vs_istore_n X (lv' := [(2, .int x7), (0, rf G 166), (1, .int p1)]) dX7_predictEaten_42 (by decide) rfl ?_
      refine vs_aload_n X dX7_predictEaten_43 1 rfl ?_
      refine g_Mod  X hinX7 4 (by decide) (by decide +kernel) rfl rfl dX7_predictEaten_44 ?_
      refine vs_iconst X (v := 0) dX7_predictEaten_47 (by decide) ?_
      refine vs_aload_n X dX7_predictEaten_48 1 rfl ?_
      refine g_Mod  X hinX7 0 (by decide) (by decide +kernel) rfl rfl dX7_predictEaten_49 ?_
      refine vs_iconst X (v := 0) dX7_predictEaten_52 (by decide) ?_
      refine vs_callSv X  (As := [rf G 171, .int 0, rf G 167, .int 0]) (st' := []) (mtX7_copies hl0 isIA_171 0 isIA_167 0) (va_cwS 4 X.2.2.2.2.1 gX7_predictEaten_X7_copies rfl rfl rfl (by decide +kernel) ⟨Nat.le_of_ble_eq_true rfl, Nat.le_of_ble_eq_true rfl⟩) rfl (Nat.le_of_ble_eq_true rfl) dX7_predictEaten_53 ⟨Nat.le_of_ble_eq_true rfl, Nat.le_of_ble_eq_true rfl⟩ (fun S9 hS9 => ?_)
      refine vs_iload_n X dX7_predictEaten_56 0 rfl ?_
      exact vs_iret X dX7_predictEaten_57 (by decide) (by decide)
    · refine vs_iconst X (v := 0) dX7_predictEaten_22 (by decide) ?_
      exact vs_iret X dX7_predictEaten_23 (by decide) (by decide)
  · refine vs_if_eq X (tgt := 15) dX7_predictEaten_8 (by decide) (fun _ => ?_) (fun _ => ?_)
    · refine vs_iconst X (v := 1) dX7_predictEaten_15 (by decide) ?_
      exact vs_join [0, 1] (Nat.le_of_ble_eq_true rfl) (Nat.le_of_ble_eq_true rfl) rfl (hk3 1)
    · refine vs_iconst X (v := 0) dX7_predictEaten_11 (by decide) ?_
      refine vs_goto X (tgt := 16) dX7_predictEaten_12 (by decide) ?_
      exact vs_join [0, 1] (Nat.le_of_ble_eq_true rfl) (Nat.le_of_ble_eq_true rfl) rfl (hk3 0)

def spX7_day  (S : Wo) : Option (Int32 × Wo) :=
  wr (pI S 166 9 0) (fun S1 => (if inb 2 112 = true then some ((S1.2.1 167 (ix 2)), S1) else none))
set_option maxHeartbeats 4000000 in
set_option maxRecDepth 100000 in
theorem mtX7_day {l : Launch} (hl0 : l.stackTraces = false) {G : Gt}  {S : Wo} : ∀ rr, spX7_day  S = some rr → MI l yX7_day wsX7_day { frames := 0, cells := 0, slots := 0, locals := 0 } G S [rf G 166] rr 0 0 := by
  refine MI_of (cc := cX7_day) (own := RX7) (maxL := 1) (ret := (some .int)) (sp := spX7_day  S) (by decide +kernel) rfl rfl (Nat.le_of_ble_eq_true rfl) ?_
  intro p e s m args below meth c X
  have hinX7 : ∀ w ∈ wsX70, w ∈ wsX7_day := by decide +kernel
  show VS G p l e _ s m args below meth c 1 _ _ 0 0 S 0 [(0, rf G 166)] []
  unfold spX7_day
  refine vs_aload_n X dX7_day_0 0 rfl ?_
  refine vs_iconst X (v := 0) dX7_day_1 (by decide) ?_
  refine p_Mod  X hinX7 9 (by decide) (by decide +kernel) rfl rfl rfl rfl rfl rfl dX7_day_2 (fun S1 hS1 => ?_)
  refine vs_aload_n X dX7_day_5 0 rfl ?_
  refine g_Mod  X hinX7 0 (by decide) (by decide +kernel) rfl rfl dX7_day_6 ?_
  refine vs_iconst X (v := 2) dX7_day_9 (by decide) ?_
  refine vs_iald X (by decide) (by decide) rfl dX7_day_10 ?_
  exact vs_iret X dX7_day_11 (by decide) (by decide)

def spX7_nextLook  (S : Wo) : Option (Int32 × Wo) :=
  wr (pI S 166 9 0) (fun S1 => (if inb 2 112 = true then some (((7 * ((S1.2.1 167 (ix 2)) + 1)) - (7 * ((S1.2.1 167 (ix 2)) + 1)) / 16 * 16), S1) else none))
set_option maxHeartbeats 4000000 in
set_option maxRecDepth 100000 in
theorem mtX7_nextLook {l : Launch} (hl0 : l.stackTraces = false) {G : Gt}  {S : Wo} : ∀ rr, spX7_nextLook  S = some rr → MI l yX7_nextLook wsX7_nextLook { frames := 0, cells := 0, slots := 0, locals := 0 } G S [rf G 166] rr 0 0 := by
  refine MI_of (cc := cX7_nextLook) (own := RX7) (maxL := 1) (ret := (some .int)) (sp := spX7_nextLook  S) (by decide +kernel) rfl rfl (Nat.le_of_ble_eq_true rfl) ?_
  intro p e s m args below meth c X
  have hinX7 : ∀ w ∈ wsX70, w ∈ wsX7_nextLook := by decide +kernel
  show VS G p l e _ s m args below meth c 1 _ _ 0 0 S 0 [(0, rf G 166)] []
  unfold spX7_nextLook
  refine vs_aload_n X dX7_nextLook_0 0 rfl ?_
  refine vs_iconst X (v := 0) dX7_nextLook_1 (by decide) ?_
  refine p_Mod  X hinX7 9 (by decide) (by decide +kernel) rfl rfl rfl rfl rfl rfl dX7_nextLook_2 (fun S1 hS1 => ?_)
  refine vs_bipush X (v := 7) dX7_nextLook_5 (by decide) ?_
  refine vs_aload_n X dX7_nextLook_7 0 rfl ?_
  refine g_Mod  X hinX7 0 (by decide) (by decide +kernel) rfl rfl dX7_nextLook_8 ?_
  refine vs_iconst X (v := 2) dX7_nextLook_11 (by decide) ?_
  refine vs_iald X (by decide) (by decide) rfl dX7_nextLook_12 ?_
  refine vs_iconst X (v := 1) dX7_nextLook_13 (by decide) ?_
  refine vs_iadd X dX7_nextLook_14 ?_
  refine vs_imul X dX7_nextLook_15 ?_
  refine vs_bipush X (v := 16) dX7_nextLook_16 (by decide) ?_
  refine vs_irem X dX7_nextLook_18 (by decide) ?_
  exact vs_iret X dX7_nextLook_19 (by decide) (by decide)

def spX7_grains (p1 : Int32) (S : Wo) : Option (Int32 × Wo) :=
  (spX7_isField p1 S).bind (fun x1 => jn (β := Int32 → Option (Int32 × Wo)) (fun (x2 : Int32) => bd2 (spX7_fails x2 S) (fun x4 S5 => (if x4 = 0 then (if inb (16 + p1) 112 = true then some ((S5.2.1 167 (ix (16 + p1))), S5) else none) else some (0, S5)))) (fun k3 => (if x1 = 0 then k3 1 else k3 0)))
set_option maxHeartbeats 4000000 in
set_option maxRecDepth 100000 in
theorem mtX7_grains {l : Launch} (hl0 : l.stackTraces = false) {G : Gt} (p1 : Int32) {S : Wo} : ∀ rr, spX7_grains p1 S = some rr → MI l yX7_grains wsX7_grains { frames := 2, cells := 0, slots := 0, locals := 42 } G S [rf G 166, .int p1] rr 0 0 := by
  refine MI_of (cc := cX7_grains) (own := RX7) (maxL := 2) (ret := (some .int)) (sp := spX7_grains p1 S) (by decide +kernel) rfl rfl (Nat.le_of_ble_eq_true rfl) ?_
  intro p e s m args below meth c X
  have hinX7 : ∀ w ∈ wsX70, w ∈ wsX7_grains := by decide +kernel
  show VS G p l e _ s m args below meth c 2 _ _ 0 0 S 0 [(0, rf G 166), (1, .int p1)] []
  unfold spX7_grains
  refine vs_aload_n X dX7_grains_0 0 rfl ?_
  refine vs_iload_n X dX7_grains_1 1 rfl ?_
  refine vs_callSp X  (As := [.int p1]) (st' := [rf G 166]) (mtX7_isField hl0 p1) (va_cwS 1 X.2.2.2.2.1 gX7_grains_X7_isField rfl rfl rfl (by decide +kernel) ⟨Nat.le_of_ble_eq_true rfl, Nat.le_of_ble_eq_true rfl⟩) rfl (Nat.le_of_ble_eq_true rfl) dX7_grains_2 ⟨Nat.le_of_ble_eq_true rfl, Nat.le_of_ble_eq_true rfl⟩ (fun x1 hx1 => ?_)
  refine vs_jn (β := Int32 → Option (Int32 × Wo)) (P := fun k3 => ∀ (x2 : Int32), VS G p l e ({ frames := 2, cells := 0, slots := 0, locals := 42 } : Room) s m args below meth c 2 (fun r => MQ below (QI G r) args s 0 0 (Af G)) (k3 x2) 0 0 S 13 [(0, rf G 166), (1, .int p1)] [.int x2, rf G 166]) (fun x2 => ?_) (fun k3 hk3 => ?_)
  · refine vs_callVi X  (As := [.int x2]) (st' := []) (mtX7_fails hl0 x2) (cwV 1 X.2.2.2.2.1 gX7_grains_X7_fails rfl rfl rfl (by decide +kernel) ⟨Nat.le_of_ble_eq_true rfl, Nat.le_of_ble_eq_true rfl⟩) (by decide) (by decide) rfl rfl rfl (Nat.le_of_ble_eq_true rfl) dX7_grains_13 ⟨Nat.le_of_ble_eq_true rfl, Nat.le_of_ble_eq_true rfl⟩ (fun x4 S5 hx4 => ?_)
    refine vs_if_eq X (tgt := 23) dX7_grains_16 (by decide) (fun _ => ?_) (fun _ => ?_)
    · refine vs_aload_n X dX7_grains_23 0 rfl ?_
      refine g_Mod  X hinX7 0 (by decide) (by decide +kernel) rfl rfl dX7_grains_24 ?_
      refine vs_bipush X (v := 16) dX7_grains_27 (by decide) ?_
      refine vs_iload_n X dX7_grains_29 1 rfl ?_
      refine vs_iadd X dX7_grains_30 ?_
      refine vs_iald X (by decide) (by decide) rfl dX7_grains_31 ?_
      exact vs_iret X dX7_grains_32 (by decide) (by decide)
    · refine vs_iconst X (v := 0) dX7_grains_19 (by decide) ?_
      refine vs_goto X (tgt := 32) dX7_grains_20 (by decide) ?_
      exact vs_iret X dX7_grains_32 (by decide) (by decide)
  · refine vs_if_eq X (tgt := 12) dX7_grains_5 (by decide) (fun _ => ?_) (fun _ => ?_)
    · refine vs_iconst X (v := 1) dX7_grains_12 (by decide) ?_
      exact vs_join [0, 1] (Nat.le_of_ble_eq_true rfl) (Nat.le_of_ble_eq_true rfl) rfl (hk3 1)
    · refine vs_iconst X (v := 0) dX7_grains_8 (by decide) ?_
      refine vs_goto X (tgt := 13) dX7_grains_9 (by decide) ?_
      exact vs_join [0, 1] (Nat.le_of_ble_eq_true rfl) (Nat.le_of_ble_eq_true rfl) rfl (hk3 0)

def spX7_isGuarded (p1 : Int32) (S : Wo) : Option (Int32 × Wo) :=
  (spX7_isField p1 S).bind (fun x1 => jn (β := Int32 → Option (Int32 × Wo)) (fun (x2 : Int32) => bd2 (spX7_fails x2 S) (fun x4 S5 => (if x4 = 0 then (spX7_guards  S5).bind (fun x6 => (spX7_has x6 p1 S5).bind (fun x7 => (if x7 = 0 then rz 0 (fun y => some (y, S5)) else rz 1 (fun y => some (y, S5))))) else rz 0 (fun y => some (y, S5))))) (fun k3 => (if x1 = 0 then k3 1 else k3 0)))
set_option maxHeartbeats 4000000 in
set_option maxRecDepth 100000 in
theorem mtX7_isGuarded {l : Launch} (hl0 : l.stackTraces = false) {G : Gt} (p1 : Int32) {S : Wo} : ∀ rr, spX7_isGuarded p1 S = some rr → MI l yX7_isGuarded wsX7_isGuarded { frames := 4, cells := 0, slots := 0, locals := 94 } G S [rf G 166, .int p1] rr 0 0 := by
  refine MI_of (cc := cX7_isGuarded) (own := RX7) (maxL := 2) (ret := (some .boolean)) (sp := spX7_isGuarded p1 S) (by decide +kernel) rfl rfl (Nat.le_of_ble_eq_true rfl) ?_
  intro p e s m args below meth c X
  show VS G p l e _ s m args below meth c 2 _ _ 0 0 S 0 [(0, rf G 166), (1, .int p1)] []
  unfold spX7_isGuarded
  refine vs_aload_n X dX7_isGuarded_0 0 rfl ?_
  refine vs_iload_n X dX7_isGuarded_1 1 rfl ?_
  refine vs_callSp X  (As := [.int p1]) (st' := [rf G 166]) (mtX7_isField hl0 p1) (va_cwS 1 X.2.2.2.2.1 gX7_isGuarded_X7_isField rfl rfl rfl (by decide +kernel) ⟨Nat.le_of_ble_eq_true rfl, Nat.le_of_ble_eq_true rfl⟩) rfl (Nat.le_of_ble_eq_true rfl) dX7_isGuarded_2 ⟨Nat.le_of_ble_eq_true rfl, Nat.le_of_ble_eq_true rfl⟩ (fun x1 hx1 => ?_)
  refine vs_jn (β := Int32 → Option (Int32 × Wo)) (P := fun k3 => ∀ (x2 : Int32), VS G p l e ({ frames := 4, cells := 0, slots := 0, locals := 94 } : Room) s m args below meth c 2 (fun r => MQ below (QI G r) args s 0 0 (Af G)) (k3 x2) 0 0 S 13 [(0, rf G 166), (1, .int p1)] [.int x2, rf G 166]) (fun x2 => ?_) (fun k3 hk3 => ?_)
  · refine vs_callVi X  (As := [.int x2]) (st' := []) (mtX7_fails hl0 x2) (cwV 1 X.2.2.2.2.1 gX7_isGuarded_X7_fails rfl rfl rfl (by decide +kernel) ⟨Nat.le_of_ble_eq_true rfl, Nat.le_of_ble_eq_true rfl⟩) (by decide) (by decide) rfl rfl rfl (Nat.le_of_ble_eq_true rfl) dX7_isGuarded_13 ⟨Nat.le_of_ble_eq_true rfl, Nat.le_of_ble_eq_true rfl⟩ (fun x4 S5 hx4 => ?_)
    refine vs_if_ne X (tgt := 34) dX7_isGuarded_16 (by decide) (fun _ => ?_) (fun _ => ?_)
    · refine vs_aload_n X dX7_isGuarded_19 0 rfl ?_
      refine vs_callVp X  (As := []) (st' := []) (mtX7_guards hl0 ) (cwV 0 X.2.2.2.2.1 gX7_isGuarded_X7_guards rfl rfl rfl (by decide +kernel) ⟨Nat.le_of_ble_eq_true rfl, Nat.le_of_ble_eq_true rfl⟩) (by decide) (by decide) rfl rfl rfl (Nat.le_of_ble_eq_true rfl) dX7_isGuarded_20 ⟨Nat.le_of_ble_eq_true rfl, Nat.le_of_ble_eq_true rfl⟩ (fun x6 hx6 => ?_)
      refine vs_iload_n X dX7_isGuarded_23 1 rfl ?_
      refine vs_callSp X  (As := [.int x6, .int p1]) (st' := []) (mtX7_has hl0 x6 p1) (va_cwS 2 X.2.2.2.2.1 gX7_isGuarded_X7_has rfl rfl rfl (by decide +kernel) ⟨Nat.le_of_ble_eq_true rfl, Nat.le_of_ble_eq_true rfl⟩) rfl (Nat.le_of_ble_eq_true rfl) dX7_isGuarded_24 ⟨Nat.le_of_ble_eq_true rfl, Nat.le_of_ble_eq_true rfl⟩ (fun x7 hx7 => ?_)
      refine vs_if_eq X (tgt := 34) dX7_isGuarded_27 (by decide) (fun _ => ?_) (fun _ => ?_)
      · refine vs_iconst X (v := 0) dX7_isGuarded_34 (by decide) ?_
        exact vs_zret X dX7_isGuarded_35 (by decide) (by decide)
      · refine vs_iconst X (v := 1) dX7_isGuarded_30 (by decide) ?_
        refine vs_goto X (tgt := 35) dX7_isGuarded_31 (by decide) ?_
        exact vs_zret X dX7_isGuarded_35 (by decide) (by decide)
    · refine vs_iconst X (v := 0) dX7_isGuarded_34 (by decide) ?_
      exact vs_zret X dX7_isGuarded_35 (by decide) (by decide)
  · refine vs_if_eq X (tgt := 12) dX7_isGuarded_5 (by decide) (fun _ => ?_) (fun _ => ?_)
    · refine vs_iconst X (v := 1) dX7_isGuarded_12 (by decide) ?_
      exact vs_join [0, 1] (Nat.le_of_ble_eq_true rfl) (Nat.le_of_ble_eq_true rfl) rfl (hk3 1)
    · refine vs_iconst X (v := 0) dX7_isGuarded_8 (by decide) ?_
      refine vs_goto X (tgt := 13) dX7_isGuarded_9 (by decide) ?_
      exact vs_join [0, 1] (Nat.le_of_ble_eq_true rfl) (Nat.le_of_ble_eq_true rfl) rfl (hk3 0)

def spX7_guardedFields  (S : Wo) : Option (Int32 × Wo) :=
  wr (pI S 166 9 0) (fun S1 => (spX7_guards  S1).bind (fun x2 => (spX7_bits x2 S1).bind (fun x3 => some (x3, S1))))
set_option maxHeartbeats 4000000 in
set_option maxRecDepth 100000 in
theorem mtX7_guardedFields {l : Launch} (hl0 : l.stackTraces = false) {G : Gt}  {S : Wo} : ∀ rr, spX7_guardedFields  S = some rr → MI l yX7_guardedFields wsX7_guardedFields { frames := 4, cells := 0, slots := 0, locals := 94 } G S [rf G 166] rr 0 0 := by
  refine MI_of (cc := cX7_guardedFields) (own := RX7) (maxL := 1) (ret := (some .int)) (sp := spX7_guardedFields  S) (by decide +kernel) rfl rfl (Nat.le_of_ble_eq_true rfl) ?_
  intro p e s m args below meth c X
  have hinX7 : ∀ w ∈ wsX70, w ∈ wsX7_guardedFields := by decide +kernel
  show VS G p l e _ s m args below meth c 1 _ _ 0 0 S 0 [(0, rf G 166)] []
  unfold spX7_guardedFields
  refine vs_aload_n X dX7_guardedFields_0 0 rfl ?_
  refine vs_iconst X (v := 0) dX7_guardedFields_1 (by decide) ?_
  refine p_Mod  X hinX7 9 (by decide) (by decide +kernel) rfl rfl rfl rfl rfl rfl dX7_guardedFields_2 (fun S1 hS1 => ?_)
  refine vs_aload_n X dX7_guardedFields_5 0 rfl ?_
  refine vs_callVp X  (As := []) (st' := []) (mtX7_guards hl0 ) (cwV 0 X.2.2.2.2.1 gX7_guardedFields_X7_guards rfl rfl rfl (by decide +kernel) ⟨Nat.le_of_ble_eq_true rfl, Nat.le_of_ble_eq_true rfl⟩) (by decide) (by decide) rfl rfl rfl (Nat.le_of_ble_eq_true rfl) dX7_guardedFields_6 ⟨Nat.le_of_ble_eq_true rfl, Nat.le_of_ble_eq_true rfl⟩ (fun x2 hx2 => ?_)
  refine vs_callSp X  (As := [.int x2]) (st' := []) (mtX7_bits hl0 x2) (va_cwS 1 X.2.2.2.2.1 gX7_guardedFields_X7_bits rfl rfl rfl (by decide +kernel) ⟨Nat.le_of_ble_eq_true rfl, Nat.le_of_ble_eq_true rfl⟩) rfl (Nat.le_of_ble_eq_true rfl) dX7_guardedFields_9 ⟨Nat.le_of_ble_eq_true rfl, Nat.le_of_ble_eq_true rfl⟩ (fun x3 hx3 => ?_)
  exact vs_iret X dX7_guardedFields_12 (by decide) (by decide)

def spX7_guardedFieldsByScarecrows  (S : Wo) : Option (Int32 × Wo) :=
  wr (pI S 166 9 0) (fun S1 => (spX7_guards  S1).bind (fun x2 => (spX7_bits x2 S1).bind (fun x3 => some (x3, S1))))
set_option maxHeartbeats 4000000 in
set_option maxRecDepth 100000 in
theorem mtX7_guardedFieldsByScarecrows {l : Launch} (hl0 : l.stackTraces = false) {G : Gt}  {S : Wo} : ∀ rr, spX7_guardedFieldsByScarecrows  S = some rr → MI l yX7_guardedFieldsByScarecrows wsX7_guardedFieldsByScarecrows { frames := 4, cells := 0, slots := 0, locals := 94 } G S [rf G 166] rr 0 0 := by
  refine MI_of (cc := cX7_guardedFieldsByScarecrows) (own := RX7) (maxL := 1) (ret := (some .int)) (sp := spX7_guardedFieldsByScarecrows  S) (by decide +kernel) rfl rfl (Nat.le_of_ble_eq_true rfl) ?_
  intro p e s m args below meth c X
  have hinX7 : ∀ w ∈ wsX70, w ∈ wsX7_guardedFieldsByScarecrows := by decide +kernel
  show VS G p l e _ s m args below meth c 1 _ _ 0 0 S 0 [(0, rf G 166)] []
  unfold spX7_guardedFieldsByScarecrows
  refine vs_aload_n X dX7_guardedFieldsByScarecrows_0 0 rfl ?_
  refine vs_iconst X (v := 0) dX7_guardedFieldsByScarecrows_1 (by decide) ?_
  refine p_Mod  X hinX7 9 (by decide) (by decide +kernel) rfl rfl rfl rfl rfl rfl dX7_guardedFieldsByScarecrows_2 (fun S1 hS1 => ?_)
  refine vs_aload_n X dX7_guardedFieldsByScarecrows_5 0 rfl ?_
  refine vs_callVp X  (As := []) (st' := []) (mtX7_guards hl0 ) (cwV 0 X.2.2.2.2.1 gX7_guardedFieldsByScarecrows_X7_guards rfl rfl rfl (by decide +kernel) ⟨Nat.le_of_ble_eq_true rfl, Nat.le_of_ble_eq_true rfl⟩) (by decide) (by decide) rfl rfl rfl (Nat.le_of_ble_eq_true rfl) dX7_guardedFieldsByScarecrows_6 ⟨Nat.le_of_ble_eq_true rfl, Nat.le_of_ble_eq_true rfl⟩ (fun x2 hx2 => ?_)
  refine vs_callSp X  (As := [.int x2]) (st' := []) (mtX7_bits hl0 x2) (va_cwS 1 X.2.2.2.2.1 gX7_guardedFieldsByScarecrows_X7_bits rfl rfl rfl (by decide +kernel) ⟨Nat.le_of_ble_eq_true rfl, Nat.le_of_ble_eq_true rfl⟩) rfl (Nat.le_of_ble_eq_true rfl) dX7_guardedFieldsByScarecrows_9 ⟨Nat.le_of_ble_eq_true rfl, Nat.le_of_ble_eq_true rfl⟩ (fun x3 hx3 => ?_)
  exact vs_iret X dX7_guardedFieldsByScarecrows_12 (by decide) (by decide)

def lpX7_totalGrains_9    : Nat → Int32 → Int32 → Wo → Option (Int32 × Wo)
  | 0, _, _, _ => none
  | f + 1, v1, v2, S3 => (if (16 : Int32) ≤ v2 then some (v1, S3) else (if inb (16 + v2) 112 = true then lpX7_totalGrains_9  f (v1 + (S3.2.1 167 (ix (16 + v2)))) (v2 + 1) S3 else none))
def spX7_totalGrains  (S : Wo) : Option (Int32 × Wo) :=
  wr (pI S 166 9 0) (fun S1 => lpX7_totalGrains_9  200 0 0 S1)
set_option maxHeartbeats 4000000 in
set_option maxRecDepth 100000 in
theorem mtX7_totalGrains {l : Launch} (hl0 : l.stackTraces = false) {G : Gt}  {S : Wo} : ∀ rr, spX7_totalGrains  S = some rr → MI l yX7_totalGrains wsX7_totalGrains { frames := 0, cells := 0, slots := 0, locals := 0 } G S [rf G 166] rr 0 0 := by
  refine MI_of (cc := cX7_totalGrains) (own := RX7) (maxL := 3) (ret := (some .int)) (sp := spX7_totalGrains  S) (by decide +kernel) rfl rfl (Nat.le_of_ble_eq_true rfl) ?_
  intro p e s m args below meth c X
  have hinX7 : ∀ w ∈ wsX70, w ∈ wsX7_totalGrains := by decide +kernel
  show VS G p l e _ s m args below meth c 3 _ _ 0 0 S 0 [(0, rf G 166)] []
  unfold spX7_totalGrains
  refine vs_aload_n X dX7_totalGrains_0 0 rfl ?_
  refine vs_iconst X (v := 0) dX7_totalGrains_1 (by decide) ?_
  refine p_Mod  X hinX7 9 (by decide) (by decide +kernel) rfl rfl rfl rfl rfl rfl dX7_totalGrains_2 (fun S1 hS1 => ?_)
  refine vs_iconst X (v := 0) dX7_totalGrains_5 (by decide) ?_
  refine vs_istore_n X (lv' := [(1, .int 0), (0, rf G 166)]) dX7_totalGrains_6 (by decide) rfl ?_
  refine vs_iconst X (v := 0) dX7_totalGrains_7 (by decide) ?_
  refine vs_istore_n X (lv' := [(2, .int 0), (1, .int 0), (0, rf G 166)]) dX7_totalGrains_8 (by decide) rfl ?_
  have L2 : ∀ (f : Nat) (v1 : Int32) (v2 : Int32) (S3 : Wo), VS G p l e ({ frames := 0, cells := 0, slots := 0, locals := 0 } : Room) s m args below meth c 3 (fun r => MQ below (QI G r) args s 0 0 (Af G)) (lpX7_totalGrains_9  f v1 v2 S3) 0 0 S3 9 [(0, rf G 166), (1, .int v1), (2, .int v2)] [] := by
    intro f
    induction f with
    | zero => intro v1 v2 S3; exact vs_none rfl
    | succ f ih =>
        intro v1 v2 S3
        rw [lpX7_totalGrains_9]
        refine vs_iload_n X dX7_totalGrains_9 2 rfl ?_
        refine vs_bipush X (v := 16) dX7_totalGrains_10 (by decide) ?_
        refine vs_icmp_ge X (tgt := 33) dX7_totalGrains_12 (by decide) (fun _ => ?_) (fun _ => ?_)
        · refine vs_iload_n X dX7_totalGrains_33 1 rfl ?_
          exact vs_iret X dX7_totalGrains_34 (by decide) (by decide)
        · refine vs_iload_n X dX7_totalGrains_15 1 rfl ?_
          refine vs_aload_n X dX7_totalGrains_16 0 rfl ?_
          refine g_Mod  X hinX7 0 (by decide) (by decide +kernel) rfl rfl dX7_totalGrains_17 ?_
          refine vs_bipush X (v := 16) dX7_totalGrains_20 (by decide) ?_
          refine vs_iload_n X dX7_totalGrains_22 2 rfl ?_
          refine vs_iadd X dX7_totalGrains_23 ?_
          refine vs_iald X (by decide) (by decide) rfl dX7_totalGrains_24 ?_
          refine vs_iadd X dX7_totalGrains_25 ?_
          refine vs_istore_n X (lv' := [(1, .int (v1 + (S3.2.1 167 (ix (16 + v2))))), (0, rf G 166), (2, .int v2)]) dX7_totalGrains_26 (by decide) rfl ?_
          refine vs_iinc X (v := (v2 + 1)) (lv' := [(2, .int (v2 + 1)), (1, .int (v1 + (S3.2.1 167 (ix (16 + v2))))), (0, rf G 166)]) dX7_totalGrains_27 2 rfl rfl (by decide) rfl ?_
          refine vs_goto X (tgt := 9) dX7_totalGrains_30 (by decide) ?_
          refine vs_sub [2, 1, 0] (lv' := [(0, rf G 166), (1, .int (v1 + (S3.2.1 167 (ix (16 + v2))))), (2, .int (v2 + 1))]) rfl ?_
          exact ih (v1 + (S3.2.1 167 (ix (16 + v2)))) (v2 + 1) S3
  refine vs_sub [2, 1, 0] (lv' := [(0, rf G 166), (1, .int 0), (2, .int 0)]) rfl ?_
  exact L2 200 0 0 S1

def spX7_eaten  (S : Wo) : Option (Int32 × Wo) :=
  wr (pI S 166 9 0) (fun S1 => (if inb 3 112 = true then some ((S1.2.1 167 (ix 3)), S1) else none))
set_option maxHeartbeats 4000000 in
set_option maxRecDepth 100000 in
theorem mtX7_eaten {l : Launch} (hl0 : l.stackTraces = false) {G : Gt}  {S : Wo} : ∀ rr, spX7_eaten  S = some rr → MI l yX7_eaten wsX7_eaten { frames := 0, cells := 0, slots := 0, locals := 0 } G S [rf G 166] rr 0 0 := by
  refine MI_of (cc := cX7_eaten) (own := RX7) (maxL := 1) (ret := (some .int)) (sp := spX7_eaten  S) (by decide +kernel) rfl rfl (Nat.le_of_ble_eq_true rfl) ?_
  intro p e s m args below meth c X
  have hinX7 : ∀ w ∈ wsX70, w ∈ wsX7_eaten := by decide +kernel
  show VS G p l e _ s m args below meth c 1 _ _ 0 0 S 0 [(0, rf G 166)] []
  unfold spX7_eaten
  refine vs_aload_n X dX7_eaten_0 0 rfl ?_
  refine vs_iconst X (v := 0) dX7_eaten_1 (by decide) ?_
  refine p_Mod  X hinX7 9 (by decide) (by decide +kernel) rfl rfl rfl rfl rfl rfl dX7_eaten_2 (fun S1 hS1 => ?_)
  refine vs_aload_n X dX7_eaten_5 0 rfl ?_
  refine g_Mod  X hinX7 0 (by decide) (by decide +kernel) rfl rfl dX7_eaten_6 ?_
  refine vs_iconst X (v := 3) dX7_eaten_9 (by decide) ?_
  refine vs_iald X (by decide) (by decide) rfl dX7_eaten_10 ?_
  exact vs_iret X dX7_eaten_11 (by decide) (by decide)

def spX7_sown  (S : Wo) : Option (Int32 × Wo) :=
  wr (pI S 166 9 0) (fun S1 => (if inb 4 112 = true then some ((S1.2.1 167 (ix 4)), S1) else none))
set_option maxHeartbeats 4000000 in
set_option maxRecDepth 100000 in
theorem mtX7_sown {l : Launch} (hl0 : l.stackTraces = false) {G : Gt}  {S : Wo} : ∀ rr, spX7_sown  S = some rr → MI l yX7_sown wsX7_sown { frames := 0, cells := 0, slots := 0, locals := 0 } G S [rf G 166] rr 0 0 := by
  refine MI_of (cc := cX7_sown) (own := RX7) (maxL := 1) (ret := (some .int)) (sp := spX7_sown  S) (by decide +kernel) rfl rfl (Nat.le_of_ble_eq_true rfl) ?_
  intro p e s m args below meth c X
  have hinX7 : ∀ w ∈ wsX70, w ∈ wsX7_sown := by decide +kernel
  show VS G p l e _ s m args below meth c 1 _ _ 0 0 S 0 [(0, rf G 166)] []
  unfold spX7_sown
  refine vs_aload_n X dX7_sown_0 0 rfl ?_
  refine vs_iconst X (v := 0) dX7_sown_1 (by decide) ?_
  refine p_Mod  X hinX7 9 (by decide) (by decide +kernel) rfl rfl rfl rfl rfl rfl dX7_sown_2 (fun S1 hS1 => ?_)
  refine vs_aload_n X dX7_sown_5 0 rfl ?_
  refine g_Mod  X hinX7 0 (by decide) (by decide +kernel) rfl rfl dX7_sown_6 ?_
  refine vs_iconst X (v := 4) dX7_sown_9 (by decide) ?_
  refine vs_iald X (by decide) (by decide) rfl dX7_sown_10 ?_
  exact vs_iret X dX7_sown_11 (by decide) (by decide)

def lpX7_meanDaysLeft_27    : Nat → Int32 → Int32 → Wo → Option (UInt64 × Wo)
  | 0, _, _, _ => none
  | f + 1, v1, v2, S6 => (if inb 1 112 = true then (if (S6.2.1 167 (ix 1)) ≤ v2 then (if inb 1 112 = true then n64 (FP.ddiv (FP.i2d v1) (FP.i2d (S6.2.1 167 (ix 1)))) (fun _ => some ((FP.ddiv (FP.i2d v1) (FP.i2d (S6.2.1 167 (ix 1)))), S6)) else none) else (spX7_of v2 3 S6).bind (fun x7 => (if inb 2 112 = true then lpX7_meanDaysLeft_27  f (v1 + (x7 - (S6.2.1 167 (ix 2)))) (v2 + 1) S6 else none))) else none)
def spX7_meanDaysLeft  (S : Wo) : Option (UInt64 × Wo) :=
  (if inb 1 112 = true then jn (β := Int32 → Option (UInt64 × Wo)) (fun (x1 : Int32) => bd2 (spX7_fails x1 S) (fun x3 S4 => (if x3 = 0 then lpX7_meanDaysLeft_27  200 0 0 S4 else some (FP.dconst0, S4)))) (fun k2 => (if (S.2.1 167 (ix 1)) = 0 then k2 1 else k2 0)) else none)
set_option maxHeartbeats 4000000 in
set_option maxRecDepth 100000 in
theorem mtX7_meanDaysLeft {l : Launch} (hl0 : l.stackTraces = false) {G : Gt}  {S : Wo} : ∀ rr, spX7_meanDaysLeft  S = some rr → MD l yX7_meanDaysLeft wsX7_meanDaysLeft { frames := 1, cells := 0, slots := 0, locals := 22 } G S [rf G 166] rr 0 0 := by
  refine MD_of (cc := cX7_meanDaysLeft) (own := RX7) (maxL := 3) (ret := (some .double)) (sp := spX7_meanDaysLeft  S) (by decide +kernel) rfl rfl (Nat.le_of_ble_eq_true rfl) ?_
  intro p e s m args below meth c X
  have hinX7 : ∀ w ∈ wsX70, w ∈ wsX7_meanDaysLeft := by decide +kernel
  show VS G p l e _ s m args below meth c 3 _ _ 0 0 S 0 [(0, rf G 166)] []
  unfold spX7_meanDaysLeft
  refine vs_aload_n X dX7_meanDaysLeft_0 0 rfl ?_
  refine vs_aload_n X dX7_meanDaysLeft_1 0 rfl ?_
  refine g_Mod  X hinX7 0 (by decide) (by decide +kernel) rfl rfl dX7_meanDaysLeft_2 ?_
  refine vs_iconst X (v := 1) dX7_meanDaysLeft_5 (by decide) ?_
  refine vs_iald X (by decide) (by decide) rfl dX7_meanDaysLeft_6 ?_
  refine vs_jn (β := Int32 → Option (UInt64 × Wo)) (P := fun k2 => ∀ (x1 : Int32), VS G p l e ({ frames := 1, cells := 0, slots := 0, locals := 22 } : Room) s m args below meth c 3 (fun r => MQ below (QD G r) args s 0 0 (Af G)) (k2 x1) 0 0 S 15 [(0, rf G 166)] [.int x1, rf G 166]) (fun x1 => ?_) (fun k2 hk2 => ?_)
  · refine vs_callVi X  (As := [.int x1]) (st' := []) (mtX7_fails hl0 x1) (cwV 1 X.2.2.2.2.1 gX7_meanDaysLeft_X7_fails rfl rfl rfl (by decide +kernel) ⟨Nat.le_of_ble_eq_true rfl, Nat.le_of_ble_eq_true rfl⟩) (by decide) (by decide) rfl rfl rfl (Nat.le_of_ble_eq_true rfl) dX7_meanDaysLeft_15 ⟨Nat.le_of_ble_eq_true rfl, Nat.le_of_ble_eq_true rfl⟩ (fun x3 S4 hx3 => ?_)
    refine vs_if_eq X (tgt := 23) dX7_meanDaysLeft_18 (by decide) (fun _ => ?_) (fun _ => ?_)
    · refine vs_iconst X (v := 0) dX7_meanDaysLeft_23 (by decide) ?_
      refine vs_istore_n X (lv' := [(1, .int 0), (0, rf G 166)]) dX7_meanDaysLeft_24 (by decide) rfl ?_
      refine vs_iconst X (v := 0) dX7_meanDaysLeft_25 (by decide) ?_
      refine vs_istore_n X (lv' := [(2, .int 0), (1, .int 0), (0, rf G 166)]) dX7_meanDaysLeft_26 (by decide) rfl ?_
      have L5 : ∀ (f : Nat) (v1 : Int32) (v2 : Int32) (S6 : Wo), VS G p l e ({ frames := 1, cells := 0, slots := 0, locals := 22 } : Room) s m args below meth c 3 (fun r => MQ below (QD G r) args s 0 0 (Af G)) (lpX7_meanDaysLeft_27  f v1 v2 S6) 0 0 S6 27 [(0, rf G 166), (1, .int v1), (2, .int v2)] [] := by
        intro f
        induction f with
        | zero => intro v1 v2 S6; exact vs_none rfl
        | succ f ih =>
            intro v1 v2 S6
            rw [lpX7_meanDaysLeft_27]
            refine vs_iload_n X dX7_meanDaysLeft_27 2 rfl ?_
            refine vs_aload_n X dX7_meanDaysLeft_28 0 rfl ?_
            refine g_Mod  X hinX7 0 (by decide) (by decide +kernel) rfl rfl dX7_meanDaysLeft_29 ?_
            refine vs_iconst X (v := 1) dX7_meanDaysLeft_32 (by decide) ?_
            refine vs_iald X (by decide) (by decide) rfl dX7_meanDaysLeft_33 ?_
            refine vs_icmp_ge X (tgt := 59) dX7_meanDaysLeft_34 (by decide) (fun _ => ?_) (fun _ => ?_)
            · refine vs_iload_n X dX7_meanDaysLeft_59 1 rfl ?_
              refine vs_i2d X dX7_meanDaysLeft_60 ?_
              refine vs_aload_n X dX7_meanDaysLeft_61 0 rfl ?_
              refine g_Mod  X hinX7 0 (by decide) (by decide +kernel) rfl rfl dX7_meanDaysLeft_62 ?_
              refine vs_iconst X (v := 1) dX7_meanDaysLeft_65 (by decide) ?_
              refine vs_iald X (by decide) (by decide) rfl dX7_meanDaysLeft_66 ?_
              refine vs_i2d X dX7_meanDaysLeft_67 ?_
              refine vs_ddiv X dX7_meanDaysLeft_68 ?_
              exact vs_dret X dX7_meanDaysLeft_69 (by decide) (by decide)
            · refine vs_iload_n X dX7_meanDaysLeft_37 1 rfl ?_
              refine vs_aload_n X dX7_meanDaysLeft_38 0 rfl ?_
              refine vs_iload_n X dX7_meanDaysLeft_39 2 rfl ?_
              refine vs_iconst X (v := 3) dX7_meanDaysLeft_40 (by decide) ?_
              refine vs_callVp X  (As := [.int v2, .int 3]) (st' := [.int v1]) (mtX7_of hl0 v2 3) (cwV 2 X.2.2.2.2.1 gX7_meanDaysLeft_X7_of rfl rfl rfl (by decide +kernel) ⟨Nat.le_of_ble_eq_true rfl, Nat.le_of_ble_eq_true rfl⟩) (by decide) (by decide) rfl rfl rfl (Nat.le_of_ble_eq_true rfl) dX7_meanDaysLeft_41 ⟨Nat.le_of_ble_eq_true rfl, Nat.le_of_ble_eq_true rfl⟩ (fun x7 hx7 => ?_)
              refine vs_aload_n X dX7_meanDaysLeft_44 0 rfl ?_
              refine g_Mod  X hinX7 0 (by decide) (by decide +kernel) rfl rfl dX7_meanDaysLeft_45 ?_
              refine vs_iconst X (v := 2) dX7_meanDaysLeft_48 (by decide) ?_
              refine vs_iald X (by decide) (by decide) rfl dX7_meanDaysLeft_49 ?_
              refine vs_isub X dX7_meanDaysLeft_50 ?_
              refine vs_iadd X dX7_meanDaysLeft_51 ?_
              refine vs_istore_n X (lv' := [(1, .int (v1 + (x7 - (S6.2.1 167 (ix 2))))), (0, rf G 166), (2, .int v2)]) dX7_meanDaysLeft_52 (by decide) rfl ?_
              refine vs_iinc X (v := (v2 + 1)) (lv' := [(2, .int (v2 + 1)), (1, .int (v1 + (x7 - (S6.2.1 167 (ix 2))))), (0, rf G 166)]) dX7_meanDaysLeft_53 2 rfl rfl (by decide) rfl ?_
              refine vs_goto X (tgt := 27) dX7_meanDaysLeft_56 (by decide) ?_
              refine vs_sub [2, 1, 0] (lv' := [(0, rf G 166), (1, .int (v1 + (x7 - (S6.2.1 167 (ix 2))))), (2, .int (v2 + 1))]) rfl ?_
              exact ih (v1 + (x7 - (S6.2.1 167 (ix 2)))) (v2 + 1) S6
      refine vs_sub [2, 1, 0] (lv' := [(0, rf G 166), (1, .int 0), (2, .int 0)]) rfl ?_
      exact L5 200 0 0 S4
    · refine vs_dconst0 X dX7_meanDaysLeft_21 ?_
      exact vs_dret X dX7_meanDaysLeft_22 (by decide) (by decide)
  · refine vs_if_ne X (tgt := 14) dX7_meanDaysLeft_7 (by decide) (fun _ => ?_) (fun _ => ?_)
    · refine vs_iconst X (v := 1) dX7_meanDaysLeft_10 (by decide) ?_
      refine vs_goto X (tgt := 15) dX7_meanDaysLeft_11 (by decide) ?_
      exact vs_join [0] (Nat.le_of_ble_eq_true rfl) (Nat.le_of_ble_eq_true rfl) rfl (hk2 1)
    · refine vs_iconst X (v := 0) dX7_meanDaysLeft_14 (by decide) ?_
      exact vs_join [0] (Nat.le_of_ble_eq_true rfl) (Nat.le_of_ble_eq_true rfl) rfl (hk2 0)

def spX7_inForceShare  (S : Wo) : Option (UInt32 × Wo) :=
  (if inb 1 112 = true then jn (β := Int32 → Option (UInt32 × Wo)) (fun (x1 : Int32) => bd2 (spX7_fails x1 S) (fun x3 S4 => (if x3 = 0 then (spX7_valid  S4).bind (fun x5 => (if inb 1 112 = true then n32 (FP.fdiv (FP.i2f x5) (FP.i2f (S4.2.1 167 (ix 1)))) (fun _ => some ((FP.fdiv (FP.i2f x5) (FP.i2f (S4.2.1 167 (ix 1)))), S4)) else none)) else some (FP.fconst0, S4)))) (fun k2 => (if (S.2.1 167 (ix 1)) = 0 then k2 1 else k2 0)) else none)
set_option maxHeartbeats 4000000 in
set_option maxRecDepth 100000 in
theorem mtX7_inForceShare {l : Launch} (hl0 : l.stackTraces = false) {G : Gt}  {S : Wo} : ∀ rr, spX7_inForceShare  S = some rr → MF l yX7_inForceShare wsX7_inForceShare { frames := 5, cells := 0, slots := 0, locals := 112 } G S [rf G 166] rr 0 0 := by
  refine MF_of (cc := cX7_inForceShare) (own := RX7) (maxL := 1) (ret := (some .float)) (sp := spX7_inForceShare  S) (by decide +kernel) rfl rfl (Nat.le_of_ble_eq_true rfl) ?_
  intro p e s m args below meth c X
  have hinX7 : ∀ w ∈ wsX70, w ∈ wsX7_inForceShare := by decide +kernel
  show VS G p l e _ s m args below meth c 1 _ _ 0 0 S 0 [(0, rf G 166)] []
  unfold spX7_inForceShare
  refine vs_aload_n X dX7_inForceShare_0 0 rfl ?_
  refine vs_aload_n X dX7_inForceShare_1 0 rfl ?_
  refine g_Mod  X hinX7 0 (by decide) (by decide +kernel) rfl rfl dX7_inForceShare_2 ?_
  refine vs_iconst X (v := 1) dX7_inForceShare_5 (by decide) ?_
  refine vs_iald X (by decide) (by decide) rfl dX7_inForceShare_6 ?_
  refine vs_jn (β := Int32 → Option (UInt32 × Wo)) (P := fun k2 => ∀ (x1 : Int32), VS G p l e ({ frames := 5, cells := 0, slots := 0, locals := 112 } : Room) s m args below meth c 1 (fun r => MQ below (QF G r) args s 0 0 (Af G)) (k2 x1) 0 0 S 15 [(0, rf G 166)] [.int x1, rf G 166]) (fun x1 => ?_) (fun k2 hk2 => ?_)
  · refine vs_callVi X  (As := [.int x1]) (st' := []) (mtX7_fails hl0 x1) (cwV 1 X.2.2.2.2.1 gX7_inForceShare_X7_fails rfl rfl rfl (by decide +kernel) ⟨Nat.le_of_ble_eq_true rfl, Nat.le_of_ble_eq_true rfl⟩) (by decide) (by decide) rfl rfl rfl (Nat.le_of_ble_eq_true rfl) dX7_inForceShare_15 ⟨Nat.le_of_ble_eq_true rfl, Nat.le_of_ble_eq_true rfl⟩ (fun x3 S4 hx3 => ?_)
    refine vs_if_eq X (tgt := 25) dX7_inForceShare_18 (by decide) (fun _ => ?_) (fun _ => ?_)
    · refine vs_aload_n X dX7_inForceShare_25 0 rfl ?_
      refine vs_callVp X  (As := []) (st' := []) (mtX7_valid hl0 ) (cwV 0 X.2.2.2.2.1 gX7_inForceShare_X7_valid rfl rfl rfl (by decide +kernel) ⟨Nat.le_of_ble_eq_true rfl, Nat.le_of_ble_eq_true rfl⟩) (by decide) (by decide) rfl rfl rfl (Nat.le_of_ble_eq_true rfl) dX7_inForceShare_26 ⟨Nat.le_of_ble_eq_true rfl, Nat.le_of_ble_eq_true rfl⟩ (fun x5 hx5 => ?_)
      refine vs_i2f X dX7_inForceShare_29 ?_
      refine vs_aload_n X dX7_inForceShare_30 0 rfl ?_
      refine g_Mod  X hinX7 0 (by decide) (by decide +kernel) rfl rfl dX7_inForceShare_31 ?_
      refine vs_iconst X (v := 1) dX7_inForceShare_34 (by decide) ?_
      refine vs_iald X (by decide) (by decide) rfl dX7_inForceShare_35 ?_
      refine vs_i2f X dX7_inForceShare_36 ?_
      refine vs_fdiv X dX7_inForceShare_37 ?_
      exact vs_fret X dX7_inForceShare_38 (by decide) (by decide)
    · refine vs_fconst0 X dX7_inForceShare_21 ?_
      refine vs_goto X (tgt := 38) dX7_inForceShare_22 (by decide) ?_
      exact vs_fret X dX7_inForceShare_38 (by decide) (by decide)
  · refine vs_if_ne X (tgt := 14) dX7_inForceShare_7 (by decide) (fun _ => ?_) (fun _ => ?_)
    · refine vs_iconst X (v := 1) dX7_inForceShare_10 (by decide) ?_
      refine vs_goto X (tgt := 15) dX7_inForceShare_11 (by decide) ?_
      exact vs_join [0] (Nat.le_of_ble_eq_true rfl) (Nat.le_of_ble_eq_true rfl) rfl (hk2 1)
    · refine vs_iconst X (v := 0) dX7_inForceShare_14 (by decide) ?_
      exact vs_join [0] (Nat.le_of_ble_eq_true rfl) (Nat.le_of_ble_eq_true rfl) rfl (hk2 0)

def spX7_feed (p1 : Int32) (S : Wo) : Option (Int32 × Wo) :=
  jn (β := Int32 → Option (Int32 × Wo)) (fun (x1 : Int32) => bd2 (spX7_fails x1 S) (fun x3 S4 => (if x3 = 0 then (if inb (S4.1 166 14) 60 = true then wr (pF S4 172 (upd (S4.2.1 172) (ix (S4.1 166 14)) p1)) (fun S5 => wr (pI S5 166 14 (S5.1 166 14 + 1)) (fun S6 => some (S6.1 166 14, S6))) else none) else some (0, S4)))) (fun k2 => (if S.1 166 14 = 60 then k2 1 else k2 0))
set_option maxHeartbeats 4000000 in
set_option maxRecDepth 100000 in
theorem mtX7_feed {l : Launch} (hl0 : l.stackTraces = false) {G : Gt} (p1 : Int32) {S : Wo} : ∀ rr, spX7_feed p1 S = some rr → MI l yX7_feed wsX7_feed { frames := 1, cells := 0, slots := 0, locals := 21 } G S [rf G 166, .int p1] rr 0 0 := by
  refine MI_of (cc := cX7_feed) (own := RX7) (maxL := 2) (ret := (some .int)) (sp := spX7_feed p1 S) (by decide +kernel) rfl rfl (Nat.le_of_ble_eq_true rfl) ?_
  intro p e s m args below meth c X
  have hinX7 : ∀ w ∈ wsX70, w ∈ wsX7_feed := by decide +kernel
  show VS G p l e _ s m args below meth c 2 _ _ 0 0 S 0 [(0, rf G 166), (1, .int p1)] []
  unfold spX7_feed
  refine vs_aload_n X dX7_feed_0 0 rfl ?_
  refine vs_aload_n X dX7_feed_1 0 rfl ?_
  refine g_Mod  X hinX7 14 (by decide) (by decide +kernel) rfl rfl dX7_feed_2 ?_
  refine vs_bipush X (v := 60) dX7_feed_5 (by decide) ?_
  refine vs_jn (β := Int32 → Option (Int32 × Wo)) (P := fun k2 => ∀ (x1 : Int32), VS G p l e ({ frames := 1, cells := 0, slots := 0, locals := 21 } : Room) s m args below meth c 2 (fun r => MQ below (QI G r) args s 0 0 (Af G)) (k2 x1) 0 0 S 15 [(0, rf G 166), (1, .int p1)] [.int x1, rf G 166]) (fun x1 => ?_) (fun k2 hk2 => ?_)
  · refine vs_callVi X  (As := [.int x1]) (st' := []) (mtX7_fails hl0 x1) (cwV 1 X.2.2.2.2.1 gX7_feed_X7_fails rfl rfl rfl (by decide +kernel) ⟨Nat.le_of_ble_eq_true rfl, Nat.le_of_ble_eq_true rfl⟩) (by decide) (by decide) rfl rfl rfl (Nat.le_of_ble_eq_true rfl) dX7_feed_15 ⟨Nat.le_of_ble_eq_true rfl, Nat.le_of_ble_eq_true rfl⟩ (fun x3 S4 hx3 => ?_)
    refine vs_if_eq X (tgt := 23) dX7_feed_18 (by decide) (fun _ => ?_) (fun _ => ?_)
    · refine vs_aload_n X dX7_feed_23 0 rfl ?_
      refine g_Mod  X hinX7 13 (by decide) (by decide +kernel) rfl rfl dX7_feed_24 ?_
      refine vs_aload_n X dX7_feed_27 0 rfl ?_
      refine g_Mod  X hinX7 14 (by decide) (by decide +kernel) rfl rfl dX7_feed_28 ?_
      refine vs_iload_n X dX7_feed_31 1 rfl ?_
      refine vs_iast X (by decide) (by decide) (fun _ => rfl) dX7_feed_32 (fun S5 hS5 => ?_)
      refine vs_aload_n X dX7_feed_33 0 rfl ?_
      refine vs_dup X dX7_feed_34 rfl ?_
      refine g_Mod  X hinX7 14 (by decide) (by decide +kernel) rfl rfl dX7_feed_35 ?_
      refine vs_iconst X (v := 1) dX7_feed_38 (by decide) ?_
      refine vs_iadd X dX7_feed_39 ?_
      refine p_Mod  X hinX7 14 (by decide) (by decide +kernel) rfl rfl rfl rfl rfl rfl dX7_feed_40 (fun S6 hS6 => ?_)
      refine vs_aload_n X dX7_feed_43 0 rfl ?_
      refine g_Mod  X hinX7 14 (by decide) (by decide +kernel) rfl rfl dX7_feed_44 ?_
      exact vs_iret X dX7_feed_47 (by decide) (by decide)
    · refine vs_iconst X (v := 0) dX7_feed_21 (by decide) ?_
      exact vs_iret X dX7_feed_22 (by decide) (by decide)
  · refine vs_icmp_ne X (tgt := 14) dX7_feed_7 (by decide) (fun _ => ?_) (fun _ => ?_)
    · refine vs_iconst X (v := 1) dX7_feed_10 (by decide) ?_
      refine vs_goto X (tgt := 15) dX7_feed_11 (by decide) ?_
      exact vs_join [0, 1] (Nat.le_of_ble_eq_true rfl) (Nat.le_of_ble_eq_true rfl) rfl (hk2 1)
    · refine vs_iconst X (v := 0) dX7_feed_14 (by decide) ?_
      exact vs_join [0, 1] (Nat.le_of_ble_eq_true rfl) (Nat.le_of_ble_eq_true rfl) rfl (hk2 0)

def spX7_here  (S : Wo) : Option (Int32) :=
  (if S.1 166 14 ≤ S.1 166 18 then some (-1) else (if inb (S.1 166 18) 60 = true then some (S.2.1 172 (ix (S.1 166 18))) else none))
set_option maxHeartbeats 4000000 in
set_option maxRecDepth 100000 in
theorem mtX7_here {l : Launch} (hl0 : l.stackTraces = false) {G : Gt}  {S : Wo} : ∀ x, spX7_here  S = some x → MI l yX7_here wsX7_here { frames := 0, cells := 0, slots := 0, locals := 0 } G S [rf G 166] (x, S) 0 0 := by
  refine MIp_of (cc := cX7_here) (own := RX7) (maxL := 1) (ret := (some .int)) (sp := spX7_here  S) (by decide +kernel) rfl rfl (Nat.le_of_ble_eq_true rfl) ?_
  intro p e s m args below meth c X
  have hinX7 : ∀ w ∈ wsX70, w ∈ wsX7_here := by decide +kernel
  show VS G p l e _ s m args below meth c 1 _ _ 0 0 S 0 [(0, rf G 166)] []
  unfold spX7_here
  refine vs_aload_n X dX7_here_0 0 rfl ?_
  refine g_Mod  X hinX7 18 (by decide) (by decide +kernel) rfl rfl dX7_here_1 ?_
  refine vs_aload_n X dX7_here_4 0 rfl ?_
  refine g_Mod  X hinX7 14 (by decide) (by decide +kernel) rfl rfl dX7_here_5 ?_
  refine vs_icmp_ge X (tgt := 23) dX7_here_8 (by decide) (fun _ => ?_) (fun _ => ?_)
  · refine vs_iconst X (v := (-1)) dX7_here_23 (by decide) ?_
    exact vs_iretp X dX7_here_24 (by decide) (by decide)
  · refine vs_aload_n X dX7_here_11 0 rfl ?_
    refine g_Mod  X hinX7 13 (by decide) (by decide +kernel) rfl rfl dX7_here_12 ?_
    refine vs_aload_n X dX7_here_15 0 rfl ?_
    refine g_Mod  X hinX7 18 (by decide) (by decide +kernel) rfl rfl dX7_here_16 ?_
    refine vs_iald X (by decide) (by decide) rfl dX7_here_19 ?_
    refine vs_goto X (tgt := 24) dX7_here_20 (by decide) ?_
    exact vs_iretp X dX7_here_24 (by decide) (by decide)

def spX7_skips (p1 : Int32) (S : Wo) : Option (Int32 × Wo) :=
  (spX7_here  S).bind (fun x1 => (if x1 = p1 then wr (pI S 166 18 (S.1 166 18 + 1)) (fun S2 => rz 1 (fun y => some (y, S2))) else rz 0 (fun y => some (y, S))))
set_option maxHeartbeats 4000000 in
set_option maxRecDepth 100000 in
theorem mtX7_skips {l : Launch} (hl0 : l.stackTraces = false) {G : Gt} (p1 : Int32) {S : Wo} : ∀ rr, spX7_skips p1 S = some rr → MI l yX7_skips wsX7_skips { frames := 1, cells := 0, slots := 0, locals := 20 } G S [rf G 166, .int p1] rr 0 0 := by
  refine MI_of (cc := cX7_skips) (own := RX7) (maxL := 2) (ret := (some .boolean)) (sp := spX7_skips p1 S) (by decide +kernel) rfl rfl (Nat.le_of_ble_eq_true rfl) ?_
  intro p e s m args below meth c X
  have hinX7 : ∀ w ∈ wsX70, w ∈ wsX7_skips := by decide +kernel
  show VS G p l e _ s m args below meth c 2 _ _ 0 0 S 0 [(0, rf G 166), (1, .int p1)] []
  unfold spX7_skips
  refine vs_aload_n X dX7_skips_0 0 rfl ?_
  refine vs_callVp X  (As := []) (st' := []) (mtX7_here hl0 ) (cwV 0 X.2.2.2.2.1 gX7_skips_X7_here rfl rfl rfl (by decide +kernel) ⟨Nat.le_of_ble_eq_true rfl, Nat.le_of_ble_eq_true rfl⟩) (by decide) (by decide) rfl rfl rfl (Nat.le_of_ble_eq_true rfl) dX7_skips_1 ⟨Nat.le_of_ble_eq_true rfl, Nat.le_of_ble_eq_true rfl⟩ (fun x1 hx1 => ?_)
  refine vs_iload_n X dX7_skips_4 1 rfl ?_
  refine vs_icmp_eq X (tgt := 10) dX7_skips_5 (by decide) (fun _ => ?_) (fun _ => ?_)
  · refine vs_aload_n X dX7_skips_10 0 rfl ?_
    refine vs_dup X dX7_skips_11 rfl ?_
    refine g_Mod  X hinX7 18 (by decide) (by decide +kernel) rfl rfl dX7_skips_12 ?_
    refine vs_iconst X (v := 1) dX7_skips_15 (by decide) ?_
    refine vs_iadd X dX7_skips_16 ?_
    refine p_Mod  X hinX7 18 (by decide) (by decide +kernel) rfl rfl rfl rfl rfl rfl dX7_skips_17 (fun S2 hS2 => ?_)
    refine vs_iconst X (v := 1) dX7_skips_20 (by decide) ?_
    exact vs_zret X dX7_skips_21 (by decide) (by decide)
  · refine vs_iconst X (v := 0) dX7_skips_8 (by decide) ?_
    exact vs_zret X dX7_skips_9 (by decide) (by decide)

def lpX7_isWord_14 (p1 : Int32) (t2 : Nat)   : Nat → Int32 → Wo → Option (Int32 × Wo)
  | 0, _, _ => none
  | f + 1, v3, S3 => (spJ0_length_8abf5 t2 S3).bind (fun x4 => (if x4 ≤ v3 then rz 1 (fun y => some (y, S3)) else (spJ0_charAt_5068e t2 v3 S3).bind (fun x5 => bd2 (spX7_skips x5 S3) (fun x6 S7 => (if x6 = 0 then rz 0 (fun y => some (y, S7)) else lpX7_isWord_14 p1 t2 f (v3 + 1) S7)))))
def spX7_isWord (p1 : Int32) (t2 : Nat) (S : Wo) : Option (Int32 × Wo) :=
  (if inb (4 * S.1 166 20) 124 = true then wr (pF S 174 (upd (S.2.1 174) (ix (4 * S.1 166 20)) p1)) (fun S1 => lpX7_isWord_14 p1 t2 200 0 S1) else none)
set_option maxHeartbeats 4000000 in
set_option maxRecDepth 100000 in
theorem mtX7_isWord {l : Launch} (hl0 : l.stackTraces = false) {G : Gt} (p1 : Int32) {t2 : Nat} (ht2 : t2 < 24) {S : Wo} : ∀ rr, spX7_isWord p1 t2 S = some rr → MI l yX7_isWord wsX7_isWord { frames := 4, cells := 0, slots := 0, locals := 85 } G S [rf G 166, .int p1, .ref (sad G t2)] rr 0 0 := by
  refine MI_of (cc := cX7_isWord) (own := RX7) (maxL := 4) (ret := (some .boolean)) (sp := spX7_isWord p1 t2 S) (by decide +kernel) rfl rfl (Nat.le_of_ble_eq_true rfl) ?_
  intro p e s m args below meth c X
  have hinX7 : ∀ w ∈ wsX70, w ∈ wsX7_isWord := by decide +kernel
  show VS G p l e _ s m args below meth c 4 _ _ 0 0 S 0 [(0, rf G 166), (1, .int p1), (2, .ref (sad G t2))] []
  unfold spX7_isWord
  refine vs_aload_n X dX7_isWord_0 0 rfl ?_
  refine g_Mod  X hinX7 19 (by decide) (by decide +kernel) rfl rfl dX7_isWord_1 ?_
  refine vs_iconst X (v := 4) dX7_isWord_4 (by decide) ?_
  refine vs_aload_n X dX7_isWord_5 0 rfl ?_
  refine g_Mod  X hinX7 20 (by decide) (by decide +kernel) rfl rfl dX7_isWord_6 ?_
  refine vs_imul X dX7_isWord_9 ?_
  refine vs_iload_n X dX7_isWord_10 1 rfl ?_
  refine vs_iast X (by decide) (by decide) (fun _ => rfl) dX7_isWord_11 (fun S1 hS1 => ?_)
  refine vs_iconst X (v := 0) dX7_isWord_12 (by decide) ?_
  refine vs_istore_n X (lv' := [(3, .int 0), (0, rf G 166), (1, .int p1), (2, .ref (sad G t2))]) dX7_isWord_13 (by decide) rfl ?_
  have L2 : ∀ (f : Nat) (v3 : Int32) (S3 : Wo), VS G p l e ({ frames := 4, cells := 0, slots := 0, locals := 85 } : Room) s m args below meth c 4 (fun r => MQ below (QI G r) args s 0 0 (Af G)) (lpX7_isWord_14 p1 t2 f v3 S3) 0 0 S3 14 [(0, rf G 166), (1, .int p1), (2, .ref (sad G t2)), (3, .int v3)] [] := by
    intro f
    induction f with
    | zero => intro v3 S3; exact vs_none rfl
    | succ f ih =>
        intro v3 S3
        rw [lpX7_isWord_14]
        refine vs_iload_n X dX7_isWord_14 3 rfl ?_
        refine vs_aload_n X dX7_isWord_15 2 rfl ?_
        refine vs_callTp X  (As := []) (st' := [.int v3]) ht2 (mtJ0_length_8abf5 hl0 ht2) (cwV 0 X.2.2.2.2.1 gX7_isWord_J0_length_8abf5 rfl rfl rfl (by decide +kernel) ⟨Nat.le_of_ble_eq_true rfl, Nat.le_of_ble_eq_true rfl⟩) rfl (Nat.le_of_ble_eq_true rfl) dX7_isWord_16 ⟨Nat.le_of_ble_eq_true rfl, Nat.le_of_ble_eq_true rfl⟩ (fun x4 hx4 => ?_)
        refine vs_icmp_ge X (tgt := 42) dX7_isWord_19 (by decide) (fun _ => ?_) (fun _ => ?_)
        · refine vs_iconst X (v := 1) dX7_isWord_42 (by decide) ?_
          exact vs_zret X dX7_isWord_43 (by decide) (by decide)
        · refine vs_aload_n X dX7_isWord_22 0 rfl ?_
          refine vs_aload_n X dX7_isWord_23 2 rfl ?_
          refine vs_iload_n X dX7_isWord_24 3 rfl ?_
          refine vs_callTp X  (As := [.int v3]) (st' := [rf G 166]) ht2 (mtJ0_charAt_5068e hl0 ht2 v3) (cwV 1 X.2.2.2.2.1 gX7_isWord_J0_charAt_5068e rfl rfl rfl (by decide +kernel) ⟨Nat.le_of_ble_eq_true rfl, Nat.le_of_ble_eq_true rfl⟩) rfl (Nat.le_of_ble_eq_true rfl) dX7_isWord_25 ⟨Nat.le_of_ble_eq_true rfl, Nat.le_of_ble_eq_true rfl⟩ (fun x5 hx5 => ?_)
          refine vs_callVi X  (As := [.int x5]) (st' := []) (mtX7_skips hl0 x5) (cwV 1 X.2.2.2.2.1 gX7_isWord_X7_skips rfl rfl rfl (by decide +kernel) ⟨Nat.le_of_ble_eq_true rfl, Nat.le_of_ble_eq_true rfl⟩) (by decide) (by decide) rfl rfl rfl (Nat.le_of_ble_eq_true rfl) dX7_isWord_28 ⟨Nat.le_of_ble_eq_true rfl, Nat.le_of_ble_eq_true rfl⟩ (fun x6 S7 hx6 => ?_)
          refine vs_if_ne X (tgt := 36) dX7_isWord_31 (by decide) (fun _ => ?_) (fun _ => ?_)
          · refine vs_iconst X (v := 0) dX7_isWord_34 (by decide) ?_
            exact vs_zret X dX7_isWord_35 (by decide) (by decide)
          · refine vs_iinc X (v := (v3 + 1)) (lv' := [(3, .int (v3 + 1)), (0, rf G 166), (1, .int p1), (2, .ref (sad G t2))]) dX7_isWord_36 3 rfl rfl (by decide) rfl ?_
            refine vs_goto X (tgt := 14) dX7_isWord_39 (by decide) ?_
            refine vs_sub [1, 2, 3, 0] (lv' := [(0, rf G 166), (1, .int p1), (2, .ref (sad G t2)), (3, .int (v3 + 1))]) rfl ?_
            exact ih (v3 + 1) S7
  refine vs_sub [1, 2, 3, 0] (lv' := [(0, rf G 166), (1, .int p1), (2, .ref (sad G t2)), (3, .int 0)]) rfl ?_
  exact L2 200 0 S1

def lpX7_figures_34 (p1 : Int32) (p2 : Int32) (p3 : Int32)   : Nat → Int32 → Wo → Option (Int32 × Wo)
  | 0, _, _ => none
  | f + 1, v4, S7 => (if p3 ≤ v4 then rz 1 (fun y => some (y, S7)) else (spX7_here  S7).bind (fun x8 => (spX7_in x8 48 57 S7).bind (fun x9 => (if x9 = 0 then rz 1 (fun y => some (y, S7)) else (if inb p2 124 = true then (spX7_here  S7).bind (fun x10 => (if inb p2 124 = true then wr (pF S7 174 (upd (S7.2.1 174) (ix p2) (((10 * (S7.2.1 174 (ix p2))) + x10) - 48))) (fun S11 => wr (pI S11 166 18 (S11.1 166 18 + 1)) (fun S12 => lpX7_figures_34 p1 p2 p3 f (v4 + 1) S12)) else none)) else none)))))
def spX7_figures (p1 : Int32) (p2 : Int32) (p3 : Int32) (S : Wo) : Option (Int32 × Wo) :=
  bd2 (spX7_skips p1 S) (fun x1 S2 => (if x1 = 0 then rz 0 (fun y => some (y, S2)) else (spX7_here  S2).bind (fun x3 => (spX7_in x3 48 57 S2).bind (fun x4 => (if x4 = 0 then rz 0 (fun y => some (y, S2)) else (if inb p2 124 = true then wr (pF S2 174 (upd (S2.2.1 174) (ix p2) 0)) (fun S5 => lpX7_figures_34 p1 p2 p3 200 0 S5) else none))))))
set_option maxHeartbeats 4000000 in
set_option maxRecDepth 100000 in
theorem mtX7_figures {l : Launch} (hl0 : l.stackTraces = false) {G : Gt} (p1 : Int32) (p2 : Int32) (p3 : Int32) {S : Wo} : ∀ rr, spX7_figures p1 p2 p3 S = some rr → MI l yX7_figures wsX7_figures { frames := 2, cells := 0, slots := 0, locals := 41 } G S [rf G 166, .int p1, .int p2, .int p3] rr 0 0 := by
  refine MI_of (cc := cX7_figures) (own := RX7) (maxL := 5) (ret := (some .boolean)) (sp := spX7_figures p1 p2 p3 S) (by decide +kernel) rfl rfl (Nat.le_of_ble_eq_true rfl) ?_
  intro p e s m args below meth c X
  have hinX7 : ∀ w ∈ wsX70, w ∈ wsX7_figures := by decide +kernel
  show VS G p l e _ s m args below meth c 5 _ _ 0 0 S 0 [(0, rf G 166), (1, .int p1), (2, .int p2), (3, .int p3)] []
  unfold spX7_figures
  refine vs_aload_n X dX7_figures_0 0 rfl ?_
  refine vs_iload_n X dX7_figures_1 1 rfl ?_
  refine vs_callVi X  (As := [.int p1]) (st' := []) (mtX7_skips hl0 p1) (cwV 1 X.2.2.2.2.1 gX7_figures_X7_skips rfl rfl rfl (by decide +kernel) ⟨Nat.le_of_ble_eq_true rfl, Nat.le_of_ble_eq_true rfl⟩) (by decide) (by decide) rfl rfl rfl (Nat.le_of_ble_eq_true rfl) dX7_figures_2 ⟨Nat.le_of_ble_eq_true rfl, Nat.le_of_ble_eq_true rfl⟩ (fun x1 S2 hx1 => ?_)
  refine vs_if_eq X (tgt := 22) dX7_figures_5 (by decide) (fun _ => ?_) (fun _ => ?_)
  · refine vs_iconst X (v := 0) dX7_figures_22 (by decide) ?_
    exact vs_zret X dX7_figures_23 (by decide) (by decide)
  · refine vs_aload_n X dX7_figures_8 0 rfl ?_
    refine vs_callVp X  (As := []) (st' := []) (mtX7_here hl0 ) (cwV 0 X.2.2.2.2.1 gX7_figures_X7_here rfl rfl rfl (by decide +kernel) ⟨Nat.le_of_ble_eq_true rfl, Nat.le_of_ble_eq_true rfl⟩) (by decide) (by decide) rfl rfl rfl (Nat.le_of_ble_eq_true rfl) dX7_figures_9 ⟨Nat.le_of_ble_eq_true rfl, Nat.le_of_ble_eq_true rfl⟩ (fun x3 hx3 => ?_)
    refine vs_bipush X (v := 48) dX7_figures_12 (by decide) ?_
    refine vs_bipush X (v := 57) dX7_figures_14 (by decide) ?_
    refine vs_callSp X  (As := [.int x3, .int 48, .int 57]) (st' := []) (mtX7_in hl0 x3 48 57) (va_cwS 3 X.2.2.2.2.1 gX7_figures_X7_in rfl rfl rfl (by decide +kernel) ⟨Nat.le_of_ble_eq_true rfl, Nat.le_of_ble_eq_true rfl⟩) rfl (Nat.le_of_ble_eq_true rfl) dX7_figures_16 ⟨Nat.le_of_ble_eq_true rfl, Nat.le_of_ble_eq_true rfl⟩ (fun x4 hx4 => ?_)
    refine vs_if_ne X (tgt := 24) dX7_figures_19 (by decide) (fun _ => ?_) (fun _ => ?_)
    · refine vs_iconst X (v := 0) dX7_figures_22 (by decide) ?_
      exact vs_zret X dX7_figures_23 (by decide) (by decide)
    · refine vs_aload_n X dX7_figures_24 0 rfl ?_
      refine g_Mod  X hinX7 19 (by decide) (by decide +kernel) rfl rfl dX7_figures_25 ?_
      refine vs_iload_n X dX7_figures_28 2 rfl ?_
      refine vs_iconst X (v := 0) dX7_figures_29 (by decide) ?_
      refine vs_iast X (by decide) (by decide) (fun _ => rfl) dX7_figures_30 (fun S5 hS5 => ?_)
      refine vs_iconst X (v := 0) dX7_figures_31 (by decide) ?_
      refine vs_istore X (lv' := [(4, .int 0), (0, rf G 166), (1, .int p1), (2, .int p2), (3, .int p3)]) dX7_figures_32 (by decide) rfl ?_
      have L6 : ∀ (f : Nat) (v4 : Int32) (S7 : Wo), VS G p l e ({ frames := 2, cells := 0, slots := 0, locals := 41 } : Room) s m args below meth c 5 (fun r => MQ below (QI G r) args s 0 0 (Af G)) (lpX7_figures_34 p1 p2 p3 f v4 S7) 0 0 S7 34 [(0, rf G 166), (1, .int p1), (2, .int p2), (3, .int p3), (4, .int v4)] [] := by
        intro f
        induction f with
        | zero => intro v4 S7; exact vs_none rfl
        | succ f ih =>
            intro v4 S7
            rw [lpX7_figures_34]
            refine vs_iload X dX7_figures_34 4 rfl ?_
            refine vs_iload_n X dX7_figures_36 3 rfl ?_
            refine vs_icmp_ge X (tgt := 93) dX7_figures_37 (by decide) (fun _ => ?_) (fun _ => ?_)
            · refine vs_iconst X (v := 1) dX7_figures_93 (by decide) ?_
              exact vs_zret X dX7_figures_94 (by decide) (by decide)
            · refine vs_aload_n X dX7_figures_40 0 rfl ?_
              refine vs_callVp X  (As := []) (st' := []) (mtX7_here hl0 ) (cwV 0 X.2.2.2.2.1 gX7_figures_X7_here rfl rfl rfl (by decide +kernel) ⟨Nat.le_of_ble_eq_true rfl, Nat.le_of_ble_eq_true rfl⟩) (by decide) (by decide) rfl rfl rfl (Nat.le_of_ble_eq_true rfl) dX7_figures_41 ⟨Nat.le_of_ble_eq_true rfl, Nat.le_of_ble_eq_true rfl⟩ (fun x8 hx8 => ?_)
              refine vs_bipush X (v := 48) dX7_figures_44 (by decide) ?_
              refine vs_bipush X (v := 57) dX7_figures_46 (by decide) ?_
              refine vs_callSp X  (As := [.int x8, .int 48, .int 57]) (st' := []) (mtX7_in hl0 x8 48 57) (va_cwS 3 X.2.2.2.2.1 gX7_figures_X7_in rfl rfl rfl (by decide +kernel) ⟨Nat.le_of_ble_eq_true rfl, Nat.le_of_ble_eq_true rfl⟩) rfl (Nat.le_of_ble_eq_true rfl) dX7_figures_48 ⟨Nat.le_of_ble_eq_true rfl, Nat.le_of_ble_eq_true rfl⟩ (fun x9 hx9 => ?_)
              refine vs_if_eq X (tgt := 93) dX7_figures_51 (by decide) (fun _ => ?_) (fun _ => ?_)
              · refine vs_iconst X (v := 1) dX7_figures_93 (by decide) ?_
                exact vs_zret X dX7_figures_94 (by decide) (by decide)
              · refine vs_aload_n X dX7_figures_54 0 rfl ?_
                refine g_Mod  X hinX7 19 (by decide) (by decide +kernel) rfl rfl dX7_figures_55 ?_
                refine vs_iload_n X dX7_figures_58 2 rfl ?_
                refine vs_bipush X (v := 10) dX7_figures_59 (by decide) ?_
                refine vs_aload_n X dX7_figures_61 0 rfl ?_
                refine g_Mod  X hinX7 19 (by decide) (by decide +kernel) rfl rfl dX7_figures_62 ?_
                refine vs_iload_n X dX7_figures_65 2 rfl ?_
                refine vs_iald X (by decide) (by decide) rfl dX7_figures_66 ?_
                refine vs_imul X dX7_figures_67 ?_
                refine vs_aload_n X dX7_figures_68 0 rfl ?_
                refine vs_callVp X  (As := []) (st' := [.int (10 * (S7.2.1 174 (ix p2))), .int p2, rf G 174]) (mtX7_here hl0 ) (cwV 0 X.2.2.2.2.1 gX7_figures_X7_here rfl rfl rfl (by decide +kernel) ⟨Nat.le_of_ble_eq_true rfl, Nat.le_of_ble_eq_true rfl⟩) (by decide) (by decide) rfl rfl rfl (Nat.le_of_ble_eq_true rfl) dX7_figures_69 ⟨Nat.le_of_ble_eq_true rfl, Nat.le_of_ble_eq_true rfl⟩ (fun x10 hx10 => ?_)
                refine vs_iadd X dX7_figures_72 ?_
                refine vs_bipush X (v := 48) dX7_figures_73 (by decide) ?_
                refine vs_isub X dX7_figures_75 ?_
                refine vs_iast X (by decide) (by decide) (fun _ => rfl) dX7_figures_76 (fun S11 hS11 => ?_)
                refine vs_aload_n X dX7_figures_77 0 rfl ?_
                refine vs_dup X dX7_figures_78 rfl ?_
                refine g_Mod  X hinX7 18 (by decide) (by decide +kernel) rfl rfl dX7_figures_79 ?_
                refine vs_iconst X (v := 1) dX7_figures_82 (by decide) ?_
                refine vs_iadd X dX7_figures_83 ?_
                refine p_Mod  X hinX7 18 (by decide) (by decide +kernel) rfl rfl rfl rfl rfl rfl dX7_figures_84 (fun S12 hS12 => ?_)
                refine vs_iinc X (v := (v4 + 1)) (lv' := [(4, .int (v4 + 1)), (0, rf G 166), (1, .int p1), (2, .int p2), (3, .int p3)]) dX7_figures_87 4 rfl rfl (by decide) rfl ?_
                refine vs_goto X (tgt := 34) dX7_figures_90 (by decide) ?_
                refine vs_sub [1, 2, 3, 4, 0] (lv' := [(0, rf G 166), (1, .int p1), (2, .int p2), (3, .int p3), (4, .int (v4 + 1))]) rfl ?_
                exact ih (v4 + 1) S12
      refine vs_sub [1, 2, 3, 4, 0] (lv' := [(0, rf G 166), (1, .int p1), (2, .int p2), (3, .int p3), (4, .int 0)]) rfl ?_
      exact L6 200 0 S5

def spX7_withR (p1 : Int32) (S : Wo) : Option (Int32 × Wo) :=
  bd2 (spX7_skips 111 S) (fun x1 S2 => (if x1 = 0 then bd2 (spX7_skips 101 S2) (fun x3 S4 => (if x3 = 0 then rz 0 (fun y => some (y, S4)) else bd2 (spX7_skips 118 S4) (fun x5 S6 => (if x5 = 0 then bd2 (spX7_isWord 3 17 S6) (fun x7 S8 => (if x7 = 0 then rz 0 (fun y => some (y, S8)) else bd2 (spX7_figures 32 p1 1 S8) (fun x9 S10 => (if x9 = 0 then rz 0 (fun y => some (y, S10)) else rz 1 (fun y => some (y, S10)))))) else bd2 (spX7_isWord 2 16 S6) (fun x11 S12 => (if x11 = 0 then rz 0 (fun y => some (y, S12)) else bd2 (spX7_figures 32 p1 1 S12) (fun x13 S14 => (if x13 = 0 then rz 0 (fun y => some (y, S14)) else rz 1 (fun y => some (y, S14)))))))))) else bd2 (spX7_isWord 4 15 S2) (fun x15 S16 => (if x15 = 0 then rz 0 (fun y => some (y, S16)) else bd2 (spX7_figures 32 p1 1 S16) (fun x17 S18 => (if x17 = 0 then rz 0 (fun y => some (y, S18)) else bd2 (spX7_figures 32 (p1 + 1) 2 S18) (fun x19 S20 => (if x19 = 0 then rz 0 (fun y => some (y, S20)) else rz 1 (fun y => some (y, S20))))))))))
set_option maxHeartbeats 4000000 in
set_option maxRecDepth 100000 in
theorem mtX7_withR {l : Launch} (hl0 : l.stackTraces = false) {G : Gt} (p1 : Int32) {S : Wo} : ∀ rr, spX7_withR p1 S = some rr → MI l yX7_withR wsX7_withR { frames := 5, cells := 0, slots := 0, locals := 108 } G S [rf G 166, .int p1] rr 0 0 := by
  refine MI_of (cc := cX7_withR) (own := RX7) (maxL := 2) (ret := (some .boolean)) (sp := spX7_withR p1 S) (by decide +kernel) rfl rfl (Nat.le_of_ble_eq_true rfl) ?_
  intro p e s m args below meth c X
  show VS G p l e _ s m args below meth c 2 _ _ 0 0 S 0 [(0, rf G 166), (1, .int p1)] []
  unfold spX7_withR
  refine vs_aload_n X dX7_withR_0 0 rfl ?_
  refine vs_bipush X (v := 111) dX7_withR_1 (by decide) ?_
  refine vs_callVi X  (As := [.int 111]) (st' := []) (mtX7_skips hl0 111) (cwV 1 X.2.2.2.2.1 gX7_withR_X7_skips rfl rfl rfl (by decide +kernel) ⟨Nat.le_of_ble_eq_true rfl, Nat.le_of_ble_eq_true rfl⟩) (by decide) (by decide) rfl rfl rfl (Nat.le_of_ble_eq_true rfl) dX7_withR_3 ⟨Nat.le_of_ble_eq_true rfl, Nat.le_of_ble_eq_true rfl⟩ (fun x1 S2 hx1 => ?_)
  refine vs_if_eq X (tgt := 49) dX7_withR_6 (by decide) (fun _ => ?_) (fun _ => ?_)
  · refine vs_aload_n X dX7_withR_49 0 rfl ?_
    refine vs_bipush X (v := 101) dX7_withR_50 (by decide) ?_
    refine vs_callVi X  (As := [.int 101]) (st' := []) (mtX7_skips hl0 101) (cwV 1 X.2.2.2.2.1 gX7_withR_X7_skips rfl rfl rfl (by decide +kernel) ⟨Nat.le_of_ble_eq_true rfl, Nat.le_of_ble_eq_true rfl⟩) (by decide) (by decide) rfl rfl rfl (Nat.le_of_ble_eq_true rfl) dX7_withR_52 ⟨Nat.le_of_ble_eq_true rfl, Nat.le_of_ble_eq_true rfl⟩ (fun x3 S4 hx3 => ?_)
    refine vs_if_ne X (tgt := 60) dX7_withR_55 (by decide) (fun _ => ?_) (fun _ => ?_)
    · refine vs_iconst X (v := 0) dX7_withR_58 (by decide) ?_
      exact vs_zret X dX7_withR_59 (by decide) (by decide)
    · refine vs_aload_n X dX7_withR_60 0 rfl ?_
      refine vs_bipush X (v := 118) dX7_withR_61 (by decide) ?_
      refine vs_callVi X  (As := [.int 118]) (st' := []) (mtX7_skips hl0 118) (cwV 1 X.2.2.2.2.1 gX7_withR_X7_skips rfl rfl rfl (by decide +kernel) ⟨Nat.le_of_ble_eq_true rfl, Nat.le_of_ble_eq_true rfl⟩) (by decide) (by decide) rfl rfl rfl (Nat.le_of_ble_eq_true rfl) dX7_withR_63 ⟨Nat.le_of_ble_eq_true rfl, Nat.le_of_ble_eq_true rfl⟩ (fun x5 S6 hx5 => ?_)
      refine vs_if_eq X (tgt := 98) dX7_withR_66 (by decide) (fun _ => ?_) (fun _ => ?_)
      · refine vs_aload_n X dX7_withR_98 0 rfl ?_
        refine vs_iconst X (v := 3) dX7_withR_99 (by decide) ?_
        refine vs_ldcs (si := 17) X (by decide) rfl dX7_withR_100 ?_
        refine vs_callVi X  (As := [.int 3, .ref (sad G 17)]) (st' := []) (mtX7_isWord hl0 3 (by decide)) (cwV 2 X.2.2.2.2.1 gX7_withR_X7_isWord rfl rfl rfl (by decide +kernel) ⟨Nat.le_of_ble_eq_true rfl, Nat.le_of_ble_eq_true rfl⟩) (by decide) (by decide) rfl rfl rfl (Nat.le_of_ble_eq_true rfl) dX7_withR_102 ⟨Nat.le_of_ble_eq_true rfl, Nat.le_of_ble_eq_true rfl⟩ (fun x7 S8 hx7 => ?_)
        refine vs_if_eq X (tgt := 123) dX7_withR_105 (by decide) (fun _ => ?_) (fun _ => ?_)
        · refine vs_iconst X (v := 0) dX7_withR_123 (by decide) ?_
          exact vs_zret X dX7_withR_124 (by decide) (by decide)
        · refine vs_aload_n X dX7_withR_108 0 rfl ?_
          refine vs_bipush X (v := 32) dX7_withR_109 (by decide) ?_
          refine vs_iload_n X dX7_withR_111 1 rfl ?_
          refine vs_iconst X (v := 1) dX7_withR_112 (by decide) ?_
          refine vs_callVi X  (As := [.int 32, .int p1, .int 1]) (st' := []) (mtX7_figures hl0 32 p1 1) (cwV 3 X.2.2.2.2.1 gX7_withR_X7_figures rfl rfl rfl (by decide +kernel) ⟨Nat.le_of_ble_eq_true rfl, Nat.le_of_ble_eq_true rfl⟩) (by decide) (by decide) rfl rfl rfl (Nat.le_of_ble_eq_true rfl) dX7_withR_113 ⟨Nat.le_of_ble_eq_true rfl, Nat.le_of_ble_eq_true rfl⟩ (fun x9 S10 hx9 => ?_)
          refine vs_if_eq X (tgt := 123) dX7_withR_116 (by decide) (fun _ => ?_) (fun _ => ?_)
          · refine vs_iconst X (v := 0) dX7_withR_123 (by decide) ?_
            exact vs_zret X dX7_withR_124 (by decide) (by decide)
          · refine vs_iconst X (v := 1) dX7_withR_119 (by decide) ?_
            refine vs_goto X (tgt := 124) dX7_withR_120 (by decide) ?_
            exact vs_zret X dX7_withR_124 (by decide) (by decide)
      · refine vs_aload_n X dX7_withR_69 0 rfl ?_
        refine vs_iconst X (v := 2) dX7_withR_70 (by decide) ?_
        refine vs_ldcs (si := 16) X (by decide) rfl dX7_withR_71 ?_
        refine vs_callVi X  (As := [.int 2, .ref (sad G 16)]) (st' := []) (mtX7_isWord hl0 2 (by decide)) (cwV 2 X.2.2.2.2.1 gX7_withR_X7_isWord rfl rfl rfl (by decide +kernel) ⟨Nat.le_of_ble_eq_true rfl, Nat.le_of_ble_eq_true rfl⟩) (by decide) (by decide) rfl rfl rfl (Nat.le_of_ble_eq_true rfl) dX7_withR_73 ⟨Nat.le_of_ble_eq_true rfl, Nat.le_of_ble_eq_true rfl⟩ (fun x11 S12 hx11 => ?_)
        refine vs_if_eq X (tgt := 94) dX7_withR_76 (by decide) (fun _ => ?_) (fun _ => ?_)
        · refine vs_iconst X (v := 0) dX7_withR_94 (by decide) ?_
          refine vs_goto X (tgt := 124) dX7_withR_95 (by decide) ?_
          exact vs_zret X dX7_withR_124 (by decide) (by decide)
        · refine vs_aload_n X dX7_withR_79 0 rfl ?_
          refine vs_bipush X (v := 32) dX7_withR_80 (by decide) ?_
          refine vs_iload_n X dX7_withR_82 1 rfl ?_
          refine vs_iconst X (v := 1) dX7_withR_83 (by decide) ?_
          refine vs_callVi X  (As := [.int 32, .int p1, .int 1]) (st' := []) (mtX7_figures hl0 32 p1 1) (cwV 3 X.2.2.2.2.1 gX7_withR_X7_figures rfl rfl rfl (by decide +kernel) ⟨Nat.le_of_ble_eq_true rfl, Nat.le_of_ble_eq_true rfl⟩) (by decide) (by decide) rfl rfl rfl (Nat.le_of_ble_eq_true rfl) dX7_withR_84 ⟨Nat.le_of_ble_eq_true rfl, Nat.le_of_ble_eq_true rfl⟩ (fun x13 S14 hx13 => ?_)
          refine vs_if_eq X (tgt := 94) dX7_withR_87 (by decide) (fun _ => ?_) (fun _ => ?_)
          · refine vs_iconst X (v := 0) dX7_withR_94 (by decide) ?_
            refine vs_goto X (tgt := 124) dX7_withR_95 (by decide) ?_
            exact vs_zret X dX7_withR_124 (by decide) (by decide)
          · refine vs_iconst X (v := 1) dX7_withR_90 (by decide) ?_
            refine vs_goto X (tgt := 124) dX7_withR_91 (by decide) ?_
            exact vs_zret X dX7_withR_124 (by decide) (by decide)
  · refine vs_aload_n X dX7_withR_9 0 rfl ?_
    refine vs_iconst X (v := 4) dX7_withR_10 (by decide) ?_
    refine vs_ldcs (si := 15) X (by decide) rfl dX7_withR_11 ?_
    refine vs_callVi X  (As := [.int 4, .ref (sad G 15)]) (st' := []) (mtX7_isWord hl0 4 (by decide)) (cwV 2 X.2.2.2.2.1 gX7_withR_X7_isWord rfl rfl rfl (by decide +kernel) ⟨Nat.le_of_ble_eq_true rfl, Nat.le_of_ble_eq_true rfl⟩) (by decide) (by decide) rfl rfl rfl (Nat.le_of_ble_eq_true rfl) dX7_withR_13 ⟨Nat.le_of_ble_eq_true rfl, Nat.le_of_ble_eq_true rfl⟩ (fun x15 S16 hx15 => ?_)
    refine vs_if_eq X (tgt := 47) dX7_withR_16 (by decide) (fun _ => ?_) (fun _ => ?_)
    · refine vs_iconst X (v := 0) dX7_withR_47 (by decide) ?_
      exact vs_zret X dX7_withR_48 (by decide) (by decide)
    · refine vs_aload_n X dX7_withR_19 0 rfl ?_
      refine vs_bipush X (v := 32) dX7_withR_20 (by decide) ?_
      refine vs_iload_n X dX7_withR_22 1 rfl ?_
      refine vs_iconst X (v := 1) dX7_withR_23 (by decide) ?_
      refine vs_callVi X  (As := [.int 32, .int p1, .int 1]) (st' := []) (mtX7_figures hl0 32 p1 1) (cwV 3 X.2.2.2.2.1 gX7_withR_X7_figures rfl rfl rfl (by decide +kernel) ⟨Nat.le_of_ble_eq_true rfl, Nat.le_of_ble_eq_true rfl⟩) (by decide) (by decide) rfl rfl rfl (Nat.le_of_ble_eq_true rfl) dX7_withR_24 ⟨Nat.le_of_ble_eq_true rfl, Nat.le_of_ble_eq_true rfl⟩ (fun x17 S18 hx17 => ?_)
      refine vs_if_eq X (tgt := 47) dX7_withR_27 (by decide) (fun _ => ?_) (fun _ => ?_)
      · refine vs_iconst X (v := 0) dX7_withR_47 (by decide) ?_
        exact vs_zret X dX7_withR_48 (by decide) (by decide)
      · refine vs_aload_n X dX7_withR_30 0 rfl ?_
        refine vs_bipush X (v := 32) dX7_withR_31 (by decide) ?_
        refine vs_iload_n X dX7_withR_33 1 rfl ?_
        refine vs_iconst X (v := 1) dX7_withR_34 (by decide) ?_
        refine vs_iadd X dX7_withR_35 ?_
        refine vs_iconst X (v := 2) dX7_withR_36 (by decide) ?_
        refine vs_callVi X  (As := [.int 32, .int (p1 + 1), .int 2]) (st' := []) (mtX7_figures hl0 32 (p1 + 1) 2) (cwV 3 X.2.2.2.2.1 gX7_withR_X7_figures rfl rfl rfl (by decide +kernel) ⟨Nat.le_of_ble_eq_true rfl, Nat.le_of_ble_eq_true rfl⟩) (by decide) (by decide) rfl rfl rfl (Nat.le_of_ble_eq_true rfl) dX7_withR_37 ⟨Nat.le_of_ble_eq_true rfl, Nat.le_of_ble_eq_true rfl⟩ (fun x19 S20 hx19 => ?_)
        refine vs_if_eq X (tgt := 47) dX7_withR_40 (by decide) (fun _ => ?_) (fun _ => ?_)
        · refine vs_iconst X (v := 0) dX7_withR_47 (by decide) ?_
          exact vs_zret X dX7_withR_48 (by decide) (by decide)
        · refine vs_iconst X (v := 1) dX7_withR_43 (by decide) ?_
          refine vs_goto X (tgt := 48) dX7_withR_44 (by decide) ?_
          exact vs_zret X dX7_withR_48 (by decide) (by decide)

def spX7_commandHere  (S : Wo) : Option (Int32 × Wo) :=
  bd2 (spX7_skips 112 S) (fun x1 S2 => (if x1 = 0 then bd2 (spX7_skips 109 S2) (fun x3 S4 => (if x3 = 0 then bd2 (spX7_skips 114 S4) (fun x5 S6 => (if x5 = 0 then bd2 (spX7_skips 105 S6) (fun x7 S8 => (if x7 = 0 then bd2 (spX7_skips 100 S8) (fun x9 S10 => (if x9 = 0 then bd2 (spX7_skips 115 S10) (fun x11 S12 => (if x11 = 0 then bd2 (spX7_skips 119 S12) (fun x13 S14 => (if x13 = 0 then rz 0 (fun y => some (y, S14)) else bd2 (spX7_isWord 8 23 S14) (fun x15 S16 => (if x15 = 0 then rz 0 (fun y => some (y, S16)) else bd2 (spX7_figures 32 ((4 * S.1 166 20) + 1) 2 S16) (fun x17 S18 => (if x17 = 0 then rz 0 (fun y => some (y, S18)) else rz 1 (fun y => some (y, S18)))))))) else bd2 (spX7_isWord 7 22 S12) (fun x19 S20 => (if x19 = 0 then rz 0 (fun y => some (y, S20)) else bd2 (spX7_figures 32 ((4 * S.1 166 20) + 1) 2 S20) (fun x21 S22 => (if x21 = 0 then rz 0 (fun y => some (y, S22)) else bd2 (spX7_figures 32 (((4 * S.1 166 20) + 1) + 1) 2 S22) (fun x23 S24 => (if x23 = 0 then rz 0 (fun y => some (y, S24)) else rz 1 (fun y => some (y, S24)))))))))) else bd2 (spX7_isWord 6 21 S10) (fun x25 S26 => (if x25 = 0 then rz 0 (fun y => some (y, S26)) else bd2 (spX7_figures 32 ((4 * S.1 166 20) + 1) 2 S26) (fun x27 S28 => (if x27 = 0 then rz 0 (fun y => some (y, S28)) else rz 1 (fun y => some (y, S28)))))))) else bd2 (spX7_isWord 5 20 S8) (fun x29 S30 => (if x29 = 0 then rz 0 (fun y => some (y, S30)) else bd2 (spX7_figures 32 ((4 * S.1 166 20) + 1) 1 S30) (fun x31 S32 => (if x31 = 0 then rz 0 (fun y => some (y, S32)) else bd2 (spX7_figures 62 (((4 * S.1 166 20) + 1) + 1) 1 S32) (fun x33 S34 => (if x33 = 0 then rz 0 (fun y => some (y, S34)) else bd2 (spX7_figures 32 (((4 * S.1 166 20) + 1) + 2) 2 S34) (fun x35 S36 => (if x35 = 0 then rz 0 (fun y => some (y, S36)) else rz 1 (fun y => some (y, S36)))))))))))) else bd2 (spX7_withR ((4 * S.1 166 20) + 1) S6) (fun x37 S38 => rz x37 (fun y => some (y, S38))))) else bd2 (spX7_isWord 1 19 S4) (fun x39 S40 => (if x39 = 0 then rz 0 (fun y => some (y, S40)) else bd2 (spX7_figures 32 ((4 * S.1 166 20) + 1) 1 S40) (fun x41 S42 => (if x41 = 0 then rz 0 (fun y => some (y, S42)) else bd2 (spX7_figures 62 (((4 * S.1 166 20) + 1) + 1) 2 S42) (fun x43 S44 => (if x43 = 0 then rz 0 (fun y => some (y, S44)) else rz 1 (fun y => some (y, S44)))))))))) else bd2 (spX7_isWord 0 18 S2) (fun x45 S46 => (if x45 = 0 then rz 0 (fun y => some (y, S46)) else bd2 (spX7_figures 32 ((4 * S.1 166 20) + 1) 2 S46) (fun x47 S48 => (if x47 = 0 then rz 0 (fun y => some (y, S48)) else rz 1 (fun y => some (y, S48))))))))
set_option maxHeartbeats 4000000 in
set_option maxRecDepth 100000 in
theorem mtX7_commandHere {l : Launch} (hl0 : l.stackTraces = false) {G : Gt}  {S : Wo} : ∀ rr, spX7_commandHere  S = some rr → MI l yX7_commandHere wsX7_commandHere { frames := 6, cells := 0, slots := 0, locals := 129 } G S [rf G 166] rr 0 0 := by
  refine MI_of (cc := cX7_commandHere) (own := RX7) (maxL := 2) (ret := (some .boolean)) (sp := spX7_commandHere  S) (by decide +kernel) rfl rfl (Nat.le_of_ble_eq_true rfl) ?_
  intro p e s m args below meth c X
  have hinX7 : ∀ w ∈ wsX70, w ∈ wsX7_commandHere := by decide +kernel
  show VS G p l e _ s m args below meth c 2 _ _ 0 0 S 0 [(0, rf G 166)] []
  unfold spX7_commandHere
  refine vs_iconst X (v := 4) dX7_commandHere_0 (by decide) ?_
  refine vs_aload_n X dX7_commandHere_1 0 rfl ?_
  refine g_Mod  X hinX7 20 (by decide) (by decide +kernel) rfl rfl dX7_commandHere_2 ?_
  refine vs_imul X dX7_commandHere_5 ?_
  refine vs_iconst X (v := 1) dX7_commandHere_6 (by decide) ?_
  refine vs_iadd X dX7_commandHere_7 ?_
  refine vs_istore_n X (lv' := [(1, .int ((4 * S.1 166 20) + 1)), (0, rf G 166)]) dX7_commandHere_8 (by decide) rfl ?_
  refine vs_aload_n X dX7_commandHere_9 1 rfl ?_
  refine vs_bipush X (v := 112) dX7_commandHere_10 (by decide) ?_
  refine vs_callVi X  (As := [.int 112]) (st' := []) (mtX7_skips hl0 112) (cwV 1 X.2.2.2.2.1 gX7_commandHere_X7_skips rfl rfl rfl (by decide +kernel) ⟨Nat.le_of_ble_eq_true rfl, Nat.le_of_ble_eq_true rfl⟩) (by decide) (by decide) rfl rfl rfl (Nat.le_of_ble_eq_true rfl) dX7_commandHere_12 ⟨Nat.le_of_ble_eq_true rfl, Nat.le_of_ble_eq_true rfl⟩ (fun x1 S2 hx1 => ?_)
  refine vs_if_eq X (tgt := 45) dX7_commandHere_15 (by decide) (fun _ => ?_) (fun _ => ?_)
  · refine vs_aload_n X dX7_commandHere_45 1 rfl ?_
    refine vs_bipush X (v := 109) dX7_commandHere_46 (by decide) ?_
    refine vs_callVi X  (As := [.int 109]) (st' := []) (mtX7_skips hl0 109) (cwV 1 X.2.2.2.2.1 gX7_commandHere_X7_skips rfl rfl rfl (by decide +kernel) ⟨Nat.le_of_ble_eq_true rfl, Nat.le_of_ble_eq_true rfl⟩) (by decide) (by decide) rfl rfl rfl (Nat.le_of_ble_eq_true rfl) dX7_commandHere_48 ⟨Nat.le_of_ble_eq_true rfl, Nat.le_of_ble_eq_true rfl⟩ (fun x3 S4 hx3 => ?_)
    refine vs_if_eq X (tgt := 94) dX7_commandHere_51 (by decide) (fun _ => ?_) (fun _ => ?_)
    · refine vs_aload_n X dX7_commandHere_94 1 rfl ?_
      refine vs_bipush X (v := 114) dX7_commandHere_95 (by decide) ?_
      refine vs_callVi X  (As := [.int 114]) (st' := []) (mtX7_skips hl0 114) (cwV 1 X.2.2.2.2.1 gX7_commandHere_X7_skips rfl rfl rfl (by decide +kernel) ⟨Nat.le_of_ble_eq_true rfl, Nat.le_of_ble_eq_true rfl⟩) (by decide) (by decide) rfl rfl rfl (Nat.le_of_ble_eq_true rfl) dX7_commandHere_97 ⟨Nat.le_of_ble_eq_true rfl, Nat.le_of_ble_eq_true rfl⟩ (fun x5 S6 hx5 => ?_)
      refine vs_if_eq X (tgt := 109) dX7_commandHere_100 (by decide) (fun _ => ?_) (fun _ => ?_)
      · refine vs_aload_n X dX7_commandHere_109 1 rfl ?_
        refine vs_bipush X (v := 105) dX7_commandHere_110 (by decide) ?_
        refine vs_callVi X  (As := [.int 105]) (st' := []) (mtX7_skips hl0 105) (cwV 1 X.2.2.2.2.1 gX7_commandHere_X7_skips rfl rfl rfl (by decide +kernel) ⟨Nat.le_of_ble_eq_true rfl, Nat.le_of_ble_eq_true rfl⟩) (by decide) (by decide) rfl rfl rfl (Nat.le_of_ble_eq_true rfl) dX7_commandHere_112 ⟨Nat.le_of_ble_eq_true rfl, Nat.le_of_ble_eq_true rfl⟩ (fun x7 S8 hx7 => ?_)
        refine vs_if_eq X (tgt := 171) dX7_commandHere_115 (by decide) (fun _ => ?_) (fun _ => ?_)
        · refine vs_aload_n X dX7_commandHere_171 1 rfl ?_
          refine vs_bipush X (v := 100) dX7_commandHere_172 (by decide) ?_
          refine vs_callVi X  (As := [.int 100]) (st' := []) (mtX7_skips hl0 100) (cwV 1 X.2.2.2.2.1 gX7_commandHere_X7_skips rfl rfl rfl (by decide +kernel) ⟨Nat.le_of_ble_eq_true rfl, Nat.le_of_ble_eq_true rfl⟩) (by decide) (by decide) rfl rfl rfl (Nat.le_of_ble_eq_true rfl) dX7_commandHere_174 ⟨Nat.le_of_ble_eq_true rfl, Nat.le_of_ble_eq_true rfl⟩ (fun x9 S10 hx9 => ?_)
          refine vs_if_eq X (tgt := 208) dX7_commandHere_177 (by decide) (fun _ => ?_) (fun _ => ?_)
          · refine vs_aload_n X dX7_commandHere_208 1 rfl ?_
            refine vs_bipush X (v := 115) dX7_commandHere_209 (by decide) ?_
            refine vs_callVi X  (As := [.int 115]) (st' := []) (mtX7_skips hl0 115) (cwV 1 X.2.2.2.2.1 gX7_commandHere_X7_skips rfl rfl rfl (by decide +kernel) ⟨Nat.le_of_ble_eq_true rfl, Nat.le_of_ble_eq_true rfl⟩) (by decide) (by decide) rfl rfl rfl (Nat.le_of_ble_eq_true rfl) dX7_commandHere_211 ⟨Nat.le_of_ble_eq_true rfl, Nat.le_of_ble_eq_true rfl⟩ (fun x11 S12 hx11 => ?_)
            refine vs_if_eq X (tgt := 258) dX7_commandHere_214 (by decide) (fun _ => ?_) (fun _ => ?_)
            · refine vs_aload_n X dX7_commandHere_258 1 rfl ?_
              refine vs_bipush X (v := 119) dX7_commandHere_259 (by decide) ?_
              refine vs_callVi X  (As := [.int 119]) (st' := []) (mtX7_skips hl0 119) (cwV 1 X.2.2.2.2.1 gX7_commandHere_X7_skips rfl rfl rfl (by decide +kernel) ⟨Nat.le_of_ble_eq_true rfl, Nat.le_of_ble_eq_true rfl⟩) (by decide) (by decide) rfl rfl rfl (Nat.le_of_ble_eq_true rfl) dX7_commandHere_261 ⟨Nat.le_of_ble_eq_true rfl, Nat.le_of_ble_eq_true rfl⟩ (fun x13 S14 hx13 => ?_)
              refine vs_if_eq X (tgt := 293) dX7_commandHere_264 (by decide) (fun _ => ?_) (fun _ => ?_)
              · refine vs_iconst X (v := 0) dX7_commandHere_293 (by decide) ?_
                exact vs_zret X dX7_commandHere_294 (by decide) (by decide)
              · refine vs_aload_n X dX7_commandHere_267 1 rfl ?_
                refine vs_bipush X (v := 8) dX7_commandHere_268 (by decide) ?_
                refine vs_ldcs (si := 23) X (by decide) rfl dX7_commandHere_270 ?_
                refine vs_callVi X  (As := [.int 8, .ref (sad G 23)]) (st' := []) (mtX7_isWord hl0 8 (by decide)) (cwV 2 X.2.2.2.2.1 gX7_commandHere_X7_isWord rfl rfl rfl (by decide +kernel) ⟨Nat.le_of_ble_eq_true rfl, Nat.le_of_ble_eq_true rfl⟩) (by decide) (by decide) rfl rfl rfl (Nat.le_of_ble_eq_true rfl) dX7_commandHere_272 ⟨Nat.le_of_ble_eq_true rfl, Nat.le_of_ble_eq_true rfl⟩ (fun x15 S16 hx15 => ?_)
                refine vs_if_eq X (tgt := 293) dX7_commandHere_275 (by decide) (fun _ => ?_) (fun _ => ?_)
                · refine vs_iconst X (v := 0) dX7_commandHere_293 (by decide) ?_
                  exact vs_zret X dX7_commandHere_294 (by decide) (by decide)
                · refine vs_aload_n X dX7_commandHere_278 1 rfl ?_
                  refine vs_bipush X (v := 32) dX7_commandHere_279 (by decide) ?_
                  refine vs_iload_n X dX7_commandHere_281 0 rfl ?_
                  refine vs_iconst X (v := 2) dX7_commandHere_282 (by decide) ?_
                  refine vs_callVi X  (As := [.int 32, .int ((4 * S.1 166 20) + 1), .int 2]) (st' := []) (mtX7_figures hl0 32 ((4 * S.1 166 20) + 1) 2) (cwV 3 X.2.2.2.2.1 gX7_commandHere_X7_figures rfl rfl rfl (by decide +kernel) ⟨Nat.le_of_ble_eq_true rfl, Nat.le_of_ble_eq_true rfl⟩) (by decide) (by decide) rfl rfl rfl (Nat.le_of_ble_eq_true rfl) dX7_commandHere_283 ⟨Nat.le_of_ble_eq_true rfl, Nat.le_of_ble_eq_true rfl⟩ (fun x17 S18 hx17 => ?_)
                  refine vs_if_eq X (tgt := 293) dX7_commandHere_286 (by decide) (fun _ => ?_) (fun _ => ?_)
                  · refine vs_iconst X (v := 0) dX7_commandHere_293 (by decide) ?_
                    exact vs_zret X dX7_commandHere_294 (by decide) (by decide)
                  · refine vs_iconst X (v := 1) dX7_commandHere_289 (by decide) ?_
                    refine vs_goto X (tgt := 294) dX7_commandHere_290 (by decide) ?_
                    exact vs_zret X dX7_commandHere_294 (by decide) (by decide)
            · refine vs_aload_n X dX7_commandHere_217 1 rfl ?_
              refine vs_bipush X (v := 7) dX7_commandHere_218 (by decide) ?_
              refine vs_ldcs (si := 22) X (by decide) rfl dX7_commandHere_220 ?_
              refine vs_callVi X  (As := [.int 7, .ref (sad G 22)]) (st' := []) (mtX7_isWord hl0 7 (by decide)) (cwV 2 X.2.2.2.2.1 gX7_commandHere_X7_isWord rfl rfl rfl (by decide +kernel) ⟨Nat.le_of_ble_eq_true rfl, Nat.le_of_ble_eq_true rfl⟩) (by decide) (by decide) rfl rfl rfl (Nat.le_of_ble_eq_true rfl) dX7_commandHere_222 ⟨Nat.le_of_ble_eq_true rfl, Nat.le_of_ble_eq_true rfl⟩ (fun x19 S20 hx19 => ?_)
              refine vs_if_eq X (tgt := 256) dX7_commandHere_225 (by decide) (fun _ => ?_) (fun _ => ?_)
              · refine vs_iconst X (v := 0) dX7_commandHere_256 (by decide) ?_
                exact vs_zret X dX7_commandHere_257 (by decide) (by decide)
              · refine vs_aload_n X dX7_commandHere_228 1 rfl ?_
                refine vs_bipush X (v := 32) dX7_commandHere_229 (by decide) ?_
                refine vs_iload_n X dX7_commandHere_231 0 rfl ?_
                refine vs_iconst X (v := 2) dX7_commandHere_232 (by decide) ?_
                refine vs_callVi X  (As := [.int 32, .int ((4 * S.1 166 20) + 1), .int 2]) (st' := []) (mtX7_figures hl0 32 ((4 * S.1 166 20) + 1) 2) (cwV 3 X.2.2.2.2.1 gX7_commandHere_X7_figures rfl rfl rfl (by decide +kernel) ⟨Nat.le_of_ble_eq_true rfl, Nat.le_of_ble_eq_true rfl⟩) (by decide) (by decide) rfl rfl rfl (Nat.le_of_ble_eq_true rfl) dX7_commandHere_233 ⟨Nat.le_of_ble_eq_true rfl, Nat.le_of_ble_eq_true rfl⟩ (fun x21 S22 hx21 => ?_)
                refine vs_if_eq X (tgt := 256) dX7_commandHere_236 (by decide) (fun _ => ?_) (fun _ => ?_)
                · refine vs_iconst X (v := 0) dX7_commandHere_256 (by decide) ?_
                  exact vs_zret X dX7_commandHere_257 (by decide) (by decide)
                · refine vs_aload_n X dX7_commandHere_239 1 rfl ?_
                  refine vs_bipush X (v := 32) dX7_commandHere_240 (by decide) ?_
                  refine vs_iload_n X dX7_commandHere_242 0 rfl ?_
                  refine vs_iconst X (v := 1) dX7_commandHere_243 (by decide) ?_
                  refine vs_iadd X dX7_commandHere_244 ?_
                  refine vs_iconst X (v := 2) dX7_commandHere_245 (by decide) ?_
                  refine vs_callVi X  (As := [.int 32, .int (((4 * S.1 166 20) + 1) + 1), .int 2]) (st' := []) (mtX7_figures hl0 32 (((4 * S.1 166 20) + 1) + 1) 2) (cwV 3 X.2.2.2.2.1 gX7_commandHere_X7_figures rfl rfl rfl (by decide +kernel) ⟨Nat.le_of_ble_eq_true rfl, Nat.le_of_ble_eq_true rfl⟩) (by decide) (by decide) rfl rfl rfl (Nat.le_of_ble_eq_true rfl) dX7_commandHere_246 ⟨Nat.le_of_ble_eq_true rfl, Nat.le_of_ble_eq_true rfl⟩ (fun x23 S24 hx23 => ?_)
                  refine vs_if_eq X (tgt := 256) dX7_commandHere_249 (by decide) (fun _ => ?_) (fun _ => ?_)
                  · refine vs_iconst X (v := 0) dX7_commandHere_256 (by decide) ?_
                    exact vs_zret X dX7_commandHere_257 (by decide) (by decide)
                  · refine vs_iconst X (v := 1) dX7_commandHere_252 (by decide) ?_
                    refine vs_goto X (tgt := 257) dX7_commandHere_253 (by decide) ?_
                    exact vs_zret X dX7_commandHere_257 (by decide) (by decide)
          · refine vs_aload_n X dX7_commandHere_180 1 rfl ?_
            refine vs_bipush X (v := 6) dX7_commandHere_181 (by decide) ?_
            refine vs_ldcs (si := 21) X (by decide) rfl dX7_commandHere_183 ?_
            refine vs_callVi X  (As := [.int 6, .ref (sad G 21)]) (st' := []) (mtX7_isWord hl0 6 (by decide)) (cwV 2 X.2.2.2.2.1 gX7_commandHere_X7_isWord rfl rfl rfl (by decide +kernel) ⟨Nat.le_of_ble_eq_true rfl, Nat.le_of_ble_eq_true rfl⟩) (by decide) (by decide) rfl rfl rfl (Nat.le_of_ble_eq_true rfl) dX7_commandHere_185 ⟨Nat.le_of_ble_eq_true rfl, Nat.le_of_ble_eq_true rfl⟩ (fun x25 S26 hx25 => ?_)
            refine vs_if_eq X (tgt := 206) dX7_commandHere_188 (by decide) (fun _ => ?_) (fun _ => ?_)
            · refine vs_iconst X (v := 0) dX7_commandHere_206 (by decide) ?_
              exact vs_zret X dX7_commandHere_207 (by decide) (by decide)
            · refine vs_aload_n X dX7_commandHere_191 1 rfl ?_
              refine vs_bipush X (v := 32) dX7_commandHere_192 (by decide) ?_
              refine vs_iload_n X dX7_commandHere_194 0 rfl ?_
              refine vs_iconst X (v := 2) dX7_commandHere_195 (by decide) ?_
              refine vs_callVi X  (As := [.int 32, .int ((4 * S.1 166 20) + 1), .int 2]) (st' := []) (mtX7_figures hl0 32 ((4 * S.1 166 20) + 1) 2) (cwV 3 X.2.2.2.2.1 gX7_commandHere_X7_figures rfl rfl rfl (by decide +kernel) ⟨Nat.le_of_ble_eq_true rfl, Nat.le_of_ble_eq_true rfl⟩) (by decide) (by decide) rfl rfl rfl (Nat.le_of_ble_eq_true rfl) dX7_commandHere_196 ⟨Nat.le_of_ble_eq_true rfl, Nat.le_of_ble_eq_true rfl⟩ (fun x27 S28 hx27 => ?_)
              refine vs_if_eq X (tgt := 206) dX7_commandHere_199 (by decide) (fun _ => ?_) (fun _ => ?_)
              · refine vs_iconst X (v := 0) dX7_commandHere_206 (by decide) ?_
                exact vs_zret X dX7_commandHere_207 (by decide) (by decide)
              · refine vs_iconst X (v := 1) dX7_commandHere_202 (by decide) ?_
                refine vs_goto X (tgt := 207) dX7_commandHere_203 (by decide) ?_
                exact vs_zret X dX7_commandHere_207 (by decide) (by decide)
        · refine vs_aload_n X dX7_commandHere_118 1 rfl ?_
          refine vs_iconst X (v := 5) dX7_commandHere_119 (by decide) ?_
          refine vs_ldcs (si := 20) X (by decide) rfl dX7_commandHere_120 ?_
          refine vs_callVi X  (As := [.int 5, .ref (sad G 20)]) (st' := []) (mtX7_isWord hl0 5 (by decide)) (cwV 2 X.2.2.2.2.1 gX7_commandHere_X7_isWord rfl rfl rfl (by decide +kernel) ⟨Nat.le_of_ble_eq_true rfl, Nat.le_of_ble_eq_true rfl⟩) (by decide) (by decide) rfl rfl rfl (Nat.le_of_ble_eq_true rfl) dX7_commandHere_122 ⟨Nat.le_of_ble_eq_true rfl, Nat.le_of_ble_eq_true rfl⟩ (fun x29 S30 hx29 => ?_)
          refine vs_if_eq X (tgt := 169) dX7_commandHere_125 (by decide) (fun _ => ?_) (fun _ => ?_)
          · refine vs_iconst X (v := 0) dX7_commandHere_169 (by decide) ?_
            exact vs_zret X dX7_commandHere_170 (by decide) (by decide)
          · refine vs_aload_n X dX7_commandHere_128 1 rfl ?_
            refine vs_bipush X (v := 32) dX7_commandHere_129 (by decide) ?_
            refine vs_iload_n X dX7_commandHere_131 0 rfl ?_
            refine vs_iconst X (v := 1) dX7_commandHere_132 (by decide) ?_
            refine vs_callVi X  (As := [.int 32, .int ((4 * S.1 166 20) + 1), .int 1]) (st' := []) (mtX7_figures hl0 32 ((4 * S.1 166 20) + 1) 1) (cwV 3 X.2.2.2.2.1 gX7_commandHere_X7_figures rfl rfl rfl (by decide +kernel) ⟨Nat.le_of_ble_eq_true rfl, Nat.le_of_ble_eq_true rfl⟩) (by decide) (by decide) rfl rfl rfl (Nat.le_of_ble_eq_true rfl) dX7_commandHere_133 ⟨Nat.le_of_ble_eq_true rfl, Nat.le_of_ble_eq_true rfl⟩ (fun x31 S32 hx31 => ?_)
            refine vs_if_eq X (tgt := 169) dX7_commandHere_136 (by decide) (fun _ => ?_) (fun _ => ?_)
            · refine vs_iconst X (v := 0) dX7_commandHere_169 (by decide) ?_
              exact vs_zret X dX7_commandHere_170 (by decide) (by decide)
            · refine vs_aload_n X dX7_commandHere_139 1 rfl ?_
              refine vs_bipush X (v := 62) dX7_commandHere_140 (by decide) ?_
              refine vs_iload_n X dX7_commandHere_142 0 rfl ?_
              refine vs_iconst X (v := 1) dX7_commandHere_143 (by decide) ?_
              refine vs_iadd X dX7_commandHere_144 ?_
              refine vs_iconst X (v := 1) dX7_commandHere_145 (by decide) ?_
              refine vs_callVi X  (As := [.int 62, .int (((4 * S.1 166 20) + 1) + 1), .int 1]) (st' := []) (mtX7_figures hl0 62 (((4 * S.1 166 20) + 1) + 1) 1) (cwV 3 X.2.2.2.2.1 gX7_commandHere_X7_figures rfl rfl rfl (by decide +kernel) ⟨Nat.le_of_ble_eq_true rfl, Nat.le_of_ble_eq_true rfl⟩) (by decide) (by decide) rfl rfl rfl (Nat.le_of_ble_eq_true rfl) dX7_commandHere_146 ⟨Nat.le_of_ble_eq_true rfl, Nat.le_of_ble_eq_true rfl⟩ (fun x33 S34 hx33 => ?_)
              refine vs_if_eq X (tgt := 169) dX7_commandHere_149 (by decide) (fun _ => ?_) (fun _ => ?_)
              · refine vs_iconst X (v := 0) dX7_commandHere_169 (by decide) ?_
                exact vs_zret X dX7_commandHere_170 (by decide) (by decide)
              · refine vs_aload_n X dX7_commandHere_152 1 rfl ?_
                refine vs_bipush X (v := 32) dX7_commandHere_153 (by decide) ?_
                refine vs_iload_n X dX7_commandHere_155 0 rfl ?_
                refine vs_iconst X (v := 2) dX7_commandHere_156 (by decide) ?_
                refine vs_iadd X dX7_commandHere_157 ?_
                refine vs_iconst X (v := 2) dX7_commandHere_158 (by decide) ?_
                refine vs_callVi X  (As := [.int 32, .int (((4 * S.1 166 20) + 1) + 2), .int 2]) (st' := []) (mtX7_figures hl0 32 (((4 * S.1 166 20) + 1) + 2) 2) (cwV 3 X.2.2.2.2.1 gX7_commandHere_X7_figures rfl rfl rfl (by decide +kernel) ⟨Nat.le_of_ble_eq_true rfl, Nat.le_of_ble_eq_true rfl⟩) (by decide) (by decide) rfl rfl rfl (Nat.le_of_ble_eq_true rfl) dX7_commandHere_159 ⟨Nat.le_of_ble_eq_true rfl, Nat.le_of_ble_eq_true rfl⟩ (fun x35 S36 hx35 => ?_)
                refine vs_if_eq X (tgt := 169) dX7_commandHere_162 (by decide) (fun _ => ?_) (fun _ => ?_)
                · refine vs_iconst X (v := 0) dX7_commandHere_169 (by decide) ?_
                  exact vs_zret X dX7_commandHere_170 (by decide) (by decide)
                · refine vs_iconst X (v := 1) dX7_commandHere_165 (by decide) ?_
                  refine vs_goto X (tgt := 170) dX7_commandHere_166 (by decide) ?_
                  exact vs_zret X dX7_commandHere_170 (by decide) (by decide)
      · refine vs_aload_n X dX7_commandHere_103 1 rfl ?_
        refine vs_iload_n X dX7_commandHere_104 0 rfl ?_
        refine vs_callVi X  (As := [.int ((4 * S.1 166 20) + 1)]) (st' := []) (mtX7_withR hl0 ((4 * S.1 166 20) + 1)) (cwV 1 X.2.2.2.2.1 gX7_commandHere_X7_withR rfl rfl rfl (by decide +kernel) ⟨Nat.le_of_ble_eq_true rfl, Nat.le_of_ble_eq_true rfl⟩) (by decide) (by decide) rfl rfl rfl (Nat.le_of_ble_eq_true rfl) dX7_commandHere_105 ⟨Nat.le_of_ble_eq_true rfl, Nat.le_of_ble_eq_true rfl⟩ (fun x37 S38 hx37 => ?_)
        exact vs_zret X dX7_commandHere_108 (by decide) (by decide)
    · refine vs_aload_n X dX7_commandHere_54 1 rfl ?_
      refine vs_iconst X (v := 1) dX7_commandHere_55 (by decide) ?_
      refine vs_ldcs (si := 19) X (by decide) rfl dX7_commandHere_56 ?_
      refine vs_callVi X  (As := [.int 1, .ref (sad G 19)]) (st' := []) (mtX7_isWord hl0 1 (by decide)) (cwV 2 X.2.2.2.2.1 gX7_commandHere_X7_isWord rfl rfl rfl (by decide +kernel) ⟨Nat.le_of_ble_eq_true rfl, Nat.le_of_ble_eq_true rfl⟩) (by decide) (by decide) rfl rfl rfl (Nat.le_of_ble_eq_true rfl) dX7_commandHere_58 ⟨Nat.le_of_ble_eq_true rfl, Nat.le_of_ble_eq_true rfl⟩ (fun x39 S40 hx39 => ?_)
      refine vs_if_eq X (tgt := 92) dX7_commandHere_61 (by decide) (fun _ => ?_) (fun _ => ?_)
      · refine vs_iconst X (v := 0) dX7_commandHere_92 (by decide) ?_
        exact vs_zret X dX7_commandHere_93 (by decide) (by decide)
      · refine vs_aload_n X dX7_commandHere_64 1 rfl ?_
        refine vs_bipush X (v := 32) dX7_commandHere_65 (by decide) ?_
        refine vs_iload_n X dX7_commandHere_67 0 rfl ?_
        refine vs_iconst X (v := 1) dX7_commandHere_68 (by decide) ?_
        refine vs_callVi X  (As := [.int 32, .int ((4 * S.1 166 20) + 1), .int 1]) (st' := []) (mtX7_figures hl0 32 ((4 * S.1 166 20) + 1) 1) (cwV 3 X.2.2.2.2.1 gX7_commandHere_X7_figures rfl rfl rfl (by decide +kernel) ⟨Nat.le_of_ble_eq_true rfl, Nat.le_of_ble_eq_true rfl⟩) (by decide) (by decide) rfl rfl rfl (Nat.le_of_ble_eq_true rfl) dX7_commandHere_69 ⟨Nat.le_of_ble_eq_true rfl, Nat.le_of_ble_eq_true rfl⟩ (fun x41 S42 hx41 => ?_)
        refine vs_if_eq X (tgt := 92) dX7_commandHere_72 (by decide) (fun _ => ?_) (fun _ => ?_)
        · refine vs_iconst X (v := 0) dX7_commandHere_92 (by decide) ?_
          exact vs_zret X dX7_commandHere_93 (by decide) (by decide)
        · refine vs_aload_n X dX7_commandHere_75 1 rfl ?_
          refine vs_bipush X (v := 62) dX7_commandHere_76 (by decide) ?_
          refine vs_iload_n X dX7_commandHere_78 0 rfl ?_
          refine vs_iconst X (v := 1) dX7_commandHere_79 (by decide) ?_
          refine vs_iadd X dX7_commandHere_80 ?_
          refine vs_iconst X (v := 2) dX7_commandHere_81 (by decide) ?_
          refine vs_callVi X  (As := [.int 62, .int (((4 * S.1 166 20) + 1) + 1), .int 2]) (st' := []) (mtX7_figures hl0 62 (((4 * S.1 166 20) + 1) + 1) 2) (cwV 3 X.2.2.2.2.1 gX7_commandHere_X7_figures rfl rfl rfl (by decide +kernel) ⟨Nat.le_of_ble_eq_true rfl, Nat.le_of_ble_eq_true rfl⟩) (by decide) (by decide) rfl rfl rfl (Nat.le_of_ble_eq_true rfl) dX7_commandHere_82 ⟨Nat.le_of_ble_eq_true rfl, Nat.le_of_ble_eq_true rfl⟩ (fun x43 S44 hx43 => ?_)
          refine vs_if_eq X (tgt := 92) dX7_commandHere_85 (by decide) (fun _ => ?_) (fun _ => ?_)
          · refine vs_iconst X (v := 0) dX7_commandHere_92 (by decide) ?_
            exact vs_zret X dX7_commandHere_93 (by decide) (by decide)
          · refine vs_iconst X (v := 1) dX7_commandHere_88 (by decide) ?_
            refine vs_goto X (tgt := 93) dX7_commandHere_89 (by decide) ?_
            exact vs_zret X dX7_commandHere_93 (by decide) (by decide)
  · refine vs_aload_n X dX7_commandHere_18 1 rfl ?_
    refine vs_iconst X (v := 0) dX7_commandHere_19 (by decide) ?_
    refine vs_ldcs (si := 18) X (by decide) rfl dX7_commandHere_20 ?_
    refine vs_callVi X  (As := [.int 0, .ref (sad G 18)]) (st' := []) (mtX7_isWord hl0 0 (by decide)) (cwV 2 X.2.2.2.2.1 gX7_commandHere_X7_isWord rfl rfl rfl (by decide +kernel) ⟨Nat.le_of_ble_eq_true rfl, Nat.le_of_ble_eq_true rfl⟩) (by decide) (by decide) rfl rfl rfl (Nat.le_of_ble_eq_true rfl) dX7_commandHere_22 ⟨Nat.le_of_ble_eq_true rfl, Nat.le_of_ble_eq_true rfl⟩ (fun x45 S46 hx45 => ?_)
    refine vs_if_eq X (tgt := 43) dX7_commandHere_25 (by decide) (fun _ => ?_) (fun _ => ?_)
    · refine vs_iconst X (v := 0) dX7_commandHere_43 (by decide) ?_
      exact vs_zret X dX7_commandHere_44 (by decide) (by decide)
    · refine vs_aload_n X dX7_commandHere_28 1 rfl ?_
      refine vs_bipush X (v := 32) dX7_commandHere_29 (by decide) ?_
      refine vs_iload_n X dX7_commandHere_31 0 rfl ?_
      refine vs_iconst X (v := 2) dX7_commandHere_32 (by decide) ?_
      refine vs_callVi X  (As := [.int 32, .int ((4 * S.1 166 20) + 1), .int 2]) (st' := []) (mtX7_figures hl0 32 ((4 * S.1 166 20) + 1) 2) (cwV 3 X.2.2.2.2.1 gX7_commandHere_X7_figures rfl rfl rfl (by decide +kernel) ⟨Nat.le_of_ble_eq_true rfl, Nat.le_of_ble_eq_true rfl⟩) (by decide) (by decide) rfl rfl rfl (Nat.le_of_ble_eq_true rfl) dX7_commandHere_33 ⟨Nat.le_of_ble_eq_true rfl, Nat.le_of_ble_eq_true rfl⟩ (fun x47 S48 hx47 => ?_)
      refine vs_if_eq X (tgt := 43) dX7_commandHere_36 (by decide) (fun _ => ?_) (fun _ => ?_)
      · refine vs_iconst X (v := 0) dX7_commandHere_43 (by decide) ?_
        exact vs_zret X dX7_commandHere_44 (by decide) (by decide)
      · refine vs_iconst X (v := 1) dX7_commandHere_39 (by decide) ?_
        refine vs_goto X (tgt := 44) dX7_commandHere_40 (by decide) ?_
        exact vs_zret X dX7_commandHere_44 (by decide) (by decide)

def lpX7_isText_10    : Nat → Wo → Option (Int32 × Wo)
  | 0, _ => none
  | f + 1, S4 => bd2 (spX7_commandHere  S4) (fun x5 S6 => (if x5 = 0 then rz 0 (fun y => some (y, S6)) else wr (pI S6 166 20 (S6.1 166 20 + 1)) (fun S7 => bd2 (spX7_skips 59 S7) (fun x8 S9 => (if x8 = 0 then (if S9.1 166 18 = S9.1 166 14 then rz 1 (fun y => some (y, S9)) else rz 0 (fun y => some (y, S9))) else lpX7_isText_10  f S9)))))
def spX7_isText  (S : Wo) : Option (Int32 × Wo) :=
  wr (pI S 166 18 0) (fun S1 => wr (pI S1 166 20 0) (fun S2 => lpX7_isText_10  200 S2))
set_option maxHeartbeats 4000000 in
set_option maxRecDepth 100000 in
theorem mtX7_isText {l : Launch} (hl0 : l.stackTraces = false) {G : Gt}  {S : Wo} : ∀ rr, spX7_isText  S = some rr → MI l yX7_isText wsX7_isText { frames := 7, cells := 0, slots := 0, locals := 150 } G S [rf G 166] rr 0 0 := by
  refine MI_of (cc := cX7_isText) (own := RX7) (maxL := 1) (ret := (some .boolean)) (sp := spX7_isText  S) (by decide +kernel) rfl rfl (Nat.le_of_ble_eq_true rfl) ?_
  intro p e s m args below meth c X
  have hinX7 : ∀ w ∈ wsX70, w ∈ wsX7_isText := by decide +kernel
  show VS G p l e _ s m args below meth c 1 _ _ 0 0 S 0 [(0, rf G 166)] []
  unfold spX7_isText
  refine vs_aload_n X dX7_isText_0 0 rfl ?_
  refine vs_iconst X (v := 0) dX7_isText_1 (by decide) ?_
  refine p_Mod  X hinX7 18 (by decide) (by decide +kernel) rfl rfl rfl rfl rfl rfl dX7_isText_2 (fun S1 hS1 => ?_)
  refine vs_aload_n X dX7_isText_5 0 rfl ?_
  refine vs_iconst X (v := 0) dX7_isText_6 (by decide) ?_
  refine p_Mod  X hinX7 20 (by decide) (by decide +kernel) rfl rfl rfl rfl rfl rfl dX7_isText_7 (fun S2 hS2 => ?_)
  have L3 : ∀ (f : Nat) (S4 : Wo), VS G p l e ({ frames := 7, cells := 0, slots := 0, locals := 150 } : Room) s m args below meth c 1 (fun r => MQ below (QI G r) args s 0 0 (Af G)) (lpX7_isText_10  f S4) 0 0 S4 10 [(0, rf G 166)] [] := by
    intro f
    induction f with
    | zero => intro  S4; exact vs_none rfl
    | succ f ih =>
        intro  S4
        rw [lpX7_isText_10]
        refine vs_aload_n X dX7_isText_10 0 rfl ?_
        refine vs_callVi X  (As := []) (st' := []) (mtX7_commandHere hl0 ) (cwV 0 X.2.2.2.2.1 gX7_isText_X7_commandHere rfl rfl rfl (by decide +kernel) ⟨Nat.le_of_ble_eq_true rfl, Nat.le_of_ble_eq_true rfl⟩) (by decide) (by decide) rfl rfl rfl (Nat.le_of_ble_eq_true rfl) dX7_isText_11 ⟨Nat.le_of_ble_eq_true rfl, Nat.le_of_ble_eq_true rfl⟩ (fun x5 S6 hx5 => ?_)
        refine vs_if_ne X (tgt := 19) dX7_isText_14 (by decide) (fun _ => ?_) (fun _ => ?_)
        · refine vs_iconst X (v := 0) dX7_isText_17 (by decide) ?_
          exact vs_zret X dX7_isText_18 (by decide) (by decide)
        · refine vs_aload_n X dX7_isText_19 0 rfl ?_
          refine vs_dup X dX7_isText_20 rfl ?_
          refine g_Mod  X hinX7 20 (by decide) (by decide +kernel) rfl rfl dX7_isText_21 ?_
          refine vs_iconst X (v := 1) dX7_isText_24 (by decide) ?_
          refine vs_iadd X dX7_isText_25 ?_
          refine p_Mod  X hinX7 20 (by decide) (by decide +kernel) rfl rfl rfl rfl rfl rfl dX7_isText_26 (fun S7 hS7 => ?_)
          refine vs_aload_n X dX7_isText_29 0 rfl ?_
          refine vs_bipush X (v := 59) dX7_isText_30 (by decide) ?_
          refine vs_callVi X  (As := [.int 59]) (st' := []) (mtX7_skips hl0 59) (cwV 1 X.2.2.2.2.1 gX7_isText_X7_skips rfl rfl rfl (by decide +kernel) ⟨Nat.le_of_ble_eq_true rfl, Nat.le_of_ble_eq_true rfl⟩) (by decide) (by decide) rfl rfl rfl (Nat.le_of_ble_eq_true rfl) dX7_isText_32 ⟨Nat.le_of_ble_eq_true rfl, Nat.le_of_ble_eq_true rfl⟩ (fun x8 S9 hx8 => ?_)
          refine vs_if_ne X (tgt := 10) dX7_isText_35 (by decide) (fun _ => ?_) (fun _ => ?_)
          · refine vs_aload_n X dX7_isText_38 0 rfl ?_
            refine g_Mod  X hinX7 18 (by decide) (by decide +kernel) rfl rfl dX7_isText_39 ?_
            refine vs_aload_n X dX7_isText_42 0 rfl ?_
            refine g_Mod  X hinX7 14 (by decide) (by decide +kernel) rfl rfl dX7_isText_43 ?_
            refine vs_icmp_ne X (tgt := 53) dX7_isText_46 (by decide) (fun _ => ?_) (fun _ => ?_)
            · refine vs_iconst X (v := 1) dX7_isText_49 (by decide) ?_
              refine vs_goto X (tgt := 54) dX7_isText_50 (by decide) ?_
              exact vs_zret X dX7_isText_54 (by decide) (by decide)
            · refine vs_iconst X (v := 0) dX7_isText_53 (by decide) ?_
              exact vs_zret X dX7_isText_54 (by decide) (by decide)
          · refine vs_sub [0] (lv' := [(0, rf G 166)]) rfl ?_
            exact ih  S9
  refine vs_sub [0] (lv' := [(0, rf G 166)]) rfl ?_
  exact L3 200 S2

def spX7_carries (p1 : Int32) (S : Wo) : Option (Int32 × Wo) :=
  (if inb (p1 + 1) 124 = true then (if inb (p1 + 2) 124 = true then (if inb p1 124 = true then (if (S.2.1 174 (ix p1)) = 0 then bd2 (spX7_register (S.2.1 174 (ix (p1 + 1))) S) (fun x2 S3 => some (x2, S3)) else (if (S.2.1 174 (ix p1)) = 1 then bd2 (spX7_move (S.2.1 174 (ix (p1 + 1))) (S.2.1 174 (ix (p1 + 2))) S) (fun x5 S6 => some (x5, S6)) else (if (S.2.1 174 (ix p1)) = 2 then bd2 (spX7_setRevoked (S.2.1 174 (ix (p1 + 1))) 1 S) (fun x8 S9 => some (x8, S9)) else (if (S.2.1 174 (ix p1)) = 3 then bd2 (spX7_setRevoked (S.2.1 174 (ix (p1 + 1))) 0 S) (fun x11 S12 => some (x11, S12)) else (if (S.2.1 174 (ix p1)) = 4 then bd2 (spX7_issueByRegistry (S.2.1 174 (ix (p1 + 1))) (S.2.1 174 (ix (p1 + 2))) S) (fun x14 S15 => some (x14, S15)) else (if (S.2.1 174 (ix p1)) = 5 then (if inb (p1 + 3) 124 = true then bd2 (spX7_issue (S.2.1 174 (ix (p1 + 1))) (S.2.1 174 (ix (p1 + 2))) (S.2.1 174 (ix (p1 + 3))) S) (fun x17 S18 => some (x17, S18)) else none) else (if (S.2.1 174 (ix p1)) = 6 then bd2 (spX7_withdraw (S.2.1 174 (ix (p1 + 1))) S) (fun x20 S21 => some (x20, S21)) else (if (S.2.1 174 (ix p1)) = 7 then bd2 (spX7_sow (S.2.1 174 (ix (p1 + 1))) (S.2.1 174 (ix (p1 + 2))) S) (fun x23 S24 => some (x23, S24)) else bd2 (spX7_pass (S.2.1 174 (ix (p1 + 1))) S) (fun x25 S26 => some (x25, S26)))))))))) else none) else none) else none)
set_option maxHeartbeats 4000000 in
set_option maxRecDepth 100000 in
theorem mtX7_carries {l : Launch} (hl0 : l.stackTraces = false) {G : Gt} (p1 : Int32) {S : Wo} : ∀ rr, spX7_carries p1 S = some rr → MI l yX7_carries wsX7_carries { frames := 7, cells := 0, slots := 0, locals := 159 } G S [rf G 166, .int p1] rr 0 0 := by
  refine MI_of (cc := cX7_carries) (own := RX7) (maxL := 4) (ret := (some .int)) (sp := spX7_carries p1 S) (by decide +kernel) rfl rfl (Nat.le_of_ble_eq_true rfl) ?_
  intro p e s m args below meth c X
  have hinX7 : ∀ w ∈ wsX70, w ∈ wsX7_carries := by decide +kernel
  show VS G p l e _ s m args below meth c 4 _ _ 0 0 S 0 [(0, rf G 166), (1, .int p1)] []
  unfold spX7_carries
  refine vs_aload_n X dX7_carries_0 0 rfl ?_
  refine g_Mod  X hinX7 19 (by decide) (by decide +kernel) rfl rfl dX7_carries_1 ?_
  refine vs_iload_n X dX7_carries_4 1 rfl ?_
  refine vs_iconst X (v := 1) dX7_carries_5 (by decide) ?_
  refine vs_iadd X dX7_carries_6 ?_
  refine vs_iald X (by decide) (by decide) rfl dX7_carries_7 ?_
  refine vs_istore_n X (lv' := [(2, .int (S.2.1 174 (ix (p1 + 1)))), (0, rf G 166), (1, .int p1)]) dX7_carries_8 (by decide) rfl ?_
  refine vs_aload_n X dX7_carries_9 1 rfl ?_
  refine g_Mod  X hinX7 19 (by decide) (by decide +kernel) rfl rfl dX7_carries_10 ?_
  refine vs_iload_n X dX7_carries_13 2 rfl ?_
  refine vs_iconst X (v := 2) dX7_carries_14 (by decide) ?_
  refine vs_iadd X dX7_carries_15 ?_
  refine vs_iald X (by decide) (by decide) rfl dX7_carries_16 ?_
  refine vs_istore_n X (lv' := [(3, .int (S.2.1 174 (ix (p1 + 2)))), (2, .int (S.2.1 174 (ix (p1 + 1)))), (0, rf G 166), (1, .int p1)]) dX7_carries_17 (by decide) rfl ?_
  refine vs_aload_n X dX7_carries_18 2 rfl ?_
  refine g_Mod  X hinX7 19 (by decide) (by decide +kernel) rfl rfl dX7_carries_19 ?_
  refine vs_iload_n X dX7_carries_22 3 rfl ?_
  refine vs_iald X (by decide) (by decide) rfl dX7_carries_23 ?_
  refine vs_tab X (v := 0) (off := 48) (tgt := 72) dX7_carries_24 (by decide) (by decide) (by decide) (by decide) (fun _ => ?_) (fun n1 => ?_)
  · refine vs_aload_n X dX7_carries_72 2 rfl ?_
    refine vs_iload_n X dX7_carries_73 1 rfl ?_
    refine vs_callVi X  (As := [.int (S.2.1 174 (ix (p1 + 1)))]) (st' := []) (mtX7_register hl0 (S.2.1 174 (ix (p1 + 1)))) (cwV 1 X.2.2.2.2.1 gX7_carries_X7_register rfl rfl rfl (by decide +kernel) ⟨Nat.le_of_ble_eq_true rfl, Nat.le_of_ble_eq_true rfl⟩) (by decide) (by decide) rfl rfl rfl (Nat.le_of_ble_eq_true rfl) dX7_carries_74 ⟨Nat.le_of_ble_eq_true rfl, Nat.le_of_ble_eq_true rfl⟩ (fun x2 S3 hx2 => ?_)
    exact vs_iret X dX7_carries_77 (by decide) (by decide)
  refine vs_tab X (v := 1) (off := 54) (tgt := 78) dX7_carries_24 (by decide) (by decide) (by decide) (by decide) (fun _ => ?_) (fun n4 => ?_)
  · refine vs_aload_n X dX7_carries_78 2 rfl ?_
    refine vs_iload_n X dX7_carries_79 1 rfl ?_
    refine vs_iload_n X dX7_carries_80 0 rfl ?_
    refine vs_callVi X  (As := [.int (S.2.1 174 (ix (p1 + 1))), .int (S.2.1 174 (ix (p1 + 2)))]) (st' := []) (mtX7_move hl0 (S.2.1 174 (ix (p1 + 1))) (S.2.1 174 (ix (p1 + 2)))) (cwV 2 X.2.2.2.2.1 gX7_carries_X7_move rfl rfl rfl (by decide +kernel) ⟨Nat.le_of_ble_eq_true rfl, Nat.le_of_ble_eq_true rfl⟩) (by decide) (by decide) rfl rfl rfl (Nat.le_of_ble_eq_true rfl) dX7_carries_81 ⟨Nat.le_of_ble_eq_true rfl, Nat.le_of_ble_eq_true rfl⟩ (fun x5 S6 hx5 => ?_)
    exact vs_iret X dX7_carries_84 (by decide) (by decide)
  refine vs_tab X (v := 2) (off := 61) (tgt := 85) dX7_carries_24 (by decide) (by decide) (by decide) (by decide) (fun _ => ?_) (fun n7 => ?_)
  · refine vs_aload_n X dX7_carries_85 2 rfl ?_
    refine vs_iload_n X dX7_carries_86 1 rfl ?_
    refine vs_iconst X (v := 1) dX7_carries_87 (by decide) ?_
    refine vs_callVi X  (As := [.int (S.2.1 174 (ix (p1 + 1))), .int 1]) (st' := []) (mtX7_setRevoked hl0 (S.2.1 174 (ix (p1 + 1))) 1) (cwV 2 X.2.2.2.2.1 gX7_carries_X7_setRevoked rfl rfl rfl (by decide +kernel) ⟨Nat.le_of_ble_eq_true rfl, Nat.le_of_ble_eq_true rfl⟩) (by decide) (by decide) rfl rfl rfl (Nat.le_of_ble_eq_true rfl) dX7_carries_88 ⟨Nat.le_of_ble_eq_true rfl, Nat.le_of_ble_eq_true rfl⟩ (fun x8 S9 hx8 => ?_)
    exact vs_iret X dX7_carries_91 (by decide) (by decide)
  refine vs_tab X (v := 3) (off := 68) (tgt := 92) dX7_carries_24 (by decide) (by decide) (by decide) (by decide) (fun _ => ?_) (fun n10 => ?_)
  · refine vs_aload_n X dX7_carries_92 2 rfl ?_
    refine vs_iload_n X dX7_carries_93 1 rfl ?_
    refine vs_iconst X (v := 0) dX7_carries_94 (by decide) ?_
    refine vs_callVi X  (As := [.int (S.2.1 174 (ix (p1 + 1))), .int 0]) (st' := []) (mtX7_setRevoked hl0 (S.2.1 174 (ix (p1 + 1))) 0) (cwV 2 X.2.2.2.2.1 gX7_carries_X7_setRevoked rfl rfl rfl (by decide +kernel) ⟨Nat.le_of_ble_eq_true rfl, Nat.le_of_ble_eq_true rfl⟩) (by decide) (by decide) rfl rfl rfl (Nat.le_of_ble_eq_true rfl) dX7_carries_95 ⟨Nat.le_of_ble_eq_true rfl, Nat.le_of_ble_eq_true rfl⟩ (fun x11 S12 hx11 => ?_)
    exact vs_iret X dX7_carries_98 (by decide) (by decide)
  refine vs_tab X (v := 4) (off := 75) (tgt := 99) dX7_carries_24 (by decide) (by decide) (by decide) (by decide) (fun _ => ?_) (fun n13 => ?_)
  · refine vs_aload_n X dX7_carries_99 2 rfl ?_
    refine vs_iload_n X dX7_carries_100 1 rfl ?_
    refine vs_iload_n X dX7_carries_101 0 rfl ?_
    refine vs_callVi X  (As := [.int (S.2.1 174 (ix (p1 + 1))), .int (S.2.1 174 (ix (p1 + 2)))]) (st' := []) (mtX7_issueByRegistry hl0 (S.2.1 174 (ix (p1 + 1))) (S.2.1 174 (ix (p1 + 2)))) (cwV 2 X.2.2.2.2.1 gX7_carries_X7_issueByRegistry rfl rfl rfl (by decide +kernel) ⟨Nat.le_of_ble_eq_true rfl, Nat.le_of_ble_eq_true rfl⟩) (by decide) (by decide) rfl rfl rfl (Nat.le_of_ble_eq_true rfl) dX7_carries_102 ⟨Nat.le_of_ble_eq_true rfl, Nat.le_of_ble_eq_true rfl⟩ (fun x14 S15 hx14 => ?_)
    exact vs_iret X dX7_carries_105 (by decide) (by decide)
  refine vs_tab X (v := 5) (off := 82) (tgt := 106) dX7_carries_24 (by decide) (by decide) (by decide) (by decide) (fun _ => ?_) (fun n16 => ?_)
  · refine vs_aload_n X dX7_carries_106 2 rfl ?_
    refine vs_iload_n X dX7_carries_107 1 rfl ?_
    refine vs_iload_n X dX7_carries_108 0 rfl ?_
    refine vs_aload_n X dX7_carries_109 2 rfl ?_
    refine g_Mod  X hinX7 19 (by decide) (by decide +kernel) rfl rfl dX7_carries_110 ?_
    refine vs_iload_n X dX7_carries_113 3 rfl ?_
    refine vs_iconst X (v := 3) dX7_carries_114 (by decide) ?_
    refine vs_iadd X dX7_carries_115 ?_
    refine vs_iald X (by decide) (by decide) rfl dX7_carries_116 ?_
    refine vs_callVi X  (As := [.int (S.2.1 174 (ix (p1 + 1))), .int (S.2.1 174 (ix (p1 + 2))), .int (S.2.1 174 (ix (p1 + 3)))]) (st' := []) (mtX7_issue hl0 (S.2.1 174 (ix (p1 + 1))) (S.2.1 174 (ix (p1 + 2))) (S.2.1 174 (ix (p1 + 3)))) (cwV 3 X.2.2.2.2.1 gX7_carries_X7_issue rfl rfl rfl (by decide +kernel) ⟨Nat.le_of_ble_eq_true rfl, Nat.le_of_ble_eq_true rfl⟩) (by decide) (by decide) rfl rfl rfl (Nat.le_of_ble_eq_true rfl) dX7_carries_117 ⟨Nat.le_of_ble_eq_true rfl, Nat.le_of_ble_eq_true rfl⟩ (fun x17 S18 hx17 => ?_)
    exact vs_iret X dX7_carries_120 (by decide) (by decide)
  refine vs_tab X (v := 6) (off := 97) (tgt := 121) dX7_carries_24 (by decide) (by decide) (by decide) (by decide) (fun _ => ?_) (fun n19 => ?_)
  · refine vs_aload_n X dX7_carries_121 2 rfl ?_
    refine vs_iload_n X dX7_carries_122 1 rfl ?_
    refine vs_callVi X  (As := [.int (S.2.1 174 (ix (p1 + 1)))]) (st' := []) (mtX7_withdraw hl0 (S.2.1 174 (ix (p1 + 1)))) (cwV 1 X.2.2.2.2.1 gX7_carries_X7_withdraw rfl rfl rfl (by decide +kernel) ⟨Nat.le_of_ble_eq_true rfl, Nat.le_of_ble_eq_true rfl⟩) (by decide) (by decide) rfl rfl rfl (Nat.le_of_ble_eq_true rfl) dX7_carries_123 ⟨Nat.le_of_ble_eq_true rfl, Nat.le_of_ble_eq_true rfl⟩ (fun x20 S21 hx20 => ?_)
    exact vs_iret X dX7_carries_126 (by decide) (by decide)
  refine vs_tab X (v := 7) (off := 103) (tgt := 127) dX7_carries_24 (by decide) (by decide) (by decide) (by decide) (fun _ => ?_) (fun n22 => ?_)
  · refine vs_aload_n X dX7_carries_127 2 rfl ?_
    refine vs_iload_n X dX7_carries_128 1 rfl ?_
    refine vs_iload_n X dX7_carries_129 0 rfl ?_
    refine vs_callVi X  (As := [.int (S.2.1 174 (ix (p1 + 1))), .int (S.2.1 174 (ix (p1 + 2)))]) (st' := []) (mtX7_sow hl0 (S.2.1 174 (ix (p1 + 1))) (S.2.1 174 (ix (p1 + 2)))) (cwV 2 X.2.2.2.2.1 gX7_carries_X7_sow rfl rfl rfl (by decide +kernel) ⟨Nat.le_of_ble_eq_true rfl, Nat.le_of_ble_eq_true rfl⟩) (by decide) (by decide) rfl rfl rfl (Nat.le_of_ble_eq_true rfl) dX7_carries_130 ⟨Nat.le_of_ble_eq_true rfl, Nat.le_of_ble_eq_true rfl⟩ (fun x23 S24 hx23 => ?_)
    exact vs_iret X dX7_carries_133 (by decide) (by decide)
  refine vs_tabD X (tgt := 134) dX7_carries_24 (tab_out [0, 1, 2, 3, 4, 5, 6, 7] ⟨n1, n4, n7, n10, n13, n16, n19, n22, trivial⟩ (by decide)) (by decide) ?_
  refine vs_aload_n X dX7_carries_134 2 rfl ?_
  refine vs_iload_n X dX7_carries_135 1 rfl ?_
  refine vs_callVi X  (As := [.int (S.2.1 174 (ix (p1 + 1)))]) (st' := []) (mtX7_pass hl0 (S.2.1 174 (ix (p1 + 1)))) (cwV 1 X.2.2.2.2.1 gX7_carries_X7_pass rfl rfl rfl (by decide +kernel) ⟨Nat.le_of_ble_eq_true rfl, Nat.le_of_ble_eq_true rfl⟩) (by decide) (by decide) rfl rfl rfl (Nat.le_of_ble_eq_true rfl) dX7_carries_136 ⟨Nat.le_of_ble_eq_true rfl, Nat.le_of_ble_eq_true rfl⟩ (fun x25 S26 hx25 => ?_)
  exact vs_iret X dX7_carries_139 (by decide) (by decide)

def spX7_deniesText (p1 : Int32) (S : Wo) : Option (Int32 × Wo) :=
  jn (β := Int32 → Option (Int32 × Wo)) (fun (x1 : Int32) => bd2 (spX7_denies 2 6 p1 S) (fun x3 S4 => wr (pI S4 166 12 x1) (fun S5 => some (0, S5)))) (fun k2 => (if S.1 166 8 = 0 then k2 7 else k2 (S.1 166 10)))
set_option maxHeartbeats 4000000 in
set_option maxRecDepth 100000 in
theorem mtX7_deniesText {l : Launch} (hl0 : l.stackTraces = false) {G : Gt} (p1 : Int32) {S : Wo} : ∀ rr, spX7_deniesText p1 S = some rr → MI l yX7_deniesText wsX7_deniesText { frames := 1, cells := 0, slots := 0, locals := 23 } G S [rf G 166, .int p1] rr 0 0 := by
  refine MI_of (cc := cX7_deniesText) (own := RX7) (maxL := 3) (ret := (some .int)) (sp := spX7_deniesText p1 S) (by decide +kernel) rfl rfl (Nat.le_of_ble_eq_true rfl) ?_
  intro p e s m args below meth c X
  have hinX7 : ∀ w ∈ wsX70, w ∈ wsX7_deniesText := by decide +kernel
  show VS G p l e _ s m args below meth c 3 _ _ 0 0 S 0 [(0, rf G 166), (1, .int p1)] []
  unfold spX7_deniesText
  refine vs_aload_n X dX7_deniesText_0 0 rfl ?_
  refine g_Mod  X hinX7 8 (by decide) (by decide +kernel) rfl rfl dX7_deniesText_1 ?_
  refine vs_jn (β := Int32 → Option (Int32 × Wo)) (P := fun k2 => ∀ (x1 : Int32), VS G p l e ({ frames := 1, cells := 0, slots := 0, locals := 23 } : Room) s m args below meth c 3 (fun r => MQ below (QI G r) args s 0 0 (Af G)) (k2 x1) 0 0 S 16 [(0, rf G 166), (1, .int p1)] [.int x1]) (fun x1 => ?_) (fun k2 hk2 => ?_)
  · refine vs_istore_n X (lv' := [(2, .int x1), (0, rf G 166), (1, .int p1)]) dX7_deniesText_16 (by decide) rfl ?_
    refine vs_aload_n X dX7_deniesText_17 1 rfl ?_
    refine vs_iconst X (v := 2) dX7_deniesText_18 (by decide) ?_
    refine vs_bipush X (v := 6) dX7_deniesText_19 (by decide) ?_
    refine vs_iload_n X dX7_deniesText_21 2 rfl ?_
    refine vs_callVi X  (As := [.int 2, .int 6, .int p1]) (st' := []) (mtX7_denies hl0 2 6 p1) (cwV 3 X.2.2.2.2.1 gX7_deniesText_X7_denies rfl rfl rfl (by decide +kernel) ⟨Nat.le_of_ble_eq_true rfl, Nat.le_of_ble_eq_true rfl⟩) (by decide) (by decide) rfl rfl rfl (Nat.le_of_ble_eq_true rfl) dX7_deniesText_22 ⟨Nat.le_of_ble_eq_true rfl, Nat.le_of_ble_eq_true rfl⟩ (fun x3 S4 hx3 => ?_)
    refine vs_pop X dX7_deniesText_25 rfl ?_
    refine vs_aload_n X dX7_deniesText_26 1 rfl ?_
    refine vs_iload_n X dX7_deniesText_27 0 rfl ?_
    refine p_Mod  X hinX7 12 (by decide) (by decide +kernel) rfl rfl rfl rfl rfl rfl dX7_deniesText_28 (fun S5 hS5 => ?_)
    refine vs_iconst X (v := 0) dX7_deniesText_31 (by decide) ?_
    exact vs_iret X dX7_deniesText_32 (by decide) (by decide)
  · refine vs_if_eq X (tgt := 14) dX7_deniesText_4 (by decide) (fun _ => ?_) (fun _ => ?_)
    · refine vs_bipush X (v := 7) dX7_deniesText_14 (by decide) ?_
      exact vs_join [0, 1] (Nat.le_of_ble_eq_true rfl) (Nat.le_of_ble_eq_true rfl) rfl (hk2 7)
    · refine vs_aload_n X dX7_deniesText_7 0 rfl ?_
      refine g_Mod  X hinX7 10 (by decide) (by decide +kernel) rfl rfl dX7_deniesText_8 ?_
      refine vs_goto X (tgt := 16) dX7_deniesText_11 (by decide) ?_
      exact vs_join [0, 1] (Nat.le_of_ble_eq_true rfl) (Nat.le_of_ble_eq_true rfl) rfl (hk2 (S.1 166 10))

def lpX7_execute_62  (w1 : Int32) (K : Int32 → Int32 → Wo → Option (Int32 × Wo)) : Nat → Int32 → Int32 → Wo → Option (Int32 × Wo)
  | 0, _, _, _ => none
  | f + 1, v2, v3, S14 => (if S14.1 166 20 ≤ v2 then K v2 v3 S14 else (if S14.1 166 9 = 0 then bd2 (spX7_carries (4 * v2) S14) (fun x15 S16 => (if S16.1 166 9 = 0 then lpX7_execute_62  w1 K f (v2 + 1) x15 S16 else lpX7_execute_62  w1 K f v2 x15 S16)) else K v2 v3 S14))
def spX7_execute  (S : Wo) : Option (Int32 × Wo) :=
  bd2 (spX7_isText  S) (fun x1 S2 => jn (β := Wo → Option (Int32 × Wo)) (fun (S4 : Wo) => wr (pI S4 166 14 0) (fun S6 => jn (β := Int32 → Option (Int32 × Wo)) (fun (x7 : Int32) => bd2 (spX7_fails x7 S6) (fun x9 S10 => (if x9 = 0 then (spX7_copies 167 112 0 170 112 0 S10).bind (fun S11 => wr (pI S11 166 7 1) (fun S12 => lpX7_execute_62  x1 (fun (u17 : Int32) (u18 : Int32) (S19 : Wo) => wr (pI S19 166 7 0) (fun S20 => (if S20.1 166 9 ≤ 0 then (spX7_keeps 170 112 S20).bind (fun S21 => some (S21.1 166 20, S21)) else (spX7_copies 170 112 0 167 112 0 S20).bind (fun S22 => bd2 (spX7_deniesText u17 S22) (fun x23 S24 => (if u18 ≤ 0 then some ((x23 + u18), S24) else some ((x23 + 0), S24))))))) 200 0 0 S12)) else some (0, S10)))) (fun k8 => (if x1 = 0 then k8 1 else k8 0)))) (fun k5 => (if x1 = 0 then wr (pI S2 166 15 (S2.1 166 18)) (fun S3 => k5 S3) else k5 S2)))
set_option maxHeartbeats 4000000 in
set_option maxRecDepth 100000 in
theorem mtX7_execute {l : Launch} (hl0 : l.stackTraces = false) {G : Gt}  {S : Wo} : ∀ rr, spX7_execute  S = some rr → MI l yX7_execute wsX7_execute { frames := 8, cells := 0, slots := 0, locals := 182 } G S [rf G 166] rr 0 0 := by
  refine MI_of (cc := cX7_execute) (own := RX7) (maxL := 4) (ret := (some .int)) (sp := spX7_execute  S) (by decide +kernel) rfl rfl (Nat.le_of_ble_eq_true rfl) ?_
  intro p e s m args below meth c X
  have hinX7 : ∀ w ∈ wsX70, w ∈ wsX7_execute := by decide +kernel
  show VS G p l e _ s m args below meth c 4 _ _ 0 0 S 0 [(0, rf G 166)] []
  unfold spX7_execute
  refine vs_aload_n X dX7_execute_0 0 rfl ?_
  refine vs_callVi X  (As := []) (st' := []) (mtX7_isText hl0 ) (cwV 0 X.2.2.2.2.1 gX7_execute_X7_isText rfl rfl rfl (by decide +kernel) ⟨Nat.le_of_ble_eq_true rfl, Nat.le_of_ble_eq_true rfl⟩) (by decide) (by decide) rfl rfl rfl (Nat.le_of_ble_eq_true rfl) dX7_execute_1 ⟨Nat.le_of_ble_eq_true rfl, Nat.le_of_ble_eq_true rfl⟩ (fun x1 S2 hx1 => ?_)
  refine vs_istore_n X (lv' := [(1, .int x1), (0, rf G 166)]) dX7_execute_4 (by decide) rfl ?_
  refine vs_iload_n X dX7_execute_5 0 rfl ?_
  refine vs_jn (β := Wo → Option (Int32 × Wo)) (P := fun k5 => ∀ (S4 : Wo), VS G p l e ({ frames := 8, cells := 0, slots := 0, locals := 182 } : Room) s m args below meth c 4 (fun r => MQ below (QI G r) args s 0 0 (Af G)) (k5 S4) 0 0 S4 17 [(0, rf G 166), (1, .int x1)] []) (fun S4 => ?_) (fun k5 hk5 => ?_)
  · refine vs_aload_n X dX7_execute_17 0 rfl ?_
    refine vs_iconst X (v := 0) dX7_execute_18 (by decide) ?_
    refine p_Mod  X hinX7 14 (by decide) (by decide +kernel) rfl rfl rfl rfl rfl rfl dX7_execute_19 (fun S6 hS6 => ?_)
    refine vs_aload_n X dX7_execute_22 0 rfl ?_
    refine vs_iload_n X dX7_execute_23 1 rfl ?_
    refine vs_jn (β := Int32 → Option (Int32 × Wo)) (P := fun k8 => ∀ (x7 : Int32), VS G p l e ({ frames := 8, cells := 0, slots := 0, locals := 182 } : Room) s m args below meth c 4 (fun r => MQ below (QI G r) args s 0 0 (Af G)) (k8 x7) 0 0 S6 32 [(0, rf G 166), (1, .int x1)] [.int x7, rf G 166]) (fun x7 => ?_) (fun k8 hk8 => ?_)
    · refine vs_callVi X  (As := [.int x7]) (st' := []) (mtX7_fails hl0 x7) (cwV 1 X.2.2.2.2.1 gX7_execute_X7_fails rfl rfl rfl (by decide +kernel) ⟨Nat.le_of_ble_eq_true rfl, Nat.le_of_ble_eq_true rfl⟩) (by decide) (by decide) rfl rfl rfl (Nat.le_of_ble_eq_true rfl) dX7_execute_32 ⟨Nat.le_of_ble_eq_true rfl, Nat.le_of_ble_eq_true rfl⟩ (fun x9 S10 hx9 => ?_)
      refine vs_if_eq X (tgt := 40) dX7_execute_35 (by decide) (fun _ => ?_) (fun _ => ?_)
      · refine vs_aload_n X dX7_execute_40 0 rfl ?_
        refine g_Mod  X hinX7 0 (by decide) (by decide +kernel) rfl rfl dX7_execute_41 ?_
        refine vs_iconst X (v := 0) dX7_execute_44 (by decide) ?_
        refine vs_aload_n X dX7_execute_45 0 rfl ?_
        refine g_Mod  X hinX7 3 (by decide) (by decide +kernel) rfl rfl dX7_execute_46 ?_
        refine vs_iconst X (v := 0) dX7_execute_49 (by decide) ?_
        refine vs_callSv X  (As := [rf G 167, .int 0, rf G 170, .int 0]) (st' := []) (mtX7_copies hl0 isIA_167 0 isIA_170 0) (va_cwS 4 X.2.2.2.2.1 gX7_execute_X7_copies rfl rfl rfl (by decide +kernel) ⟨Nat.le_of_ble_eq_true rfl, Nat.le_of_ble_eq_true rfl⟩) rfl (Nat.le_of_ble_eq_true rfl) dX7_execute_50 ⟨Nat.le_of_ble_eq_true rfl, Nat.le_of_ble_eq_true rfl⟩ (fun S11 hS11 => ?_)
        refine vs_aload_n X dX7_execute_53 0 rfl ?_
        refine vs_iconst X (v := 1) dX7_execute_54 (by decide) ?_
        refine p_Mod  X hinX7 7 (by decide) (by decide +kernel) rfl rfl rfl (by decide) (by decide) rfl dX7_execute_55 (fun S12 hS12 => ?_)
        refine vs_iconst X (v := 0) dX7_execute_58 (by decide) ?_
        refine vs_istore_n X (lv' := [(2, .int 0), (0, rf G 166), (1, .int x1)]) dX7_execute_59 (by decide) rfl ?_
        refine vs_iconst X (v := 0) dX7_execute_60 (by decide) ?_
        refine vs_istore_n X (lv' := [(3, .int 0), (2, .int 0), (0, rf G 166), (1, .int x1)]) dX7_execute_61 (by decide) rfl ?_
        have L13 : ∀ (w1 : Int32) (K : Int32 → Int32 → Wo → Option (Int32 × Wo)) (hK : ∀ (v2 : Int32) (v3 : Int32) (S14 : Wo), VS G p l e ({ frames := 8, cells := 0, slots := 0, locals := 182 } : Room) s m args below meth c 4 (fun r => MQ below (QI G r) args s 0 0 (Af G)) (K v2 v3 S14) 0 0 S14 98 [(0, rf G 166), (1, .int w1), (2, .int v2), (3, .int v3)] []) (f : Nat) (v2 : Int32) (v3 : Int32) (S14 : Wo), VS G p l e ({ frames := 8, cells := 0, slots := 0, locals := 182 } : Room) s m args below meth c 4 (fun r => MQ below (QI G r) args s 0 0 (Af G)) (lpX7_execute_62  w1 K f v2 v3 S14) 0 0 S14 62 [(0, rf G 166), (1, .int w1), (2, .int v2), (3, .int v3)] [] := by
          intro w1 K hK f
          induction f with
          | zero => intro v2 v3 S14; exact vs_none rfl
          | succ f ih =>
              intro v2 v3 S14
              rw [lpX7_execute_62]
              refine vs_iload_n X dX7_execute_62 2 rfl ?_
              refine vs_aload_n X dX7_execute_63 0 rfl ?_
              refine g_Mod  X hinX7 20 (by decide) (by decide +kernel) rfl rfl dX7_execute_64 ?_
              refine vs_icmp_ge X (tgt := 98) dX7_execute_67 (by decide) (fun _ => ?_) (fun _ => ?_)
              · refine vs_sub [0, 1, 2, 3] (lv' := [(0, rf G 166), (1, .int w1), (2, .int v2), (3, .int v3)]) rfl ?_
                exact hK v2 v3 S14
              · refine vs_aload_n X dX7_execute_70 0 rfl ?_
                refine g_Mod  X hinX7 9 (by decide) (by decide +kernel) rfl rfl dX7_execute_71 ?_
                refine vs_if_ne X (tgt := 98) dX7_execute_74 (by decide) (fun _ => ?_) (fun _ => ?_)
                · refine vs_aload_n X dX7_execute_77 0 rfl ?_
                  refine vs_iconst X (v := 4) dX7_execute_78 (by decide) ?_
                  refine vs_iload_n X dX7_execute_79 2 rfl ?_
                  refine vs_imul X dX7_execute_80 ?_
                  refine vs_callVi X  (As := [.int (4 * v2)]) (st' := []) (mtX7_carries hl0 (4 * v2)) (cwV 1 X.2.2.2.2.1 gX7_execute_X7_carries rfl rfl rfl (by decide +kernel) ⟨Nat.le_of_ble_eq_true rfl, Nat.le_of_ble_eq_true rfl⟩) (by decide) (by decide) rfl rfl rfl (Nat.le_of_ble_eq_true rfl) dX7_execute_81 ⟨Nat.le_of_ble_eq_true rfl, Nat.le_of_ble_eq_true rfl⟩ (fun x15 S16 hx15 => ?_)
                  refine vs_istore_n X (lv' := [(3, .int x15), (0, rf G 166), (1, .int w1), (2, .int v2)]) dX7_execute_84 (by decide) rfl ?_
                  refine vs_aload_n X dX7_execute_85 1 rfl ?_
                  refine g_Mod  X hinX7 9 (by decide) (by decide +kernel) rfl rfl dX7_execute_86 ?_
                  refine vs_if_ne X (tgt := 62) dX7_execute_89 (by decide) (fun _ => ?_) (fun _ => ?_)
                  · refine vs_iinc X (v := (v2 + 1)) (lv' := [(2, .int (v2 + 1)), (3, .int x15), (0, rf G 166), (1, .int w1)]) dX7_execute_92 3 rfl rfl (by decide) rfl ?_
                    refine vs_goto X (tgt := 62) dX7_execute_95 (by decide) ?_
                    refine vs_sub [2, 3, 0, 1] (lv' := [(0, rf G 166), (1, .int w1), (2, .int (v2 + 1)), (3, .int x15)]) rfl ?_
                    exact ih (v2 + 1) x15 S16
                  · refine vs_sub [1, 2, 3, 0] (lv' := [(0, rf G 166), (1, .int w1), (2, .int v2), (3, .int x15)]) rfl ?_
                    exact ih v2 x15 S16
                · refine vs_sub [0, 1, 2, 3] (lv' := [(0, rf G 166), (1, .int w1), (2, .int v2), (3, .int v3)]) rfl ?_
                  exact hK v2 v3 S14
        refine vs_sub [2, 3, 1, 0] (lv' := [(0, rf G 166), (1, .int x1), (2, .int 0), (3, .int 0)]) rfl ?_
        refine L13 x1 (fun (u17 : Int32) (u18 : Int32) (S19 : Wo) => wr (pI S19 166 7 0) (fun S20 => (if S20.1 166 9 ≤ 0 then (spX7_keeps 170 112 S20).bind (fun S21 => some (S21.1 166 20, S21)) else (spX7_copies 170 112 0 167 112 0 S20).bind (fun S22 => bd2 (spX7_deniesText u17 S22) (fun x23 S24 => (if u18 ≤ 0 then some ((x23 + u18), S24) else some ((x23 + 0), S24))))))) (fun u17 u18 S19 => ?_) 200 0 0 S12
        refine vs_aload_n X dX7_execute_98 0 rfl ?_
        refine vs_iconst X (v := 0) dX7_execute_99 (by decide) ?_
        refine p_Mod  X hinX7 7 (by decide) (by decide +kernel) rfl rfl rfl (by decide) (by decide) rfl dX7_execute_100 (fun S20 hS20 => ?_)
        refine vs_aload_n X dX7_execute_103 0 rfl ?_
        refine g_Mod  X hinX7 9 (by decide) (by decide +kernel) rfl rfl dX7_execute_104 ?_
        refine vs_if_le X (tgt := 139) dX7_execute_107 (by decide) (fun _ => ?_) (fun _ => ?_)
        · refine vs_aload_n X dX7_execute_139 0 rfl ?_
          refine vs_aload_n X dX7_execute_140 0 rfl ?_
          refine g_Mod  X hinX7 3 (by decide) (by decide +kernel) rfl rfl dX7_execute_141 ?_
          refine vs_callVv X  (As := [rf G 170]) (st' := []) (mtX7_keeps hl0 isIA_170) (cwV 1 X.2.2.2.2.1 gX7_execute_X7_keeps rfl rfl rfl (by decide +kernel) ⟨Nat.le_of_ble_eq_true rfl, Nat.le_of_ble_eq_true rfl⟩) (by decide) (by decide) rfl rfl rfl (Nat.le_of_ble_eq_true rfl) dX7_execute_144 ⟨Nat.le_of_ble_eq_true rfl, Nat.le_of_ble_eq_true rfl⟩ (fun S21 hS21 => ?_)
          refine vs_aload_n X dX7_execute_147 0 rfl ?_
          refine g_Mod  X hinX7 20 (by decide) (by decide +kernel) rfl rfl dX7_execute_148 ?_
          exact vs_iret X dX7_execute_151 (by decide) (by decide)
        · refine vs_aload_n X dX7_execute_110 0 rfl ?_
          refine g_Mod  X hinX7 3 (by decide) (by decide +kernel) rfl rfl dX7_execute_111 ?_
          refine vs_iconst X (v := 0) dX7_execute_114 (by decide) ?_
          refine vs_aload_n X dX7_execute_115 0 rfl ?_
          refine g_Mod  X hinX7 0 (by decide) (by decide +kernel) rfl rfl dX7_execute_116 ?_
          refine vs_iconst X (v := 0) dX7_execute_119 (by decide) ?_
          refine vs_callSv X  (As := [rf G 170, .int 0, rf G 167, .int 0]) (st' := []) (mtX7_copies hl0 isIA_170 0 isIA_167 0) (va_cwS 4 X.2.2.2.2.1 gX7_execute_X7_copies rfl rfl rfl (by decide +kernel) ⟨Nat.le_of_ble_eq_true rfl, Nat.le_of_ble_eq_true rfl⟩) rfl (Nat.le_of_ble_eq_true rfl) dX7_execute_120 ⟨Nat.le_of_ble_eq_true rfl, Nat.le_of_ble_eq_true rfl⟩ (fun S22 hS22 => ?_)
          refine vs_aload_n X dX7_execute_123 0 rfl ?_
          refine vs_iload_n X dX7_execute_124 2 rfl ?_
          refine vs_callVi X  (As := [.int u17]) (st' := []) (mtX7_deniesText hl0 u17) (cwV 1 X.2.2.2.2.1 gX7_execute_X7_deniesText rfl rfl rfl (by decide +kernel) ⟨Nat.le_of_ble_eq_true rfl, Nat.le_of_ble_eq_true rfl⟩) (by decide) (by decide) rfl rfl rfl (Nat.le_of_ble_eq_true rfl) dX7_execute_125 ⟨Nat.le_of_ble_eq_true rfl, Nat.le_of_ble_eq_true rfl⟩ (fun x23 S24 hx23 => ?_)
          refine vs_iload_n X dX7_execute_128 3 rfl ?_
          refine vs_if_le X (tgt := 136) dX7_execute_129 (by decide) (fun _ => ?_) (fun _ => ?_)
          · refine vs_iload_n X dX7_execute_136 3 rfl ?_
            refine vs_iadd X dX7_execute_137 ?_
            exact vs_iret X dX7_execute_138 (by decide) (by decide)
          · refine vs_iconst X (v := 0) dX7_execute_132 (by decide) ?_
            refine vs_goto X (tgt := 137) dX7_execute_133 (by decide) ?_
            refine vs_iadd X dX7_execute_137 ?_
            exact vs_iret X dX7_execute_138 (by decide) (by decide)
      · refine vs_iconst X (v := 0) dX7_execute_38 (by decide) ?_
        exact vs_iret X dX7_execute_39 (by decide) (by decide)
    · refine vs_if_eq X (tgt := 31) dX7_execute_24 (by decide) (fun _ => ?_) (fun _ => ?_)
      · refine vs_iconst X (v := 1) dX7_execute_31 (by decide) ?_
        exact vs_join [0, 1] (Nat.le_of_ble_eq_true rfl) (Nat.le_of_ble_eq_true rfl) rfl (hk8 1)
      · refine vs_iconst X (v := 0) dX7_execute_27 (by decide) ?_
        refine vs_goto X (tgt := 32) dX7_execute_28 (by decide) ?_
        exact vs_join [0, 1] (Nat.le_of_ble_eq_true rfl) (Nat.le_of_ble_eq_true rfl) rfl (hk8 0)
  · refine vs_if_ne X (tgt := 17) dX7_execute_6 (by decide) (fun _ => ?_) (fun _ => ?_)
    · refine vs_aload_n X dX7_execute_9 1 rfl ?_
      refine vs_aload_n X dX7_execute_10 1 rfl ?_
      refine g_Mod  X hinX7 18 (by decide) (by decide +kernel) rfl rfl dX7_execute_11 ?_
      refine p_Mod  X hinX7 15 (by decide) (by decide +kernel) rfl rfl rfl rfl rfl rfl dX7_execute_14 (fun S3 hS3 => ?_)
      exact vs_join [1, 0] (Nat.le_of_ble_eq_true rfl) (Nat.le_of_ble_eq_true rfl) rfl (hk5 S3)
    · exact vs_join [1, 0] (Nat.le_of_ble_eq_true rfl) (Nat.le_of_ble_eq_true rfl) rfl (hk5 S2)

def spX7_faultPosition  (S : Wo) : Option (Int32 × Wo) :=
  (if (0 : Int32) ≤ S.1 166 15 then bd2 (spX7_fails 0 S) (fun x1 S2 => (if x1 = 0 then some (S2.1 166 15, S2) else some (0, S2))) else bd2 (spX7_fails 1 S) (fun x3 S4 => (if x3 = 0 then some (S4.1 166 15, S4) else some (0, S4))))
set_option maxHeartbeats 4000000 in
set_option maxRecDepth 100000 in
theorem mtX7_faultPosition {l : Launch} (hl0 : l.stackTraces = false) {G : Gt}  {S : Wo} : ∀ rr, spX7_faultPosition  S = some rr → MI l yX7_faultPosition wsX7_faultPosition { frames := 1, cells := 0, slots := 0, locals := 21 } G S [rf G 166] rr 0 0 := by
  refine MI_of (cc := cX7_faultPosition) (own := RX7) (maxL := 1) (ret := (some .int)) (sp := spX7_faultPosition  S) (by decide +kernel) rfl rfl (Nat.le_of_ble_eq_true rfl) ?_
  intro p e s m args below meth c X
  have hinX7 : ∀ w ∈ wsX70, w ∈ wsX7_faultPosition := by decide +kernel
  show VS G p l e _ s m args below meth c 1 _ _ 0 0 S 0 [(0, rf G 166)] []
  unfold spX7_faultPosition
  refine vs_aload_n X dX7_faultPosition_0 0 rfl ?_
  refine vs_aload_n X dX7_faultPosition_1 0 rfl ?_
  refine g_Mod  X hinX7 15 (by decide) (by decide +kernel) rfl rfl dX7_faultPosition_2 ?_
  refine vs_if_ge X (tgt := 12) dX7_faultPosition_5 (by decide) (fun _ => ?_) (fun _ => ?_)
  · refine vs_iconst X (v := 0) dX7_faultPosition_12 (by decide) ?_
    refine vs_callVi X  (As := [.int 0]) (st' := []) (mtX7_fails hl0 0) (cwV 1 X.2.2.2.2.1 gX7_faultPosition_X7_fails rfl rfl rfl (by decide +kernel) ⟨Nat.le_of_ble_eq_true rfl, Nat.le_of_ble_eq_true rfl⟩) (by decide) (by decide) rfl rfl rfl (Nat.le_of_ble_eq_true rfl) dX7_faultPosition_13 ⟨Nat.le_of_ble_eq_true rfl, Nat.le_of_ble_eq_true rfl⟩ (fun x1 S2 hx1 => ?_)
    refine vs_if_eq X (tgt := 23) dX7_faultPosition_16 (by decide) (fun _ => ?_) (fun _ => ?_)
    · refine vs_aload_n X dX7_faultPosition_23 0 rfl ?_
      refine g_Mod  X hinX7 15 (by decide) (by decide +kernel) rfl rfl dX7_faultPosition_24 ?_
      exact vs_iret X dX7_faultPosition_27 (by decide) (by decide)
    · refine vs_iconst X (v := 0) dX7_faultPosition_19 (by decide) ?_
      refine vs_goto X (tgt := 27) dX7_faultPosition_20 (by decide) ?_
      exact vs_iret X dX7_faultPosition_27 (by decide) (by decide)
  · refine vs_iconst X (v := 1) dX7_faultPosition_8 (by decide) ?_
    refine vs_goto X (tgt := 13) dX7_faultPosition_9 (by decide) ?_
    refine vs_callVi X  (As := [.int 1]) (st' := []) (mtX7_fails hl0 1) (cwV 1 X.2.2.2.2.1 gX7_faultPosition_X7_fails rfl rfl rfl (by decide +kernel) ⟨Nat.le_of_ble_eq_true rfl, Nat.le_of_ble_eq_true rfl⟩) (by decide) (by decide) rfl rfl rfl (Nat.le_of_ble_eq_true rfl) dX7_faultPosition_13 ⟨Nat.le_of_ble_eq_true rfl, Nat.le_of_ble_eq_true rfl⟩ (fun x3 S4 hx3 => ?_)
    refine vs_if_eq X (tgt := 23) dX7_faultPosition_16 (by decide) (fun _ => ?_) (fun _ => ?_)
    · refine vs_aload_n X dX7_faultPosition_23 0 rfl ?_
      refine g_Mod  X hinX7 15 (by decide) (by decide +kernel) rfl rfl dX7_faultPosition_24 ?_
      exact vs_iret X dX7_faultPosition_27 (by decide) (by decide)
    · refine vs_iconst X (v := 0) dX7_faultPosition_19 (by decide) ?_
      refine vs_goto X (tgt := 27) dX7_faultPosition_20 (by decide) ?_
      exact vs_iret X dX7_faultPosition_27 (by decide) (by decide)

def spX7_writes (p1 : Int32) (S : Wo) : Option (Wo) :=
  (if inb (S.1 166 17) 40 = true then wr (pF S 173 (upd (S.2.1 173) (ix (S.1 166 17)) (vp_nar .char (((p1 : Int32).toUInt32 % 65536).toInt32)))) (fun S1 => wr (pI S1 166 17 (S1.1 166 17 + 1)) (fun S2 => some S2)) else none)
set_option maxHeartbeats 4000000 in
set_option maxRecDepth 100000 in
theorem mtX7_writes {l : Launch} (hl0 : l.stackTraces = false) {G : Gt} (p1 : Int32) {S : Wo} : ∀ rr, spX7_writes p1 S = some rr → MV l yX7_writes wsX7_writes { frames := 0, cells := 0, slots := 0, locals := 0 } G S [rf G 166, .int p1] rr 0 0 := by
  refine MV_of (cc := cX7_writes) (own := RX7) (maxL := 2) (ret := none) (sp := spX7_writes p1 S) (by decide +kernel) rfl rfl (Nat.le_of_ble_eq_true rfl) ?_
  intro p e s m args below meth c X
  have hinX7 : ∀ w ∈ wsX70, w ∈ wsX7_writes := by decide +kernel
  show VS G p l e _ s m args below meth c 2 _ _ 0 0 S 0 [(0, rf G 166), (1, .int p1)] []
  unfold spX7_writes
  refine vs_aload_n X dX7_writes_0 0 rfl ?_
  refine g_Mod  X hinX7 16 (by decide) (by decide +kernel) rfl rfl dX7_writes_1 ?_
  refine vs_aload_n X dX7_writes_4 0 rfl ?_
  refine g_Mod  X hinX7 17 (by decide) (by decide +kernel) rfl rfl dX7_writes_5 ?_
  refine vs_iload_n X dX7_writes_8 1 rfl ?_
  refine vs_i2c X (v := (((p1 : Int32).toUInt32 % 65536).toInt32)) dX7_writes_9 rfl ?_
  refine vs_cast X (by decide) (by decide) (fun _ => rfl) dX7_writes_10 (fun S1 hS1 => ?_)
  refine vs_aload_n X dX7_writes_11 0 rfl ?_
  refine vs_dup X dX7_writes_12 rfl ?_
  refine g_Mod  X hinX7 17 (by decide) (by decide +kernel) rfl rfl dX7_writes_13 ?_
  refine vs_iconst X (v := 1) dX7_writes_16 (by decide) ?_
  refine vs_iadd X dX7_writes_17 ?_
  refine p_Mod  X hinX7 17 (by decide) (by decide +kernel) rfl rfl rfl rfl rfl rfl dX7_writes_18 (fun S2 hS2 => ?_)
  exact vs_vret X dX7_writes_21 (by decide) (by decide)

def spX7_writesNumber_0 (p1 : Int32) (S : Wo) : Option (Wo) :=
  (if p1 ≤ 9 then (spX7_writes (48 + (p1 - p1 / 10 * 10)) S).bind (fun S1 => some S1) else none)
set_option maxHeartbeats 4000000 in
set_option maxRecDepth 100000 in
theorem mtX7_writesNumber_0 {l : Launch} (hl0 : l.stackTraces = false) {G : Gt} (p1 : Int32) {S : Wo} : ∀ rr, spX7_writesNumber_0 p1 S = some rr → MV l yX7_writesNumber wsX7_writesNumber { frames := 1, cells := 0, slots := 0, locals := 21 } G S [rf G 166, .int p1] rr 0 0 := by
  refine MV_of (cc := cX7_writesNumber) (own := RX7) (maxL := 2) (ret := none) (sp := spX7_writesNumber_0 p1 S) (by decide +kernel) rfl rfl (Nat.le_of_ble_eq_true rfl) ?_
  intro p e s m args below meth c X
  show VS G p l e _ s m args below meth c 2 _ _ 0 0 S 0 [(0, rf G 166), (1, .int p1)] []
  unfold spX7_writesNumber_0
  refine vs_iload_n X dX7_writesNumber_0 1 rfl ?_
  refine vs_bipush X (v := 9) dX7_writesNumber_1 (by decide) ?_
  refine vs_icmp_le X (tgt := 14) dX7_writesNumber_3 (by decide) (fun _ => ?_) (fun _ => ?_)
  · refine vs_aload_n X dX7_writesNumber_14 0 rfl ?_
    refine vs_bipush X (v := 48) dX7_writesNumber_15 (by decide) ?_
    refine vs_iload_n X dX7_writesNumber_17 1 rfl ?_
    refine vs_bipush X (v := 10) dX7_writesNumber_18 (by decide) ?_
    refine vs_irem X dX7_writesNumber_20 (by decide) ?_
    refine vs_iadd X dX7_writesNumber_21 ?_
    refine vs_callVv X  (As := [.int (48 + (p1 - p1 / 10 * 10))]) (st' := []) (mtX7_writes hl0 (48 + (p1 - p1 / 10 * 10))) (cwV 1 X.2.2.2.2.1 gX7_writesNumber_X7_writes rfl rfl rfl (by decide +kernel) ⟨Nat.le_of_ble_eq_true rfl, Nat.le_of_ble_eq_true rfl⟩) (by decide) (by decide) rfl rfl rfl (Nat.le_of_ble_eq_true rfl) dX7_writesNumber_22 ⟨Nat.le_of_ble_eq_true rfl, Nat.le_of_ble_eq_true rfl⟩ (fun S1 hS1 => ?_)
    exact vs_vret X dX7_writesNumber_25 (by decide) (by decide)
  · refine vs_aload_n X dX7_writesNumber_6 0 rfl ?_
    refine vs_iload_n X dX7_writesNumber_7 1 rfl ?_
    refine vs_bipush X (v := 10) dX7_writesNumber_8 (by decide) ?_
    refine vs_idiv X dX7_writesNumber_10 (by decide) ?_
    exact vs_none rfl

def spX7_writesNumber_1 (p1 : Int32) (S : Wo) : Option (Wo) :=
  (if p1 ≤ 9 then (spX7_writes (48 + (p1 - p1 / 10 * 10)) S).bind (fun S1 => some S1) else (spX7_writesNumber_0 (p1 / 10) S).bind (fun S2 => (spX7_writes (48 + (p1 - p1 / 10 * 10)) S2).bind (fun S3 => some S3)))
set_option maxHeartbeats 4000000 in
set_option maxRecDepth 100000 in
theorem mtX7_writesNumber_1 {l : Launch} (hl0 : l.stackTraces = false) {G : Gt} (p1 : Int32) {S : Wo} : ∀ rr, spX7_writesNumber_1 p1 S = some rr → MV l yX7_writesNumber wsX7_writesNumber { frames := 2, cells := 0, slots := 0, locals := 42 } G S [rf G 166, .int p1] rr 0 0 := by
  refine MV_of (cc := cX7_writesNumber) (own := RX7) (maxL := 2) (ret := none) (sp := spX7_writesNumber_1 p1 S) (by decide +kernel) rfl rfl (Nat.le_of_ble_eq_true rfl) ?_
  intro p e s m args below meth c X
  show VS G p l e _ s m args below meth c 2 _ _ 0 0 S 0 [(0, rf G 166), (1, .int p1)] []
  unfold spX7_writesNumber_1
  refine vs_iload_n X dX7_writesNumber_0 1 rfl ?_
  refine vs_bipush X (v := 9) dX7_writesNumber_1 (by decide) ?_
  refine vs_icmp_le X (tgt := 14) dX7_writesNumber_3 (by decide) (fun _ => ?_) (fun _ => ?_)
  · refine vs_aload_n X dX7_writesNumber_14 0 rfl ?_
    refine vs_bipush X (v := 48) dX7_writesNumber_15 (by decide) ?_
    refine vs_iload_n X dX7_writesNumber_17 1 rfl ?_
    refine vs_bipush X (v := 10) dX7_writesNumber_18 (by decide) ?_
    refine vs_irem X dX7_writesNumber_20 (by decide) ?_
    refine vs_iadd X dX7_writesNumber_21 ?_
    refine vs_callVv X  (As := [.int (48 + (p1 - p1 / 10 * 10))]) (st' := []) (mtX7_writes hl0 (48 + (p1 - p1 / 10 * 10))) (cwV 1 X.2.2.2.2.1 gX7_writesNumber_X7_writes rfl rfl rfl (by decide +kernel) ⟨Nat.le_of_ble_eq_true rfl, Nat.le_of_ble_eq_true rfl⟩) (by decide) (by decide) rfl rfl rfl (Nat.le_of_ble_eq_true rfl) dX7_writesNumber_22 ⟨Nat.le_of_ble_eq_true rfl, Nat.le_of_ble_eq_true rfl⟩ (fun S1 hS1 => ?_)
    exact vs_vret X dX7_writesNumber_25 (by decide) (by decide)
  · refine vs_aload_n X dX7_writesNumber_6 0 rfl ?_
    refine vs_iload_n X dX7_writesNumber_7 1 rfl ?_
    refine vs_bipush X (v := 10) dX7_writesNumber_8 (by decide) ?_
    refine vs_idiv X dX7_writesNumber_10 (by decide) ?_
    refine vs_callVv X  (As := [.int (p1 / 10)]) (st' := []) (mtX7_writesNumber_0 hl0 (p1 / 10)) (cwV 1 X.2.2.2.2.1 gX7_writesNumber_X7_writesNumber rfl rfl rfl (by decide +kernel) ⟨Nat.le_of_ble_eq_true rfl, Nat.le_of_ble_eq_true rfl⟩) (by decide) (by decide) rfl rfl rfl (Nat.le_of_ble_eq_true rfl) dX7_writesNumber_11 ⟨Nat.le_of_ble_eq_true rfl, Nat.le_of_ble_eq_true rfl⟩ (fun S2 hS2 => ?_)
    refine vs_aload_n X dX7_writesNumber_14 0 rfl ?_
    refine vs_bipush X (v := 48) dX7_writesNumber_15 (by decide) ?_
    refine vs_iload_n X dX7_writesNumber_17 1 rfl ?_
    refine vs_bipush X (v := 10) dX7_writesNumber_18 (by decide) ?_
    refine vs_irem X dX7_writesNumber_20 (by decide) ?_
    refine vs_iadd X dX7_writesNumber_21 ?_
    refine vs_callVv X  (As := [.int (48 + (p1 - p1 / 10 * 10))]) (st' := []) (mtX7_writes hl0 (48 + (p1 - p1 / 10 * 10))) (cwV 1 X.2.2.2.2.1 gX7_writesNumber_X7_writes rfl rfl rfl (by decide +kernel) ⟨Nat.le_of_ble_eq_true rfl, Nat.le_of_ble_eq_true rfl⟩) (by decide) (by decide) rfl rfl rfl (Nat.le_of_ble_eq_true rfl) dX7_writesNumber_22 ⟨Nat.le_of_ble_eq_true rfl, Nat.le_of_ble_eq_true rfl⟩ (fun S3 hS3 => ?_)
    exact vs_vret X dX7_writesNumber_25 (by decide) (by decide)

def spX7_writesNumber_2 (p1 : Int32) (S : Wo) : Option (Wo) :=
  (if p1 ≤ 9 then (spX7_writes (48 + (p1 - p1 / 10 * 10)) S).bind (fun S1 => some S1) else (spX7_writesNumber_1 (p1 / 10) S).bind (fun S2 => (spX7_writes (48 + (p1 - p1 / 10 * 10)) S2).bind (fun S3 => some S3)))
set_option maxHeartbeats 4000000 in
set_option maxRecDepth 100000 in
theorem mtX7_writesNumber_2 {l : Launch} (hl0 : l.stackTraces = false) {G : Gt} (p1 : Int32) {S : Wo} : ∀ rr, spX7_writesNumber_2 p1 S = some rr → MV l yX7_writesNumber wsX7_writesNumber { frames := 3, cells := 0, slots := 0, locals := 63 } G S [rf G 166, .int p1] rr 0 0 := by
  refine MV_of (cc := cX7_writesNumber) (own := RX7) (maxL := 2) (ret := none) (sp := spX7_writesNumber_2 p1 S) (by decide +kernel) rfl rfl (Nat.le_of_ble_eq_true rfl) ?_
  intro p e s m args below meth c X
  show VS G p l e _ s m args below meth c 2 _ _ 0 0 S 0 [(0, rf G 166), (1, .int p1)] []
  unfold spX7_writesNumber_2
  refine vs_iload_n X dX7_writesNumber_0 1 rfl ?_
  refine vs_bipush X (v := 9) dX7_writesNumber_1 (by decide) ?_
  refine vs_icmp_le X (tgt := 14) dX7_writesNumber_3 (by decide) (fun _ => ?_) (fun _ => ?_)
  · refine vs_aload_n X dX7_writesNumber_14 0 rfl ?_
    refine vs_bipush X (v := 48) dX7_writesNumber_15 (by decide) ?_
    refine vs_iload_n X dX7_writesNumber_17 1 rfl ?_
    refine vs_bipush X (v := 10) dX7_writesNumber_18 (by decide) ?_
    refine vs_irem X dX7_writesNumber_20 (by decide) ?_
    refine vs_iadd X dX7_writesNumber_21 ?_
    refine vs_callVv X  (As := [.int (48 + (p1 - p1 / 10 * 10))]) (st' := []) (mtX7_writes hl0 (48 + (p1 - p1 / 10 * 10))) (cwV 1 X.2.2.2.2.1 gX7_writesNumber_X7_writes rfl rfl rfl (by decide +kernel) ⟨Nat.le_of_ble_eq_true rfl, Nat.le_of_ble_eq_true rfl⟩) (by decide) (by decide) rfl rfl rfl (Nat.le_of_ble_eq_true rfl) dX7_writesNumber_22 ⟨Nat.le_of_ble_eq_true rfl, Nat.le_of_ble_eq_true rfl⟩ (fun S1 hS1 => ?_)
    exact vs_vret X dX7_writesNumber_25 (by decide) (by decide)
  · refine vs_aload_n X dX7_writesNumber_6 0 rfl ?_
    refine vs_iload_n X dX7_writesNumber_7 1 rfl ?_
    refine vs_bipush X (v := 10) dX7_writesNumber_8 (by decide) ?_
    refine vs_idiv X dX7_writesNumber_10 (by decide) ?_
    refine vs_callVv X  (As := [.int (p1 / 10)]) (st' := []) (mtX7_writesNumber_1 hl0 (p1 / 10)) (cwV 1 X.2.2.2.2.1 gX7_writesNumber_X7_writesNumber rfl rfl rfl (by decide +kernel) ⟨Nat.le_of_ble_eq_true rfl, Nat.le_of_ble_eq_true rfl⟩) (by decide) (by decide) rfl rfl rfl (Nat.le_of_ble_eq_true rfl) dX7_writesNumber_11 ⟨Nat.le_of_ble_eq_true rfl, Nat.le_of_ble_eq_true rfl⟩ (fun S2 hS2 => ?_)
    refine vs_aload_n X dX7_writesNumber_14 0 rfl ?_
    refine vs_bipush X (v := 48) dX7_writesNumber_15 (by decide) ?_
    refine vs_iload_n X dX7_writesNumber_17 1 rfl ?_
    refine vs_bipush X (v := 10) dX7_writesNumber_18 (by decide) ?_
    refine vs_irem X dX7_writesNumber_20 (by decide) ?_
    refine vs_iadd X dX7_writesNumber_21 ?_
    refine vs_callVv X  (As := [.int (48 + (p1 - p1 / 10 * 10))]) (st' := []) (mtX7_writes hl0 (48 + (p1 - p1 / 10 * 10))) (cwV 1 X.2.2.2.2.1 gX7_writesNumber_X7_writes rfl rfl rfl (by decide +kernel) ⟨Nat.le_of_ble_eq_true rfl, Nat.le_of_ble_eq_true rfl⟩) (by decide) (by decide) rfl rfl rfl (Nat.le_of_ble_eq_true rfl) dX7_writesNumber_22 ⟨Nat.le_of_ble_eq_true rfl, Nat.le_of_ble_eq_true rfl⟩ (fun S3 hS3 => ?_)
    exact vs_vret X dX7_writesNumber_25 (by decide) (by decide)

def spX7_writesNumber_3 (p1 : Int32) (S : Wo) : Option (Wo) :=
  (if p1 ≤ 9 then (spX7_writes (48 + (p1 - p1 / 10 * 10)) S).bind (fun S1 => some S1) else (spX7_writesNumber_2 (p1 / 10) S).bind (fun S2 => (spX7_writes (48 + (p1 - p1 / 10 * 10)) S2).bind (fun S3 => some S3)))
set_option maxHeartbeats 4000000 in
set_option maxRecDepth 100000 in
theorem mtX7_writesNumber_3 {l : Launch} (hl0 : l.stackTraces = false) {G : Gt} (p1 : Int32) {S : Wo} : ∀ rr, spX7_writesNumber_3 p1 S = some rr → MV l yX7_writesNumber wsX7_writesNumber { frames := 4, cells := 0, slots := 0, locals := 84 } G S [rf G 166, .int p1] rr 0 0 := by
  refine MV_of (cc := cX7_writesNumber) (own := RX7) (maxL := 2) (ret := none) (sp := spX7_writesNumber_3 p1 S) (by decide +kernel) rfl rfl (Nat.le_of_ble_eq_true rfl) ?_
  intro p e s m args below meth c X
  show VS G p l e _ s m args below meth c 2 _ _ 0 0 S 0 [(0, rf G 166), (1, .int p1)] []
  unfold spX7_writesNumber_3
  refine vs_iload_n X dX7_writesNumber_0 1 rfl ?_
  refine vs_bipush X (v := 9) dX7_writesNumber_1 (by decide) ?_
  refine vs_icmp_le X (tgt := 14) dX7_writesNumber_3 (by decide) (fun _ => ?_) (fun _ => ?_)
  · refine vs_aload_n X dX7_writesNumber_14 0 rfl ?_
    refine vs_bipush X (v := 48) dX7_writesNumber_15 (by decide) ?_
    refine vs_iload_n X dX7_writesNumber_17 1 rfl ?_
    refine vs_bipush X (v := 10) dX7_writesNumber_18 (by decide) ?_
    refine vs_irem X dX7_writesNumber_20 (by decide) ?_
    refine vs_iadd X dX7_writesNumber_21 ?_
    refine vs_callVv X  (As := [.int (48 + (p1 - p1 / 10 * 10))]) (st' := []) (mtX7_writes hl0 (48 + (p1 - p1 / 10 * 10))) (cwV 1 X.2.2.2.2.1 gX7_writesNumber_X7_writes rfl rfl rfl (by decide +kernel) ⟨Nat.le_of_ble_eq_true rfl, Nat.le_of_ble_eq_true rfl⟩) (by decide) (by decide) rfl rfl rfl (Nat.le_of_ble_eq_true rfl) dX7_writesNumber_22 ⟨Nat.le_of_ble_eq_true rfl, Nat.le_of_ble_eq_true rfl⟩ (fun S1 hS1 => ?_)
    exact vs_vret X dX7_writesNumber_25 (by decide) (by decide)
  · refine vs_aload_n X dX7_writesNumber_6 0 rfl ?_
    refine vs_iload_n X dX7_writesNumber_7 1 rfl ?_
    refine vs_bipush X (v := 10) dX7_writesNumber_8 (by decide) ?_
    refine vs_idiv X dX7_writesNumber_10 (by decide) ?_
    refine vs_callVv X  (As := [.int (p1 / 10)]) (st' := []) (mtX7_writesNumber_2 hl0 (p1 / 10)) (cwV 1 X.2.2.2.2.1 gX7_writesNumber_X7_writesNumber rfl rfl rfl (by decide +kernel) ⟨Nat.le_of_ble_eq_true rfl, Nat.le_of_ble_eq_true rfl⟩) (by decide) (by decide) rfl rfl rfl (Nat.le_of_ble_eq_true rfl) dX7_writesNumber_11 ⟨Nat.le_of_ble_eq_true rfl, Nat.le_of_ble_eq_true rfl⟩ (fun S2 hS2 => ?_)
    refine vs_aload_n X dX7_writesNumber_14 0 rfl ?_
    refine vs_bipush X (v := 48) dX7_writesNumber_15 (by decide) ?_
    refine vs_iload_n X dX7_writesNumber_17 1 rfl ?_
    refine vs_bipush X (v := 10) dX7_writesNumber_18 (by decide) ?_
    refine vs_irem X dX7_writesNumber_20 (by decide) ?_
    refine vs_iadd X dX7_writesNumber_21 ?_
    refine vs_callVv X  (As := [.int (48 + (p1 - p1 / 10 * 10))]) (st' := []) (mtX7_writes hl0 (48 + (p1 - p1 / 10 * 10))) (cwV 1 X.2.2.2.2.1 gX7_writesNumber_X7_writes rfl rfl rfl (by decide +kernel) ⟨Nat.le_of_ble_eq_true rfl, Nat.le_of_ble_eq_true rfl⟩) (by decide) (by decide) rfl rfl rfl (Nat.le_of_ble_eq_true rfl) dX7_writesNumber_22 ⟨Nat.le_of_ble_eq_true rfl, Nat.le_of_ble_eq_true rfl⟩ (fun S3 hS3 => ?_)
    exact vs_vret X dX7_writesNumber_25 (by decide) (by decide)

def spX7_writesNumber_4 (p1 : Int32) (S : Wo) : Option (Wo) :=
  (if p1 ≤ 9 then (spX7_writes (48 + (p1 - p1 / 10 * 10)) S).bind (fun S1 => some S1) else (spX7_writesNumber_3 (p1 / 10) S).bind (fun S2 => (spX7_writes (48 + (p1 - p1 / 10 * 10)) S2).bind (fun S3 => some S3)))
set_option maxHeartbeats 4000000 in
set_option maxRecDepth 100000 in
theorem mtX7_writesNumber_4 {l : Launch} (hl0 : l.stackTraces = false) {G : Gt} (p1 : Int32) {S : Wo} : ∀ rr, spX7_writesNumber_4 p1 S = some rr → MV l yX7_writesNumber wsX7_writesNumber { frames := 5, cells := 0, slots := 0, locals := 105 } G S [rf G 166, .int p1] rr 0 0 := by
  refine MV_of (cc := cX7_writesNumber) (own := RX7) (maxL := 2) (ret := none) (sp := spX7_writesNumber_4 p1 S) (by decide +kernel) rfl rfl (Nat.le_of_ble_eq_true rfl) ?_
  intro p e s m args below meth c X
  show VS G p l e _ s m args below meth c 2 _ _ 0 0 S 0 [(0, rf G 166), (1, .int p1)] []
  unfold spX7_writesNumber_4
  refine vs_iload_n X dX7_writesNumber_0 1 rfl ?_
  refine vs_bipush X (v := 9) dX7_writesNumber_1 (by decide) ?_
  refine vs_icmp_le X (tgt := 14) dX7_writesNumber_3 (by decide) (fun _ => ?_) (fun _ => ?_)
  · refine vs_aload_n X dX7_writesNumber_14 0 rfl ?_
    refine vs_bipush X (v := 48) dX7_writesNumber_15 (by decide) ?_
    refine vs_iload_n X dX7_writesNumber_17 1 rfl ?_
    refine vs_bipush X (v := 10) dX7_writesNumber_18 (by decide) ?_
    refine vs_irem X dX7_writesNumber_20 (by decide) ?_
    refine vs_iadd X dX7_writesNumber_21 ?_
    refine vs_callVv X  (As := [.int (48 + (p1 - p1 / 10 * 10))]) (st' := []) (mtX7_writes hl0 (48 + (p1 - p1 / 10 * 10))) (cwV 1 X.2.2.2.2.1 gX7_writesNumber_X7_writes rfl rfl rfl (by decide +kernel) ⟨Nat.le_of_ble_eq_true rfl, Nat.le_of_ble_eq_true rfl⟩) (by decide) (by decide) rfl rfl rfl (Nat.le_of_ble_eq_true rfl) dX7_writesNumber_22 ⟨Nat.le_of_ble_eq_true rfl, Nat.le_of_ble_eq_true rfl⟩ (fun S1 hS1 => ?_)
    exact vs_vret X dX7_writesNumber_25 (by decide) (by decide)
  · refine vs_aload_n X dX7_writesNumber_6 0 rfl ?_
    refine vs_iload_n X dX7_writesNumber_7 1 rfl ?_
    refine vs_bipush X (v := 10) dX7_writesNumber_8 (by decide) ?_
    refine vs_idiv X dX7_writesNumber_10 (by decide) ?_
    refine vs_callVv X  (As := [.int (p1 / 10)]) (st' := []) (mtX7_writesNumber_3 hl0 (p1 / 10)) (cwV 1 X.2.2.2.2.1 gX7_writesNumber_X7_writesNumber rfl rfl rfl (by decide +kernel) ⟨Nat.le_of_ble_eq_true rfl, Nat.le_of_ble_eq_true rfl⟩) (by decide) (by decide) rfl rfl rfl (Nat.le_of_ble_eq_true rfl) dX7_writesNumber_11 ⟨Nat.le_of_ble_eq_true rfl, Nat.le_of_ble_eq_true rfl⟩ (fun S2 hS2 => ?_)
    refine vs_aload_n X dX7_writesNumber_14 0 rfl ?_
    refine vs_bipush X (v := 48) dX7_writesNumber_15 (by decide) ?_
    refine vs_iload_n X dX7_writesNumber_17 1 rfl ?_
    refine vs_bipush X (v := 10) dX7_writesNumber_18 (by decide) ?_
    refine vs_irem X dX7_writesNumber_20 (by decide) ?_
    refine vs_iadd X dX7_writesNumber_21 ?_
    refine vs_callVv X  (As := [.int (48 + (p1 - p1 / 10 * 10))]) (st' := []) (mtX7_writes hl0 (48 + (p1 - p1 / 10 * 10))) (cwV 1 X.2.2.2.2.1 gX7_writesNumber_X7_writes rfl rfl rfl (by decide +kernel) ⟨Nat.le_of_ble_eq_true rfl, Nat.le_of_ble_eq_true rfl⟩) (by decide) (by decide) rfl rfl rfl (Nat.le_of_ble_eq_true rfl) dX7_writesNumber_22 ⟨Nat.le_of_ble_eq_true rfl, Nat.le_of_ble_eq_true rfl⟩ (fun S3 hS3 => ?_)
    exact vs_vret X dX7_writesNumber_25 (by decide) (by decide)

def spX7_writesNumber_5 (p1 : Int32) (S : Wo) : Option (Wo) :=
  (if p1 ≤ 9 then (spX7_writes (48 + (p1 - p1 / 10 * 10)) S).bind (fun S1 => some S1) else (spX7_writesNumber_4 (p1 / 10) S).bind (fun S2 => (spX7_writes (48 + (p1 - p1 / 10 * 10)) S2).bind (fun S3 => some S3)))
set_option maxHeartbeats 4000000 in
set_option maxRecDepth 100000 in
theorem mtX7_writesNumber_5 {l : Launch} (hl0 : l.stackTraces = false) {G : Gt} (p1 : Int32) {S : Wo} : ∀ rr, spX7_writesNumber_5 p1 S = some rr → MV l yX7_writesNumber wsX7_writesNumber { frames := 6, cells := 0, slots := 0, locals := 126 } G S [rf G 166, .int p1] rr 0 0 := by
  refine MV_of (cc := cX7_writesNumber) (own := RX7) (maxL := 2) (ret := none) (sp := spX7_writesNumber_5 p1 S) (by decide +kernel) rfl rfl (Nat.le_of_ble_eq_true rfl) ?_
  intro p e s m args below meth c X
  show VS G p l e _ s m args below meth c 2 _ _ 0 0 S 0 [(0, rf G 166), (1, .int p1)] []
  unfold spX7_writesNumber_5
  refine vs_iload_n X dX7_writesNumber_0 1 rfl ?_
  refine vs_bipush X (v := 9) dX7_writesNumber_1 (by decide) ?_
  refine vs_icmp_le X (tgt := 14) dX7_writesNumber_3 (by decide) (fun _ => ?_) (fun _ => ?_)
  · refine vs_aload_n X dX7_writesNumber_14 0 rfl ?_
    refine vs_bipush X (v := 48) dX7_writesNumber_15 (by decide) ?_
    refine vs_iload_n X dX7_writesNumber_17 1 rfl ?_
    refine vs_bipush X (v := 10) dX7_writesNumber_18 (by decide) ?_
    refine vs_irem X dX7_writesNumber_20 (by decide) ?_
    refine vs_iadd X dX7_writesNumber_21 ?_
    refine vs_callVv X  (As := [.int (48 + (p1 - p1 / 10 * 10))]) (st' := []) (mtX7_writes hl0 (48 + (p1 - p1 / 10 * 10))) (cwV 1 X.2.2.2.2.1 gX7_writesNumber_X7_writes rfl rfl rfl (by decide +kernel) ⟨Nat.le_of_ble_eq_true rfl, Nat.le_of_ble_eq_true rfl⟩) (by decide) (by decide) rfl rfl rfl (Nat.le_of_ble_eq_true rfl) dX7_writesNumber_22 ⟨Nat.le_of_ble_eq_true rfl, Nat.le_of_ble_eq_true rfl⟩ (fun S1 hS1 => ?_)
    exact vs_vret X dX7_writesNumber_25 (by decide) (by decide)
  · refine vs_aload_n X dX7_writesNumber_6 0 rfl ?_
    refine vs_iload_n X dX7_writesNumber_7 1 rfl ?_
    refine vs_bipush X (v := 10) dX7_writesNumber_8 (by decide) ?_
    refine vs_idiv X dX7_writesNumber_10 (by decide) ?_
    refine vs_callVv X  (As := [.int (p1 / 10)]) (st' := []) (mtX7_writesNumber_4 hl0 (p1 / 10)) (cwV 1 X.2.2.2.2.1 gX7_writesNumber_X7_writesNumber rfl rfl rfl (by decide +kernel) ⟨Nat.le_of_ble_eq_true rfl, Nat.le_of_ble_eq_true rfl⟩) (by decide) (by decide) rfl rfl rfl (Nat.le_of_ble_eq_true rfl) dX7_writesNumber_11 ⟨Nat.le_of_ble_eq_true rfl, Nat.le_of_ble_eq_true rfl⟩ (fun S2 hS2 => ?_)
    refine vs_aload_n X dX7_writesNumber_14 0 rfl ?_
    refine vs_bipush X (v := 48) dX7_writesNumber_15 (by decide) ?_
    refine vs_iload_n X dX7_writesNumber_17 1 rfl ?_
    refine vs_bipush X (v := 10) dX7_writesNumber_18 (by decide) ?_
    refine vs_irem X dX7_writesNumber_20 (by decide) ?_
    refine vs_iadd X dX7_writesNumber_21 ?_
    refine vs_callVv X  (As := [.int (48 + (p1 - p1 / 10 * 10))]) (st' := []) (mtX7_writes hl0 (48 + (p1 - p1 / 10 * 10))) (cwV 1 X.2.2.2.2.1 gX7_writesNumber_X7_writes rfl rfl rfl (by decide +kernel) ⟨Nat.le_of_ble_eq_true rfl, Nat.le_of_ble_eq_true rfl⟩) (by decide) (by decide) rfl rfl rfl (Nat.le_of_ble_eq_true rfl) dX7_writesNumber_22 ⟨Nat.le_of_ble_eq_true rfl, Nat.le_of_ble_eq_true rfl⟩ (fun S3 hS3 => ?_)
    exact vs_vret X dX7_writesNumber_25 (by decide) (by decide)

def spX7_writesNumber_6 (p1 : Int32) (S : Wo) : Option (Wo) :=
  (if p1 ≤ 9 then (spX7_writes (48 + (p1 - p1 / 10 * 10)) S).bind (fun S1 => some S1) else (spX7_writesNumber_5 (p1 / 10) S).bind (fun S2 => (spX7_writes (48 + (p1 - p1 / 10 * 10)) S2).bind (fun S3 => some S3)))
set_option maxHeartbeats 4000000 in
set_option maxRecDepth 100000 in
theorem mtX7_writesNumber_6 {l : Launch} (hl0 : l.stackTraces = false) {G : Gt} (p1 : Int32) {S : Wo} : ∀ rr, spX7_writesNumber_6 p1 S = some rr → MV l yX7_writesNumber wsX7_writesNumber { frames := 7, cells := 0, slots := 0, locals := 147 } G S [rf G 166, .int p1] rr 0 0 := by
  refine MV_of (cc := cX7_writesNumber) (own := RX7) (maxL := 2) (ret := none) (sp := spX7_writesNumber_6 p1 S) (by decide +kernel) rfl rfl (Nat.le_of_ble_eq_true rfl) ?_
  intro p e s m args below meth c X
  show VS G p l e _ s m args below meth c 2 _ _ 0 0 S 0 [(0, rf G 166), (1, .int p1)] []
  unfold spX7_writesNumber_6
  refine vs_iload_n X dX7_writesNumber_0 1 rfl ?_
  refine vs_bipush X (v := 9) dX7_writesNumber_1 (by decide) ?_
  refine vs_icmp_le X (tgt := 14) dX7_writesNumber_3 (by decide) (fun _ => ?_) (fun _ => ?_)
  · refine vs_aload_n X dX7_writesNumber_14 0 rfl ?_
    refine vs_bipush X (v := 48) dX7_writesNumber_15 (by decide) ?_
    refine vs_iload_n X dX7_writesNumber_17 1 rfl ?_
    refine vs_bipush X (v := 10) dX7_writesNumber_18 (by decide) ?_
    refine vs_irem X dX7_writesNumber_20 (by decide) ?_
    refine vs_iadd X dX7_writesNumber_21 ?_
    refine vs_callVv X  (As := [.int (48 + (p1 - p1 / 10 * 10))]) (st' := []) (mtX7_writes hl0 (48 + (p1 - p1 / 10 * 10))) (cwV 1 X.2.2.2.2.1 gX7_writesNumber_X7_writes rfl rfl rfl (by decide +kernel) ⟨Nat.le_of_ble_eq_true rfl, Nat.le_of_ble_eq_true rfl⟩) (by decide) (by decide) rfl rfl rfl (Nat.le_of_ble_eq_true rfl) dX7_writesNumber_22 ⟨Nat.le_of_ble_eq_true rfl, Nat.le_of_ble_eq_true rfl⟩ (fun S1 hS1 => ?_)
    exact vs_vret X dX7_writesNumber_25 (by decide) (by decide)
  · refine vs_aload_n X dX7_writesNumber_6 0 rfl ?_
    refine vs_iload_n X dX7_writesNumber_7 1 rfl ?_
    refine vs_bipush X (v := 10) dX7_writesNumber_8 (by decide) ?_
    refine vs_idiv X dX7_writesNumber_10 (by decide) ?_
    refine vs_callVv X  (As := [.int (p1 / 10)]) (st' := []) (mtX7_writesNumber_5 hl0 (p1 / 10)) (cwV 1 X.2.2.2.2.1 gX7_writesNumber_X7_writesNumber rfl rfl rfl (by decide +kernel) ⟨Nat.le_of_ble_eq_true rfl, Nat.le_of_ble_eq_true rfl⟩) (by decide) (by decide) rfl rfl rfl (Nat.le_of_ble_eq_true rfl) dX7_writesNumber_11 ⟨Nat.le_of_ble_eq_true rfl, Nat.le_of_ble_eq_true rfl⟩ (fun S2 hS2 => ?_)
    refine vs_aload_n X dX7_writesNumber_14 0 rfl ?_
    refine vs_bipush X (v := 48) dX7_writesNumber_15 (by decide) ?_
    refine vs_iload_n X dX7_writesNumber_17 1 rfl ?_
    refine vs_bipush X (v := 10) dX7_writesNumber_18 (by decide) ?_
    refine vs_irem X dX7_writesNumber_20 (by decide) ?_
    refine vs_iadd X dX7_writesNumber_21 ?_
    refine vs_callVv X  (As := [.int (48 + (p1 - p1 / 10 * 10))]) (st' := []) (mtX7_writes hl0 (48 + (p1 - p1 / 10 * 10))) (cwV 1 X.2.2.2.2.1 gX7_writesNumber_X7_writes rfl rfl rfl (by decide +kernel) ⟨Nat.le_of_ble_eq_true rfl, Nat.le_of_ble_eq_true rfl⟩) (by decide) (by decide) rfl rfl rfl (Nat.le_of_ble_eq_true rfl) dX7_writesNumber_22 ⟨Nat.le_of_ble_eq_true rfl, Nat.le_of_ble_eq_true rfl⟩ (fun S3 hS3 => ?_)
    exact vs_vret X dX7_writesNumber_25 (by decide) (by decide)

def spX7_writesBehind (p1 : Int32) (p2 : Int32) (S : Wo) : Option (Wo) :=
  (spX7_writes p1 S).bind (fun S1 => (spX7_writesNumber_6 p2 S1).bind (fun S2 => some S2))
set_option maxHeartbeats 4000000 in
set_option maxRecDepth 100000 in
theorem mtX7_writesBehind {l : Launch} (hl0 : l.stackTraces = false) {G : Gt} (p1 : Int32) (p2 : Int32) {S : Wo} : ∀ rr, spX7_writesBehind p1 p2 S = some rr → MV l yX7_writesBehind wsX7_writesBehind { frames := 8, cells := 0, slots := 0, locals := 168 } G S [rf G 166, .int p1, .int p2] rr 0 0 := by
  refine MV_of (cc := cX7_writesBehind) (own := RX7) (maxL := 3) (ret := none) (sp := spX7_writesBehind p1 p2 S) (by decide +kernel) rfl rfl (Nat.le_of_ble_eq_true rfl) ?_
  intro p e s m args below meth c X
  show VS G p l e _ s m args below meth c 3 _ _ 0 0 S 0 [(0, rf G 166), (1, .int p1), (2, .int p2)] []
  unfold spX7_writesBehind
  refine vs_aload_n X dX7_writesBehind_0 0 rfl ?_
  refine vs_iload_n X dX7_writesBehind_1 1 rfl ?_
  refine vs_callVv X  (As := [.int p1]) (st' := []) (mtX7_writes hl0 p1) (cwV 1 X.2.2.2.2.1 gX7_writesBehind_X7_writes rfl rfl rfl (by decide +kernel) ⟨Nat.le_of_ble_eq_true rfl, Nat.le_of_ble_eq_true rfl⟩) (by decide) (by decide) rfl rfl rfl (Nat.le_of_ble_eq_true rfl) dX7_writesBehind_2 ⟨Nat.le_of_ble_eq_true rfl, Nat.le_of_ble_eq_true rfl⟩ (fun S1 hS1 => ?_)
  refine vs_aload_n X dX7_writesBehind_5 0 rfl ?_
  refine vs_iload_n X dX7_writesBehind_6 2 rfl ?_
  refine vs_callVv X  (As := [.int p2]) (st' := []) (mtX7_writesNumber_6 hl0 p2) (cwV 1 X.2.2.2.2.1 gX7_writesBehind_X7_writesNumber rfl rfl rfl (by decide +kernel) ⟨Nat.le_of_ble_eq_true rfl, Nat.le_of_ble_eq_true rfl⟩) (by decide) (by decide) rfl rfl rfl (Nat.le_of_ble_eq_true rfl) dX7_writesBehind_7 ⟨Nat.le_of_ble_eq_true rfl, Nat.le_of_ble_eq_true rfl⟩ (fun S2 hS2 => ?_)
  exact vs_vret X dX7_writesBehind_10 (by decide) (by decide)

def spX7_writeCertificate (p1 : Int32) (S : Wo) : Option (Int32 × Wo) :=
  bd2 (spX7_isLost p1 S) (fun x1 S2 => (if x1 = 0 then wr (pI S2 166 17 0) (fun S3 => (spX7_of p1 0 S3).bind (fun x4 => jn (β := Int32 → Option (Int32 × Wo)) (fun (x6 : Int32) => (spX7_writes x6 S3).bind (fun S8 => (spX7_of p1 1 S8).bind (fun x9 => (spX7_writesBehind 62 x9 S8).bind (fun S10 => (spX7_of p1 2 S10).bind (fun x11 => (spX7_writesBehind 64 x11 S10).bind (fun S12 => (spX7_of p1 3 S12).bind (fun x13 => (spX7_writesBehind 60 x13 S12).bind (fun S14 => (spX7_isValid p1 S14).bind (fun x15 => (if x15 = 0 then some (S14.1 166 17, S14) else (spX7_writes 33 S14).bind (fun S16 => some (S16.1 166 17, S16)))))))))))) (fun k7 => (if (0 : Int32) ≤ x4 then (spX7_of p1 0 S3).bind (fun x5 => k7 (48 + x5)) else k7 82)))) else some (0, S2)))
set_option maxHeartbeats 4000000 in
set_option maxRecDepth 100000 in
theorem mtX7_writeCertificate {l : Launch} (hl0 : l.stackTraces = false) {G : Gt} (p1 : Int32) {S : Wo} : ∀ rr, spX7_writeCertificate p1 S = some rr → MI l yX7_writeCertificate wsX7_writeCertificate { frames := 9, cells := 0, slots := 0, locals := 190 } G S [rf G 166, .int p1] rr 0 0 := by
  refine MI_of (cc := cX7_writeCertificate) (own := RX7) (maxL := 2) (ret := (some .int)) (sp := spX7_writeCertificate p1 S) (by decide +kernel) rfl rfl (Nat.le_of_ble_eq_true rfl) ?_
  intro p e s m args below meth c X
  have hinX7 : ∀ w ∈ wsX70, w ∈ wsX7_writeCertificate := by decide +kernel
  show VS G p l e _ s m args below meth c 2 _ _ 0 0 S 0 [(0, rf G 166), (1, .int p1)] []
  unfold spX7_writeCertificate
  refine vs_aload_n X dX7_writeCertificate_0 0 rfl ?_
  refine vs_iload_n X dX7_writeCertificate_1 1 rfl ?_
  refine vs_callVi X  (As := [.int p1]) (st' := []) (mtX7_isLost hl0 p1) (cwV 1 X.2.2.2.2.1 gX7_writeCertificate_X7_isLost rfl rfl rfl (by decide +kernel) ⟨Nat.le_of_ble_eq_true rfl, Nat.le_of_ble_eq_true rfl⟩) (by decide) (by decide) rfl rfl rfl (Nat.le_of_ble_eq_true rfl) dX7_writeCertificate_2 ⟨Nat.le_of_ble_eq_true rfl, Nat.le_of_ble_eq_true rfl⟩ (fun x1 S2 hx1 => ?_)
  refine vs_if_eq X (tgt := 10) dX7_writeCertificate_5 (by decide) (fun _ => ?_) (fun _ => ?_)
  · refine vs_aload_n X dX7_writeCertificate_10 0 rfl ?_
    refine vs_iconst X (v := 0) dX7_writeCertificate_11 (by decide) ?_
    refine p_Mod  X hinX7 17 (by decide) (by decide +kernel) rfl rfl rfl rfl rfl rfl dX7_writeCertificate_12 (fun S3 hS3 => ?_)
    refine vs_aload_n X dX7_writeCertificate_15 0 rfl ?_
    refine vs_aload_n X dX7_writeCertificate_16 0 rfl ?_
    refine vs_iload_n X dX7_writeCertificate_17 1 rfl ?_
    refine vs_iconst X (v := 0) dX7_writeCertificate_18 (by decide) ?_
    refine vs_callVp X  (As := [.int p1, .int 0]) (st' := [rf G 166]) (mtX7_of hl0 p1 0) (cwV 2 X.2.2.2.2.1 gX7_writeCertificate_X7_of rfl rfl rfl (by decide +kernel) ⟨Nat.le_of_ble_eq_true rfl, Nat.le_of_ble_eq_true rfl⟩) (by decide) (by decide) rfl rfl rfl (Nat.le_of_ble_eq_true rfl) dX7_writeCertificate_19 ⟨Nat.le_of_ble_eq_true rfl, Nat.le_of_ble_eq_true rfl⟩ (fun x4 hx4 => ?_)
    refine vs_jn (β := Int32 → Option (Int32 × Wo)) (P := fun k7 => ∀ (x6 : Int32), VS G p l e ({ frames := 9, cells := 0, slots := 0, locals := 190 } : Room) s m args below meth c 2 (fun r => MQ below (QI G r) args s 0 0 (Af G)) (k7 x6) 0 0 S3 39 [(0, rf G 166), (1, .int p1)] [.int x6, rf G 166]) (fun x6 => ?_) (fun k7 hk7 => ?_)
    · refine vs_callVv X  (As := [.int x6]) (st' := []) (mtX7_writes hl0 x6) (cwV 1 X.2.2.2.2.1 gX7_writeCertificate_X7_writes rfl rfl rfl (by decide +kernel) ⟨Nat.le_of_ble_eq_true rfl, Nat.le_of_ble_eq_true rfl⟩) (by decide) (by decide) rfl rfl rfl (Nat.le_of_ble_eq_true rfl) dX7_writeCertificate_39 ⟨Nat.le_of_ble_eq_true rfl, Nat.le_of_ble_eq_true rfl⟩ (fun S8 hS8 => ?_)
      refine vs_aload_n X dX7_writeCertificate_42 0 rfl ?_
      refine vs_bipush X (v := 62) dX7_writeCertificate_43 (by decide) ?_
      refine vs_aload_n X dX7_writeCertificate_45 0 rfl ?_
      refine vs_iload_n X dX7_writeCertificate_46 1 rfl ?_
      refine vs_iconst X (v := 1) dX7_writeCertificate_47 (by decide) ?_
      refine vs_callVp X  (As := [.int p1, .int 1]) (st' := [.int 62, rf G 166]) (mtX7_of hl0 p1 1) (cwV 2 X.2.2.2.2.1 gX7_writeCertificate_X7_of rfl rfl rfl (by decide +kernel) ⟨Nat.le_of_ble_eq_true rfl, Nat.le_of_ble_eq_true rfl⟩) (by decide) (by decide) rfl rfl rfl (Nat.le_of_ble_eq_true rfl) dX7_writeCertificate_48 ⟨Nat.le_of_ble_eq_true rfl, Nat.le_of_ble_eq_true rfl⟩ (fun x9 hx9 => ?_)
      refine vs_callVv X  (As := [.int 62, .int x9]) (st' := []) (mtX7_writesBehind hl0 62 x9) (cwV 2 X.2.2.2.2.1 gX7_writeCertificate_X7_writesBehind rfl rfl rfl (by decide +kernel) ⟨Nat.le_of_ble_eq_true rfl, Nat.le_of_ble_eq_true rfl⟩) (by decide) (by decide) rfl rfl rfl (Nat.le_of_ble_eq_true rfl) dX7_writeCertificate_51 ⟨Nat.le_of_ble_eq_true rfl, Nat.le_of_ble_eq_true rfl⟩ (fun S10 hS10 => ?_)
      refine vs_aload_n X dX7_writeCertificate_54 0 rfl ?_
      refine vs_bipush X (v := 64) dX7_writeCertificate_55 (by decide) ?_
      refine vs_aload_n X dX7_writeCertificate_57 0 rfl ?_
      refine vs_iload_n X dX7_writeCertificate_58 1 rfl ?_
      refine vs_iconst X (v := 2) dX7_writeCertificate_59 (by decide) ?_
      refine vs_callVp X  (As := [.int p1, .int 2]) (st' := [.int 64, rf G 166]) (mtX7_of hl0 p1 2) (cwV 2 X.2.2.2.2.1 gX7_writeCertificate_X7_of rfl rfl rfl (by decide +kernel) ⟨Nat.le_of_ble_eq_true rfl, Nat.le_of_ble_eq_true rfl⟩) (by decide) (by decide) rfl rfl rfl (Nat.le_of_ble_eq_true rfl) dX7_writeCertificate_60 ⟨Nat.le_of_ble_eq_true rfl, Nat.le_of_ble_eq_true rfl⟩ (fun x11 hx11 => ?_)
      refine vs_callVv X  (As := [.int 64, .int x11]) (st' := []) (mtX7_writesBehind hl0 64 x11) (cwV 2 X.2.2.2.2.1 gX7_writeCertificate_X7_writesBehind rfl rfl rfl (by decide +kernel) ⟨Nat.le_of_ble_eq_true rfl, Nat.le_of_ble_eq_true rfl⟩) (by decide) (by decide) rfl rfl rfl (Nat.le_of_ble_eq_true rfl) dX7_writeCertificate_63 ⟨Nat.le_of_ble_eq_true rfl, Nat.le_of_ble_eq_true rfl⟩ (fun S12 hS12 => ?_)
      refine vs_aload_n X dX7_writeCertificate_66 0 rfl ?_
      refine vs_bipush X (v := 60) dX7_writeCertificate_67 (by decide) ?_
      refine vs_aload_n X dX7_writeCertificate_69 0 rfl ?_
      refine vs_iload_n X dX7_writeCertificate_70 1 rfl ?_
      refine vs_iconst X (v := 3) dX7_writeCertificate_71 (by decide) ?_
      refine vs_callVp X  (As := [.int p1, .int 3]) (st' := [.int 60, rf G 166]) (mtX7_of hl0 p1 3) (cwV 2 X.2.2.2.2.1 gX7_writeCertificate_X7_of rfl rfl rfl (by decide +kernel) ⟨Nat.le_of_ble_eq_true rfl, Nat.le_of_ble_eq_true rfl⟩) (by decide) (by decide) rfl rfl rfl (Nat.le_of_ble_eq_true rfl) dX7_writeCertificate_72 ⟨Nat.le_of_ble_eq_true rfl, Nat.le_of_ble_eq_true rfl⟩ (fun x13 hx13 => ?_)
      refine vs_callVv X  (As := [.int 60, .int x13]) (st' := []) (mtX7_writesBehind hl0 60 x13) (cwV 2 X.2.2.2.2.1 gX7_writeCertificate_X7_writesBehind rfl rfl rfl (by decide +kernel) ⟨Nat.le_of_ble_eq_true rfl, Nat.le_of_ble_eq_true rfl⟩) (by decide) (by decide) rfl rfl rfl (Nat.le_of_ble_eq_true rfl) dX7_writeCertificate_75 ⟨Nat.le_of_ble_eq_true rfl, Nat.le_of_ble_eq_true rfl⟩ (fun S14 hS14 => ?_)
      refine vs_aload_n X dX7_writeCertificate_78 0 rfl ?_
      refine vs_iload_n X dX7_writeCertificate_79 1 rfl ?_
      refine vs_callVp X  (As := [.int p1]) (st' := []) (mtX7_isValid hl0 p1) (cwV 1 X.2.2.2.2.1 gX7_writeCertificate_X7_isValid rfl rfl rfl (by decide +kernel) ⟨Nat.le_of_ble_eq_true rfl, Nat.le_of_ble_eq_true rfl⟩) (by decide) (by decide) rfl rfl rfl (Nat.le_of_ble_eq_true rfl) dX7_writeCertificate_80 ⟨Nat.le_of_ble_eq_true rfl, Nat.le_of_ble_eq_true rfl⟩ (fun x15 hx15 => ?_)
      refine vs_if_eq X (tgt := 92) dX7_writeCertificate_83 (by decide) (fun _ => ?_) (fun _ => ?_)
      · refine vs_aload_n X dX7_writeCertificate_92 0 rfl ?_
        refine g_Mod  X hinX7 17 (by decide) (by decide +kernel) rfl rfl dX7_writeCertificate_93 ?_
        exact vs_iret X dX7_writeCertificate_96 (by decide) (by decide)
      · refine vs_aload_n X dX7_writeCertificate_86 0 rfl ?_
        refine vs_bipush X (v := 33) dX7_writeCertificate_87 (by decide) ?_
        refine vs_callVv X  (As := [.int 33]) (st' := []) (mtX7_writes hl0 33) (cwV 1 X.2.2.2.2.1 gX7_writeCertificate_X7_writes rfl rfl rfl (by decide +kernel) ⟨Nat.le_of_ble_eq_true rfl, Nat.le_of_ble_eq_true rfl⟩) (by decide) (by decide) rfl rfl rfl (Nat.le_of_ble_eq_true rfl) dX7_writeCertificate_89 ⟨Nat.le_of_ble_eq_true rfl, Nat.le_of_ble_eq_true rfl⟩ (fun S16 hS16 => ?_)
        refine vs_aload_n X dX7_writeCertificate_92 0 rfl ?_
        refine g_Mod  X hinX7 17 (by decide) (by decide +kernel) rfl rfl dX7_writeCertificate_93 ?_
        exact vs_iret X dX7_writeCertificate_96 (by decide) (by decide)
    · refine vs_if_ge X (tgt := 30) dX7_writeCertificate_22 (by decide) (fun _ => ?_) (fun _ => ?_)
      · refine vs_bipush X (v := 48) dX7_writeCertificate_30 (by decide) ?_
        refine vs_aload_n X dX7_writeCertificate_32 0 rfl ?_
        refine vs_iload_n X dX7_writeCertificate_33 1 rfl ?_
        refine vs_iconst X (v := 0) dX7_writeCertificate_34 (by decide) ?_
        refine vs_callVp X  (As := [.int p1, .int 0]) (st' := [.int 48, rf G 166]) (mtX7_of hl0 p1 0) (cwV 2 X.2.2.2.2.1 gX7_writeCertificate_X7_of rfl rfl rfl (by decide +kernel) ⟨Nat.le_of_ble_eq_true rfl, Nat.le_of_ble_eq_true rfl⟩) (by decide) (by decide) rfl rfl rfl (Nat.le_of_ble_eq_true rfl) dX7_writeCertificate_35 ⟨Nat.le_of_ble_eq_true rfl, Nat.le_of_ble_eq_true rfl⟩ (fun x5 hx5 => ?_)
        refine vs_iadd X dX7_writeCertificate_38 ?_
        exact vs_join [0, 1] (Nat.le_of_ble_eq_true rfl) (Nat.le_of_ble_eq_true rfl) rfl (hk7 (48 + x5))
      · refine vs_bipush X (v := 82) dX7_writeCertificate_25 (by decide) ?_
        refine vs_goto X (tgt := 39) dX7_writeCertificate_27 (by decide) ?_
        exact vs_join [0, 1] (Nat.le_of_ble_eq_true rfl) (Nat.le_of_ble_eq_true rfl) rfl (hk7 82)
  · refine vs_iconst X (v := 0) dX7_writeCertificate_8 (by decide) ?_
    exact vs_iret X dX7_writeCertificate_9 (by decide) (by decide)

def lpX7_writeFields_28  (w2 : Int32) (w1 : Int32)  : Nat → Int32 → Wo → Option (Int32 × Wo)
  | 0, _, _ => none
  | f + 1, v3, S6 => (if (16 : Int32) ≤ v3 then some (S6.1 166 17, S6) else jn (β := Wo → Option (Int32 × Wo)) (fun (S8 : Wo) => (spX7_standing v3 S8).bind (fun x10 => (if (0 : Int32) ≤ x10 then (if inb 15 112 = true then (spX7_has (S8.2.1 167 (ix 15)) x10 S8).bind (fun x11 => (if x11 = 0 then (spX7_has w2 x10 S8).bind (fun x12 => (if x12 = 0 then (spX7_writes 83 S8).bind (fun S13 => lpX7_writeFields_28  w2 w1 f (v3 + 1) S13) else (spX7_writes 67 S8).bind (fun S14 => lpX7_writeFields_28  w2 w1 f (v3 + 1) S14))) else (spX7_writes 82 S8).bind (fun S15 => lpX7_writeFields_28  w2 w1 f (v3 + 1) S15))) else none) else (spX7_has w1 v3 S8).bind (fun x16 => (if x16 = 0 then (spX7_writes 46 S8).bind (fun S17 => lpX7_writeFields_28  w2 w1 f (v3 + 1) S17) else (spX7_writes 43 S8).bind (fun S18 => lpX7_writeFields_28  w2 w1 f (v3 + 1) S18)))))) (fun k9 => (if v3 ≤ 0 then k9 S6 else (if (v3 - v3 / 4 * 4) = 0 then (spX7_writes 47 S6).bind (fun S7 => k9 S7) else k9 S6))))
def spX7_writeFields  (S : Wo) : Option (Int32 × Wo) :=
  wr (pI S 166 9 0) (fun S1 => (spX7_guards  S1).bind (fun x2 => (if inb 2 112 = true then (spX7_certified (S1.2.1 167 (ix 2)) S1).bind (fun x3 => wr (pI S1 166 17 0) (fun S4 => lpX7_writeFields_28  x3 x2 200 0 S4)) else none)))
set_option maxHeartbeats 4000000 in
set_option maxRecDepth 100000 in
theorem mtX7_writeFields {l : Launch} (hl0 : l.stackTraces = false) {G : Gt}  {S : Wo} : ∀ rr, spX7_writeFields  S = some rr → MI l yX7_writeFields wsX7_writeFields { frames := 4, cells := 0, slots := 0, locals := 94 } G S [rf G 166] rr 0 0 := by
  refine MI_of (cc := cX7_writeFields) (own := RX7) (maxL := 5) (ret := (some .int)) (sp := spX7_writeFields  S) (by decide +kernel) rfl rfl (Nat.le_of_ble_eq_true rfl) ?_
  intro p e s m args below meth c X
  have hinX7 : ∀ w ∈ wsX70, w ∈ wsX7_writeFields := by decide +kernel
  show VS G p l e _ s m args below meth c 5 _ _ 0 0 S 0 [(0, rf G 166)] []
  unfold spX7_writeFields
  refine vs_aload_n X dX7_writeFields_0 0 rfl ?_
  refine vs_iconst X (v := 0) dX7_writeFields_1 (by decide) ?_
  refine p_Mod  X hinX7 9 (by decide) (by decide +kernel) rfl rfl rfl rfl rfl rfl dX7_writeFields_2 (fun S1 hS1 => ?_)
  refine vs_aload_n X dX7_writeFields_5 0 rfl ?_
  refine vs_callVp X  (As := []) (st' := []) (mtX7_guards hl0 ) (cwV 0 X.2.2.2.2.1 gX7_writeFields_X7_guards rfl rfl rfl (by decide +kernel) ⟨Nat.le_of_ble_eq_true rfl, Nat.le_of_ble_eq_true rfl⟩) (by decide) (by decide) rfl rfl rfl (Nat.le_of_ble_eq_true rfl) dX7_writeFields_6 ⟨Nat.le_of_ble_eq_true rfl, Nat.le_of_ble_eq_true rfl⟩ (fun x2 hx2 => ?_)
  refine vs_istore_n X (lv' := [(1, .int x2), (0, rf G 166)]) dX7_writeFields_9 (by decide) rfl ?_
  refine vs_aload_n X dX7_writeFields_10 1 rfl ?_
  refine vs_aload_n X dX7_writeFields_11 1 rfl ?_
  refine g_Mod  X hinX7 0 (by decide) (by decide +kernel) rfl rfl dX7_writeFields_12 ?_
  refine vs_iconst X (v := 2) dX7_writeFields_15 (by decide) ?_
  refine vs_iald X (by decide) (by decide) rfl dX7_writeFields_16 ?_
  refine vs_callVp X  (As := [.int (S1.2.1 167 (ix 2))]) (st' := []) (mtX7_certified hl0 (S1.2.1 167 (ix 2))) (cwV 1 X.2.2.2.2.1 gX7_writeFields_X7_certified rfl rfl rfl (by decide +kernel) ⟨Nat.le_of_ble_eq_true rfl, Nat.le_of_ble_eq_true rfl⟩) (by decide) (by decide) rfl rfl rfl (Nat.le_of_ble_eq_true rfl) dX7_writeFields_17 ⟨Nat.le_of_ble_eq_true rfl, Nat.le_of_ble_eq_true rfl⟩ (fun x3 hx3 => ?_)
  refine vs_istore_n X (lv' := [(2, .int x3), (1, .int x2), (0, rf G 166)]) dX7_writeFields_20 (by decide) rfl ?_
  refine vs_aload_n X dX7_writeFields_21 2 rfl ?_
  refine vs_iconst X (v := 0) dX7_writeFields_22 (by decide) ?_
  refine p_Mod  X hinX7 17 (by decide) (by decide +kernel) rfl rfl rfl rfl rfl rfl dX7_writeFields_23 (fun S4 hS4 => ?_)
  refine vs_iconst X (v := 0) dX7_writeFields_26 (by decide) ?_
  refine vs_istore_n X (lv' := [(3, .int 0), (2, .int x3), (1, .int x2), (0, rf G 166)]) dX7_writeFields_27 (by decide) rfl ?_
  have L5 : ∀ (w2 : Int32) (w1 : Int32) (f : Nat) (v3 : Int32) (S6 : Wo), VS G p l e ({ frames := 4, cells := 0, slots := 0, locals := 94 } : Room) s m args below meth c 5 (fun r => MQ below (QI G r) args s 0 0 (Af G)) (lpX7_writeFields_28  w2 w1 f v3 S6) 0 0 S6 28 [(0, rf G 166), (1, .int w1), (2, .int w2), (3, .int v3)] [] := by
    intro w2 w1 f
    induction f with
    | zero => intro v3 S6; exact vs_none rfl
    | succ f ih =>
        intro v3 S6
        rw [lpX7_writeFields_28]
        refine vs_iload_n X dX7_writeFields_28 3 rfl ?_
        refine vs_bipush X (v := 16) dX7_writeFields_29 (by decide) ?_
        refine vs_icmp_ge X (tgt := 130) dX7_writeFields_31 (by decide) (fun _ => ?_) (fun _ => ?_)
        · refine vs_aload_n X dX7_writeFields_130 0 rfl ?_
          refine g_Mod  X hinX7 17 (by decide) (by decide +kernel) rfl rfl dX7_writeFields_131 ?_
          exact vs_iret X dX7_writeFields_134 (by decide) (by decide)
        · refine vs_iload_n X dX7_writeFields_34 3 rfl ?_
          refine vs_jn (β := Wo → Option (Int32 × Wo)) (P := fun k9 => ∀ (S8 : Wo), VS G p l e ({ frames := 4, cells := 0, slots := 0, locals := 94 } : Room) s m args below meth c 5 (fun r => MQ below (QI G r) args s 0 0 (Af G)) (k9 S8) 0 0 S8 50 [(0, rf G 166), (1, .int w1), (2, .int w2), (3, .int v3)] []) (fun S8 => ?_) (fun k9 hk9 => ?_)
          · refine vs_aload_n X dX7_writeFields_50 0 rfl ?_
            refine vs_iload_n X dX7_writeFields_51 3 rfl ?_
            refine vs_callVp X  (As := [.int v3]) (st' := []) (mtX7_standing hl0 v3) (cwV 1 X.2.2.2.2.1 gX7_writeFields_X7_standing rfl rfl rfl (by decide +kernel) ⟨Nat.le_of_ble_eq_true rfl, Nat.le_of_ble_eq_true rfl⟩) (by decide) (by decide) rfl rfl rfl (Nat.le_of_ble_eq_true rfl) dX7_writeFields_52 ⟨Nat.le_of_ble_eq_true rfl, Nat.le_of_ble_eq_true rfl⟩ (fun x10 hx10 => ?_)
            refine vs_istore X (lv' := [(4, .int x10), (0, rf G 166), (1, .int w1), (2, .int w2), (3, .int v3)]) dX7_writeFields_55 (by decide) rfl ?_
            refine vs_iload X dX7_writeFields_57 0 rfl ?_
            refine vs_if_ge X (tgt := 84) dX7_writeFields_59 (by decide) (fun _ => ?_) (fun _ => ?_)
            · refine vs_aload_n X dX7_writeFields_84 1 rfl ?_
              refine vs_aload_n X dX7_writeFields_85 1 rfl ?_
              refine g_Mod  X hinX7 0 (by decide) (by decide +kernel) rfl rfl dX7_writeFields_86 ?_
              refine vs_bipush X (v := 15) dX7_writeFields_89 (by decide) ?_
              refine vs_iald X (by decide) (by decide) rfl dX7_writeFields_91 ?_
              refine vs_iload X dX7_writeFields_92 0 rfl ?_
              refine vs_callSp X  (As := [.int (S8.2.1 167 (ix 15)), .int x10]) (st' := [rf G 166]) (mtX7_has hl0 (S8.2.1 167 (ix 15)) x10) (va_cwS 2 X.2.2.2.2.1 gX7_writeFields_X7_has rfl rfl rfl (by decide +kernel) ⟨Nat.le_of_ble_eq_true rfl, Nat.le_of_ble_eq_true rfl⟩) rfl (Nat.le_of_ble_eq_true rfl) dX7_writeFields_94 ⟨Nat.le_of_ble_eq_true rfl, Nat.le_of_ble_eq_true rfl⟩ (fun x11 hx11 => ?_)
              refine vs_if_eq X (tgt := 105) dX7_writeFields_97 (by decide) (fun _ => ?_) (fun _ => ?_)
              · refine vs_iload_n X dX7_writeFields_105 3 rfl ?_
                refine vs_iload X dX7_writeFields_106 0 rfl ?_
                refine vs_callSp X  (As := [.int w2, .int x10]) (st' := [rf G 166]) (mtX7_has hl0 w2 x10) (va_cwS 2 X.2.2.2.2.1 gX7_writeFields_X7_has rfl rfl rfl (by decide +kernel) ⟨Nat.le_of_ble_eq_true rfl, Nat.le_of_ble_eq_true rfl⟩) rfl (Nat.le_of_ble_eq_true rfl) dX7_writeFields_108 ⟨Nat.le_of_ble_eq_true rfl, Nat.le_of_ble_eq_true rfl⟩ (fun x12 hx12 => ?_)
                refine vs_if_eq X (tgt := 119) dX7_writeFields_111 (by decide) (fun _ => ?_) (fun _ => ?_)
                · refine vs_bipush X (v := 83) dX7_writeFields_119 (by decide) ?_
                  refine vs_callVv X  (As := [.int 83]) (st' := []) (mtX7_writes hl0 83) (cwV 1 X.2.2.2.2.1 gX7_writeFields_X7_writes rfl rfl rfl (by decide +kernel) ⟨Nat.le_of_ble_eq_true rfl, Nat.le_of_ble_eq_true rfl⟩) (by decide) (by decide) rfl rfl rfl (Nat.le_of_ble_eq_true rfl) dX7_writeFields_121 ⟨Nat.le_of_ble_eq_true rfl, Nat.le_of_ble_eq_true rfl⟩ (fun S13 hS13 => ?_)
                  refine vs_iinc X (v := (v3 + 1)) (lv' := [(3, .int (v3 + 1)), (4, .int x10), (0, rf G 166), (1, .int w1), (2, .int w2)]) dX7_writeFields_124 4 rfl rfl (by decide) rfl ?_
                  refine vs_goto X (tgt := 28) dX7_writeFields_127 (by decide) ?_
                  refine vs_sub [2, 3, 4, 0] (lv' := [(0, rf G 166), (1, .int w1), (2, .int w2), (3, .int (v3 + 1))]) rfl ?_
                  exact ih (v3 + 1) S13
                · refine vs_bipush X (v := 67) dX7_writeFields_114 (by decide) ?_
                  refine vs_goto X (tgt := 121) dX7_writeFields_116 (by decide) ?_
                  refine vs_callVv X  (As := [.int 67]) (st' := []) (mtX7_writes hl0 67) (cwV 1 X.2.2.2.2.1 gX7_writeFields_X7_writes rfl rfl rfl (by decide +kernel) ⟨Nat.le_of_ble_eq_true rfl, Nat.le_of_ble_eq_true rfl⟩) (by decide) (by decide) rfl rfl rfl (Nat.le_of_ble_eq_true rfl) dX7_writeFields_121 ⟨Nat.le_of_ble_eq_true rfl, Nat.le_of_ble_eq_true rfl⟩ (fun S14 hS14 => ?_)
                  refine vs_iinc X (v := (v3 + 1)) (lv' := [(3, .int (v3 + 1)), (4, .int x10), (0, rf G 166), (1, .int w1), (2, .int w2)]) dX7_writeFields_124 4 rfl rfl (by decide) rfl ?_
                  refine vs_goto X (tgt := 28) dX7_writeFields_127 (by decide) ?_
                  refine vs_sub [2, 3, 4, 0] (lv' := [(0, rf G 166), (1, .int w1), (2, .int w2), (3, .int (v3 + 1))]) rfl ?_
                  exact ih (v3 + 1) S14
              · refine vs_bipush X (v := 82) dX7_writeFields_100 (by decide) ?_
                refine vs_goto X (tgt := 121) dX7_writeFields_102 (by decide) ?_
                refine vs_callVv X  (As := [.int 82]) (st' := []) (mtX7_writes hl0 82) (cwV 1 X.2.2.2.2.1 gX7_writeFields_X7_writes rfl rfl rfl (by decide +kernel) ⟨Nat.le_of_ble_eq_true rfl, Nat.le_of_ble_eq_true rfl⟩) (by decide) (by decide) rfl rfl rfl (Nat.le_of_ble_eq_true rfl) dX7_writeFields_121 ⟨Nat.le_of_ble_eq_true rfl, Nat.le_of_ble_eq_true rfl⟩ (fun S15 hS15 => ?_)
                refine vs_iinc X (v := (v3 + 1)) (lv' := [(3, .int (v3 + 1)), (4, .int x10), (0, rf G 166), (1, .int w1), (2, .int w2)]) dX7_writeFields_124 4 rfl rfl (by decide) rfl ?_
                refine vs_goto X (tgt := 28) dX7_writeFields_127 (by decide) ?_
                refine vs_sub [2, 3, 4, 0] (lv' := [(0, rf G 166), (1, .int w1), (2, .int w2), (3, .int (v3 + 1))]) rfl ?_
                exact ih (v3 + 1) S15
            · refine vs_aload_n X dX7_writeFields_62 1 rfl ?_
              refine vs_iload_n X dX7_writeFields_63 2 rfl ?_
              refine vs_iload_n X dX7_writeFields_64 4 rfl ?_
              refine vs_callSp X  (As := [.int w1, .int v3]) (st' := [rf G 166]) (mtX7_has hl0 w1 v3) (va_cwS 2 X.2.2.2.2.1 gX7_writeFields_X7_has rfl rfl rfl (by decide +kernel) ⟨Nat.le_of_ble_eq_true rfl, Nat.le_of_ble_eq_true rfl⟩) rfl (Nat.le_of_ble_eq_true rfl) dX7_writeFields_65 ⟨Nat.le_of_ble_eq_true rfl, Nat.le_of_ble_eq_true rfl⟩ (fun x16 hx16 => ?_)
              refine vs_if_eq X (tgt := 76) dX7_writeFields_68 (by decide) (fun _ => ?_) (fun _ => ?_)
              · refine vs_bipush X (v := 46) dX7_writeFields_76 (by decide) ?_
                refine vs_callVv X  (As := [.int 46]) (st' := []) (mtX7_writes hl0 46) (cwV 1 X.2.2.2.2.1 gX7_writeFields_X7_writes rfl rfl rfl (by decide +kernel) ⟨Nat.le_of_ble_eq_true rfl, Nat.le_of_ble_eq_true rfl⟩) (by decide) (by decide) rfl rfl rfl (Nat.le_of_ble_eq_true rfl) dX7_writeFields_78 ⟨Nat.le_of_ble_eq_true rfl, Nat.le_of_ble_eq_true rfl⟩ (fun S17 hS17 => ?_)
                refine vs_goto X (tgt := 124) dX7_writeFields_81 (by decide) ?_
                refine vs_iinc X (v := (v3 + 1)) (lv' := [(3, .int (v3 + 1)), (4, .int x10), (0, rf G 166), (1, .int w1), (2, .int w2)]) dX7_writeFields_124 4 rfl rfl (by decide) rfl ?_
                refine vs_goto X (tgt := 28) dX7_writeFields_127 (by decide) ?_
                refine vs_sub [2, 3, 4, 0] (lv' := [(0, rf G 166), (1, .int w1), (2, .int w2), (3, .int (v3 + 1))]) rfl ?_
                exact ih (v3 + 1) S17
              · refine vs_bipush X (v := 43) dX7_writeFields_71 (by decide) ?_
                refine vs_goto X (tgt := 78) dX7_writeFields_73 (by decide) ?_
                refine vs_callVv X  (As := [.int 43]) (st' := []) (mtX7_writes hl0 43) (cwV 1 X.2.2.2.2.1 gX7_writeFields_X7_writes rfl rfl rfl (by decide +kernel) ⟨Nat.le_of_ble_eq_true rfl, Nat.le_of_ble_eq_true rfl⟩) (by decide) (by decide) rfl rfl rfl (Nat.le_of_ble_eq_true rfl) dX7_writeFields_78 ⟨Nat.le_of_ble_eq_true rfl, Nat.le_of_ble_eq_true rfl⟩ (fun S18 hS18 => ?_)
                refine vs_goto X (tgt := 124) dX7_writeFields_81 (by decide) ?_
                refine vs_iinc X (v := (v3 + 1)) (lv' := [(3, .int (v3 + 1)), (4, .int x10), (0, rf G 166), (1, .int w1), (2, .int w2)]) dX7_writeFields_124 4 rfl rfl (by decide) rfl ?_
                refine vs_goto X (tgt := 28) dX7_writeFields_127 (by decide) ?_
                refine vs_sub [2, 3, 4, 0] (lv' := [(0, rf G 166), (1, .int w1), (2, .int w2), (3, .int (v3 + 1))]) rfl ?_
                exact ih (v3 + 1) S18
          · refine vs_if_le X (tgt := 50) dX7_writeFields_35 (by decide) (fun _ => ?_) (fun _ => ?_)
            · exact vs_join [0, 1, 2, 3] (Nat.le_of_ble_eq_true rfl) (Nat.le_of_ble_eq_true rfl) rfl (hk9 S6)
            · refine vs_iload_n X dX7_writeFields_38 3 rfl ?_
              refine vs_iconst X (v := 4) dX7_writeFields_39 (by decide) ?_
              refine vs_irem X dX7_writeFields_40 (by decide) ?_
              refine vs_if_ne X (tgt := 50) dX7_writeFields_41 (by decide) (fun _ => ?_) (fun _ => ?_)
              · refine vs_aload_n X dX7_writeFields_44 0 rfl ?_
                refine vs_bipush X (v := 47) dX7_writeFields_45 (by decide) ?_
                refine vs_callVv X  (As := [.int 47]) (st' := []) (mtX7_writes hl0 47) (cwV 1 X.2.2.2.2.1 gX7_writeFields_X7_writes rfl rfl rfl (by decide +kernel) ⟨Nat.le_of_ble_eq_true rfl, Nat.le_of_ble_eq_true rfl⟩) (by decide) (by decide) rfl rfl rfl (Nat.le_of_ble_eq_true rfl) dX7_writeFields_47 ⟨Nat.le_of_ble_eq_true rfl, Nat.le_of_ble_eq_true rfl⟩ (fun S7 hS7 => ?_)
                exact vs_join [0, 1, 2, 3] (Nat.le_of_ble_eq_true rfl) (Nat.le_of_ble_eq_true rfl) rfl (hk9 S7)
              · exact vs_join [0, 1, 2, 3] (Nat.le_of_ble_eq_true rfl) (Nat.le_of_ble_eq_true rfl) rfl (hk9 S6)
  refine vs_sub [3, 2, 1, 0] (lv' := [(0, rf G 166), (1, .int x2), (2, .int x3), (3, .int 0)]) rfl ?_
  exact L5 x3 x2 200 0 S4

def spX7_lineCharacter (p1 : Int32) (S : Wo) : Option (Int32 × Wo) :=
  (spX7_in p1 0 (S.1 166 17 - 1) S).bind (fun x1 => jn (β := Int32 → Option (Int32 × Wo)) (fun (x2 : Int32) => bd2 (spX7_fails x2 S) (fun x4 S5 => (if x4 = 0 then (if inb p1 40 = true then rcc (S5.2.1 173 (ix p1)) (fun y => some (y, S5)) else none) else rcc 32 (fun y => some (y, S5))))) (fun k3 => (if x1 = 0 then k3 1 else k3 0)))
set_option maxHeartbeats 4000000 in
set_option maxRecDepth 100000 in
theorem mtX7_lineCharacter {l : Launch} (hl0 : l.stackTraces = false) {G : Gt} (p1 : Int32) {S : Wo} : ∀ rr, spX7_lineCharacter p1 S = some rr → MI l yX7_lineCharacter wsX7_lineCharacter { frames := 1, cells := 0, slots := 0, locals := 22 } G S [rf G 166, .int p1] rr 0 0 := by
  refine MI_of (cc := cX7_lineCharacter) (own := RX7) (maxL := 2) (ret := (some .char)) (sp := spX7_lineCharacter p1 S) (by decide +kernel) rfl rfl (Nat.le_of_ble_eq_true rfl) ?_
  intro p e s m args below meth c X
  have hinX7 : ∀ w ∈ wsX70, w ∈ wsX7_lineCharacter := by decide +kernel
  show VS G p l e _ s m args below meth c 2 _ _ 0 0 S 0 [(0, rf G 166), (1, .int p1)] []
  unfold spX7_lineCharacter
  refine vs_aload_n X dX7_lineCharacter_0 0 rfl ?_
  refine vs_iload_n X dX7_lineCharacter_1 1 rfl ?_
  refine vs_iconst X (v := 0) dX7_lineCharacter_2 (by decide) ?_
  refine vs_aload_n X dX7_lineCharacter_3 0 rfl ?_
  refine g_Mod  X hinX7 17 (by decide) (by decide +kernel) rfl rfl dX7_lineCharacter_4 ?_
  refine vs_iconst X (v := 1) dX7_lineCharacter_7 (by decide) ?_
  refine vs_isub X dX7_lineCharacter_8 ?_
  refine vs_callSp X  (As := [.int p1, .int 0, .int (S.1 166 17 - 1)]) (st' := [rf G 166]) (mtX7_in hl0 p1 0 (S.1 166 17 - 1)) (va_cwS 3 X.2.2.2.2.1 gX7_lineCharacter_X7_in rfl rfl rfl (by decide +kernel) ⟨Nat.le_of_ble_eq_true rfl, Nat.le_of_ble_eq_true rfl⟩) rfl (Nat.le_of_ble_eq_true rfl) dX7_lineCharacter_9 ⟨Nat.le_of_ble_eq_true rfl, Nat.le_of_ble_eq_true rfl⟩ (fun x1 hx1 => ?_)
  refine vs_jn (β := Int32 → Option (Int32 × Wo)) (P := fun k3 => ∀ (x2 : Int32), VS G p l e ({ frames := 1, cells := 0, slots := 0, locals := 22 } : Room) s m args below meth c 2 (fun r => MQ below (QI G r) args s 0 0 (Af G)) (k3 x2) 0 0 S 20 [(0, rf G 166), (1, .int p1)] [.int x2, rf G 166]) (fun x2 => ?_) (fun k3 hk3 => ?_)
  · refine vs_callVi X  (As := [.int x2]) (st' := []) (mtX7_fails hl0 x2) (cwV 1 X.2.2.2.2.1 gX7_lineCharacter_X7_fails rfl rfl rfl (by decide +kernel) ⟨Nat.le_of_ble_eq_true rfl, Nat.le_of_ble_eq_true rfl⟩) (by decide) (by decide) rfl rfl rfl (Nat.le_of_ble_eq_true rfl) dX7_lineCharacter_20 ⟨Nat.le_of_ble_eq_true rfl, Nat.le_of_ble_eq_true rfl⟩ (fun x4 S5 hx4 => ?_)
    refine vs_if_eq X (tgt := 31) dX7_lineCharacter_23 (by decide) (fun _ => ?_) (fun _ => ?_)
    · refine vs_aload_n X dX7_lineCharacter_31 0 rfl ?_
      refine g_Mod  X hinX7 16 (by decide) (by decide +kernel) rfl rfl dX7_lineCharacter_32 ?_
      refine vs_iload_n X dX7_lineCharacter_35 1 rfl ?_
      refine vs_cald X (by decide) (by decide) rfl dX7_lineCharacter_36 ?_
      exact vs_cret X dX7_lineCharacter_37 (by decide) (by decide)
    · refine vs_bipush X (v := 32) dX7_lineCharacter_26 (by decide) ?_
      refine vs_goto X (tgt := 37) dX7_lineCharacter_28 (by decide) ?_
      exact vs_cret X dX7_lineCharacter_37 (by decide) (by decide)
  · refine vs_if_eq X (tgt := 19) dX7_lineCharacter_12 (by decide) (fun _ => ?_) (fun _ => ?_)
    · refine vs_iconst X (v := 1) dX7_lineCharacter_19 (by decide) ?_
      exact vs_join [0, 1] (Nat.le_of_ble_eq_true rfl) (Nat.le_of_ble_eq_true rfl) rfl (hk3 1)
    · refine vs_iconst X (v := 0) dX7_lineCharacter_15 (by decide) ?_
      refine vs_goto X (tgt := 20) dX7_lineCharacter_16 (by decide) ?_
      exact vs_join [0, 1] (Nat.le_of_ble_eq_true rfl) (Nat.le_of_ble_eq_true rfl) rfl (hk3 0)

def spX7_denial  (S : Wo) : Option (Int32 × Wo) :=
  (if S.1 166 10 = 0 then bd2 (spX7_fails 1 S) (fun x1 S2 => (if x1 = 0 then some (S2.1 166 10, S2) else some (0, S2))) else bd2 (spX7_fails 0 S) (fun x3 S4 => (if x3 = 0 then some (S4.1 166 10, S4) else some (0, S4))))
set_option maxHeartbeats 4000000 in
set_option maxRecDepth 100000 in
theorem mtX7_denial {l : Launch} (hl0 : l.stackTraces = false) {G : Gt}  {S : Wo} : ∀ rr, spX7_denial  S = some rr → MI l yX7_denial wsX7_denial { frames := 1, cells := 0, slots := 0, locals := 21 } G S [rf G 166] rr 0 0 := by
  refine MI_of (cc := cX7_denial) (own := RX7) (maxL := 1) (ret := (some .int)) (sp := spX7_denial  S) (by decide +kernel) rfl rfl (Nat.le_of_ble_eq_true rfl) ?_
  intro p e s m args below meth c X
  have hinX7 : ∀ w ∈ wsX70, w ∈ wsX7_denial := by decide +kernel
  show VS G p l e _ s m args below meth c 1 _ _ 0 0 S 0 [(0, rf G 166)] []
  unfold spX7_denial
  refine vs_aload_n X dX7_denial_0 0 rfl ?_
  refine vs_aload_n X dX7_denial_1 0 rfl ?_
  refine g_Mod  X hinX7 10 (by decide) (by decide +kernel) rfl rfl dX7_denial_2 ?_
  refine vs_if_ne X (tgt := 12) dX7_denial_5 (by decide) (fun _ => ?_) (fun _ => ?_)
  · refine vs_iconst X (v := 1) dX7_denial_8 (by decide) ?_
    refine vs_goto X (tgt := 13) dX7_denial_9 (by decide) ?_
    refine vs_callVi X  (As := [.int 1]) (st' := []) (mtX7_fails hl0 1) (cwV 1 X.2.2.2.2.1 gX7_denial_X7_fails rfl rfl rfl (by decide +kernel) ⟨Nat.le_of_ble_eq_true rfl, Nat.le_of_ble_eq_true rfl⟩) (by decide) (by decide) rfl rfl rfl (Nat.le_of_ble_eq_true rfl) dX7_denial_13 ⟨Nat.le_of_ble_eq_true rfl, Nat.le_of_ble_eq_true rfl⟩ (fun x1 S2 hx1 => ?_)
    refine vs_if_eq X (tgt := 23) dX7_denial_16 (by decide) (fun _ => ?_) (fun _ => ?_)
    · refine vs_aload_n X dX7_denial_23 0 rfl ?_
      refine g_Mod  X hinX7 10 (by decide) (by decide +kernel) rfl rfl dX7_denial_24 ?_
      exact vs_iret X dX7_denial_27 (by decide) (by decide)
    · refine vs_iconst X (v := 0) dX7_denial_19 (by decide) ?_
      refine vs_goto X (tgt := 27) dX7_denial_20 (by decide) ?_
      exact vs_iret X dX7_denial_27 (by decide) (by decide)
  · refine vs_iconst X (v := 0) dX7_denial_12 (by decide) ?_
    refine vs_callVi X  (As := [.int 0]) (st' := []) (mtX7_fails hl0 0) (cwV 1 X.2.2.2.2.1 gX7_denial_X7_fails rfl rfl rfl (by decide +kernel) ⟨Nat.le_of_ble_eq_true rfl, Nat.le_of_ble_eq_true rfl⟩) (by decide) (by decide) rfl rfl rfl (Nat.le_of_ble_eq_true rfl) dX7_denial_13 ⟨Nat.le_of_ble_eq_true rfl, Nat.le_of_ble_eq_true rfl⟩ (fun x3 S4 hx3 => ?_)
    refine vs_if_eq X (tgt := 23) dX7_denial_16 (by decide) (fun _ => ?_) (fun _ => ?_)
    · refine vs_aload_n X dX7_denial_23 0 rfl ?_
      refine g_Mod  X hinX7 10 (by decide) (by decide +kernel) rfl rfl dX7_denial_24 ?_
      exact vs_iret X dX7_denial_27 (by decide) (by decide)
    · refine vs_iconst X (v := 0) dX7_denial_19 (by decide) ?_
      refine vs_goto X (tgt := 27) dX7_denial_20 (by decide) ?_
      exact vs_iret X dX7_denial_27 (by decide) (by decide)

def spX7_denialDetail  (S : Wo) : Option (Int32 × Wo) :=
  (if S.1 166 10 = 0 then bd2 (spX7_fails 1 S) (fun x1 S2 => (if x1 = 0 then some (S2.1 166 11, S2) else some (0, S2))) else bd2 (spX7_fails 0 S) (fun x3 S4 => (if x3 = 0 then some (S4.1 166 11, S4) else some (0, S4))))
set_option maxHeartbeats 4000000 in
set_option maxRecDepth 100000 in
theorem mtX7_denialDetail {l : Launch} (hl0 : l.stackTraces = false) {G : Gt}  {S : Wo} : ∀ rr, spX7_denialDetail  S = some rr → MI l yX7_denialDetail wsX7_denialDetail { frames := 1, cells := 0, slots := 0, locals := 21 } G S [rf G 166] rr 0 0 := by
  refine MI_of (cc := cX7_denialDetail) (own := RX7) (maxL := 1) (ret := (some .int)) (sp := spX7_denialDetail  S) (by decide +kernel) rfl rfl (Nat.le_of_ble_eq_true rfl) ?_
  intro p e s m args below meth c X
  have hinX7 : ∀ w ∈ wsX70, w ∈ wsX7_denialDetail := by decide +kernel
  show VS G p l e _ s m args below meth c 1 _ _ 0 0 S 0 [(0, rf G 166)] []
  unfold spX7_denialDetail
  refine vs_aload_n X dX7_denialDetail_0 0 rfl ?_
  refine vs_aload_n X dX7_denialDetail_1 0 rfl ?_
  refine g_Mod  X hinX7 10 (by decide) (by decide +kernel) rfl rfl dX7_denialDetail_2 ?_
  refine vs_if_ne X (tgt := 12) dX7_denialDetail_5 (by decide) (fun _ => ?_) (fun _ => ?_)
  · refine vs_iconst X (v := 1) dX7_denialDetail_8 (by decide) ?_
    refine vs_goto X (tgt := 13) dX7_denialDetail_9 (by decide) ?_
    refine vs_callVi X  (As := [.int 1]) (st' := []) (mtX7_fails hl0 1) (cwV 1 X.2.2.2.2.1 gX7_denialDetail_X7_fails rfl rfl rfl (by decide +kernel) ⟨Nat.le_of_ble_eq_true rfl, Nat.le_of_ble_eq_true rfl⟩) (by decide) (by decide) rfl rfl rfl (Nat.le_of_ble_eq_true rfl) dX7_denialDetail_13 ⟨Nat.le_of_ble_eq_true rfl, Nat.le_of_ble_eq_true rfl⟩ (fun x1 S2 hx1 => ?_)
    refine vs_if_eq X (tgt := 23) dX7_denialDetail_16 (by decide) (fun _ => ?_) (fun _ => ?_)
    · refine vs_aload_n X dX7_denialDetail_23 0 rfl ?_
      refine g_Mod  X hinX7 11 (by decide) (by decide +kernel) rfl rfl dX7_denialDetail_24 ?_
      exact vs_iret X dX7_denialDetail_27 (by decide) (by decide)
    · refine vs_iconst X (v := 0) dX7_denialDetail_19 (by decide) ?_
      refine vs_goto X (tgt := 27) dX7_denialDetail_20 (by decide) ?_
      exact vs_iret X dX7_denialDetail_27 (by decide) (by decide)
  · refine vs_iconst X (v := 0) dX7_denialDetail_12 (by decide) ?_
    refine vs_callVi X  (As := [.int 0]) (st' := []) (mtX7_fails hl0 0) (cwV 1 X.2.2.2.2.1 gX7_denialDetail_X7_fails rfl rfl rfl (by decide +kernel) ⟨Nat.le_of_ble_eq_true rfl, Nat.le_of_ble_eq_true rfl⟩) (by decide) (by decide) rfl rfl rfl (Nat.le_of_ble_eq_true rfl) dX7_denialDetail_13 ⟨Nat.le_of_ble_eq_true rfl, Nat.le_of_ble_eq_true rfl⟩ (fun x3 S4 hx3 => ?_)
    refine vs_if_eq X (tgt := 23) dX7_denialDetail_16 (by decide) (fun _ => ?_) (fun _ => ?_)
    · refine vs_aload_n X dX7_denialDetail_23 0 rfl ?_
      refine g_Mod  X hinX7 11 (by decide) (by decide +kernel) rfl rfl dX7_denialDetail_24 ?_
      exact vs_iret X dX7_denialDetail_27 (by decide) (by decide)
    · refine vs_iconst X (v := 0) dX7_denialDetail_19 (by decide) ?_
      refine vs_goto X (tgt := 27) dX7_denialDetail_20 (by decide) ?_
      exact vs_iret X dX7_denialDetail_27 (by decide) (by decide)

def spX7_denialCause  (S : Wo) : Option (Int32 × Wo) :=
  (if S.1 166 12 = 0 then bd2 (spX7_fails 1 S) (fun x1 S2 => (if x1 = 0 then some (S2.1 166 12, S2) else some (0, S2))) else bd2 (spX7_fails 0 S) (fun x3 S4 => (if x3 = 0 then some (S4.1 166 12, S4) else some (0, S4))))
set_option maxHeartbeats 4000000 in
set_option maxRecDepth 100000 in
theorem mtX7_denialCause {l : Launch} (hl0 : l.stackTraces = false) {G : Gt}  {S : Wo} : ∀ rr, spX7_denialCause  S = some rr → MI l yX7_denialCause wsX7_denialCause { frames := 1, cells := 0, slots := 0, locals := 21 } G S [rf G 166] rr 0 0 := by
  refine MI_of (cc := cX7_denialCause) (own := RX7) (maxL := 1) (ret := (some .int)) (sp := spX7_denialCause  S) (by decide +kernel) rfl rfl (Nat.le_of_ble_eq_true rfl) ?_
  intro p e s m args below meth c X
  have hinX7 : ∀ w ∈ wsX70, w ∈ wsX7_denialCause := by decide +kernel
  show VS G p l e _ s m args below meth c 1 _ _ 0 0 S 0 [(0, rf G 166)] []
  unfold spX7_denialCause
  refine vs_aload_n X dX7_denialCause_0 0 rfl ?_
  refine vs_aload_n X dX7_denialCause_1 0 rfl ?_
  refine g_Mod  X hinX7 12 (by decide) (by decide +kernel) rfl rfl dX7_denialCause_2 ?_
  refine vs_if_ne X (tgt := 12) dX7_denialCause_5 (by decide) (fun _ => ?_) (fun _ => ?_)
  · refine vs_iconst X (v := 1) dX7_denialCause_8 (by decide) ?_
    refine vs_goto X (tgt := 13) dX7_denialCause_9 (by decide) ?_
    refine vs_callVi X  (As := [.int 1]) (st' := []) (mtX7_fails hl0 1) (cwV 1 X.2.2.2.2.1 gX7_denialCause_X7_fails rfl rfl rfl (by decide +kernel) ⟨Nat.le_of_ble_eq_true rfl, Nat.le_of_ble_eq_true rfl⟩) (by decide) (by decide) rfl rfl rfl (Nat.le_of_ble_eq_true rfl) dX7_denialCause_13 ⟨Nat.le_of_ble_eq_true rfl, Nat.le_of_ble_eq_true rfl⟩ (fun x1 S2 hx1 => ?_)
    refine vs_if_eq X (tgt := 23) dX7_denialCause_16 (by decide) (fun _ => ?_) (fun _ => ?_)
    · refine vs_aload_n X dX7_denialCause_23 0 rfl ?_
      refine g_Mod  X hinX7 12 (by decide) (by decide +kernel) rfl rfl dX7_denialCause_24 ?_
      exact vs_iret X dX7_denialCause_27 (by decide) (by decide)
    · refine vs_iconst X (v := 0) dX7_denialCause_19 (by decide) ?_
      refine vs_goto X (tgt := 27) dX7_denialCause_20 (by decide) ?_
      exact vs_iret X dX7_denialCause_27 (by decide) (by decide)
  · refine vs_iconst X (v := 0) dX7_denialCause_12 (by decide) ?_
    refine vs_callVi X  (As := [.int 0]) (st' := []) (mtX7_fails hl0 0) (cwV 1 X.2.2.2.2.1 gX7_denialCause_X7_fails rfl rfl rfl (by decide +kernel) ⟨Nat.le_of_ble_eq_true rfl, Nat.le_of_ble_eq_true rfl⟩) (by decide) (by decide) rfl rfl rfl (Nat.le_of_ble_eq_true rfl) dX7_denialCause_13 ⟨Nat.le_of_ble_eq_true rfl, Nat.le_of_ble_eq_true rfl⟩ (fun x3 S4 hx3 => ?_)
    refine vs_if_eq X (tgt := 23) dX7_denialCause_16 (by decide) (fun _ => ?_) (fun _ => ?_)
    · refine vs_aload_n X dX7_denialCause_23 0 rfl ?_
      refine g_Mod  X hinX7 12 (by decide) (by decide +kernel) rfl rfl dX7_denialCause_24 ?_
      exact vs_iret X dX7_denialCause_27 (by decide) (by decide)
    · refine vs_iconst X (v := 0) dX7_denialCause_19 (by decide) ?_
      refine vs_goto X (tgt := 27) dX7_denialCause_20 (by decide) ?_
      exact vs_iret X dX7_denialCause_27 (by decide) (by decide)

def spX7_undo  (S : Wo) : Option (Int32 × Wo) :=
  jn (β := Int32 → Option (Int32 × Wo)) (fun (x1 : Int32) => bd2 (spX7_fails x1 S) (fun x3 S4 => (if x3 = 0 then wr (pI S4 166 6 (S4.1 166 6 - 1)) (fun S5 => (spX7_copies 168 896 (112 * S5.1 166 6) 167 112 0 S5).bind (fun S6 => some (S6.1 166 6, S6))) else some (0, S4)))) (fun k2 => (if S.1 166 6 = 0 then k2 1 else k2 0))
set_option maxHeartbeats 4000000 in
set_option maxRecDepth 100000 in
theorem mtX7_undo {l : Launch} (hl0 : l.stackTraces = false) {G : Gt}  {S : Wo} : ∀ rr, spX7_undo  S = some rr → MI l yX7_undo wsX7_undo { frames := 1, cells := 0, slots := 0, locals := 24 } G S [rf G 166] rr 0 0 := by
  refine MI_of (cc := cX7_undo) (own := RX7) (maxL := 1) (ret := (some .int)) (sp := spX7_undo  S) (by decide +kernel) rfl rfl (Nat.le_of_ble_eq_true rfl) ?_
  intro p e s m args below meth c X
  have hinX7 : ∀ w ∈ wsX70, w ∈ wsX7_undo := by decide +kernel
  show VS G p l e _ s m args below meth c 1 _ _ 0 0 S 0 [(0, rf G 166)] []
  unfold spX7_undo
  refine vs_aload_n X dX7_undo_0 0 rfl ?_
  refine vs_aload_n X dX7_undo_1 0 rfl ?_
  refine g_Mod  X hinX7 6 (by decide) (by decide +kernel) rfl rfl dX7_undo_2 ?_
  refine vs_jn (β := Int32 → Option (Int32 × Wo)) (P := fun k2 => ∀ (x1 : Int32), VS G p l e ({ frames := 1, cells := 0, slots := 0, locals := 24 } : Room) s m args below meth c 1 (fun r => MQ below (QI G r) args s 0 0 (Af G)) (k2 x1) 0 0 S 13 [(0, rf G 166)] [.int x1, rf G 166]) (fun x1 => ?_) (fun k2 hk2 => ?_)
  · refine vs_callVi X  (As := [.int x1]) (st' := []) (mtX7_fails hl0 x1) (cwV 1 X.2.2.2.2.1 gX7_undo_X7_fails rfl rfl rfl (by decide +kernel) ⟨Nat.le_of_ble_eq_true rfl, Nat.le_of_ble_eq_true rfl⟩) (by decide) (by decide) rfl rfl rfl (Nat.le_of_ble_eq_true rfl) dX7_undo_13 ⟨Nat.le_of_ble_eq_true rfl, Nat.le_of_ble_eq_true rfl⟩ (fun x3 S4 hx3 => ?_)
    refine vs_if_eq X (tgt := 21) dX7_undo_16 (by decide) (fun _ => ?_) (fun _ => ?_)
    · refine vs_aload_n X dX7_undo_21 0 rfl ?_
      refine vs_dup X dX7_undo_22 rfl ?_
      refine g_Mod  X hinX7 6 (by decide) (by decide +kernel) rfl rfl dX7_undo_23 ?_
      refine vs_iconst X (v := 1) dX7_undo_26 (by decide) ?_
      refine vs_isub X dX7_undo_27 ?_
      refine p_Mod  X hinX7 6 (by decide) (by decide +kernel) rfl rfl rfl rfl rfl rfl dX7_undo_28 (fun S5 hS5 => ?_)
      refine vs_aload_n X dX7_undo_31 0 rfl ?_
      refine g_Mod  X hinX7 1 (by decide) (by decide +kernel) rfl rfl dX7_undo_32 ?_
      refine vs_bipush X (v := 112) dX7_undo_35 (by decide) ?_
      refine vs_aload_n X dX7_undo_37 0 rfl ?_
      refine g_Mod  X hinX7 6 (by decide) (by decide +kernel) rfl rfl dX7_undo_38 ?_
      refine vs_imul X dX7_undo_41 ?_
      refine vs_aload_n X dX7_undo_42 0 rfl ?_
      refine g_Mod  X hinX7 0 (by decide) (by decide +kernel) rfl rfl dX7_undo_43 ?_
      refine vs_iconst X (v := 0) dX7_undo_46 (by decide) ?_
      refine vs_callSv X  (As := [rf G 168, .int (112 * S5.1 166 6), rf G 167, .int 0]) (st' := []) (mtX7_copies hl0 isIA_168 (112 * S5.1 166 6) isIA_167 0) (va_cwS 4 X.2.2.2.2.1 gX7_undo_X7_copies rfl rfl rfl (by decide +kernel) ⟨Nat.le_of_ble_eq_true rfl, Nat.le_of_ble_eq_true rfl⟩) rfl (Nat.le_of_ble_eq_true rfl) dX7_undo_47 ⟨Nat.le_of_ble_eq_true rfl, Nat.le_of_ble_eq_true rfl⟩ (fun S6 hS6 => ?_)
      refine vs_aload_n X dX7_undo_50 0 rfl ?_
      refine g_Mod  X hinX7 6 (by decide) (by decide +kernel) rfl rfl dX7_undo_51 ?_
      exact vs_iret X dX7_undo_54 (by decide) (by decide)
    · refine vs_iconst X (v := 0) dX7_undo_19 (by decide) ?_
      exact vs_iret X dX7_undo_20 (by decide) (by decide)
  · refine vs_if_ne X (tgt := 12) dX7_undo_5 (by decide) (fun _ => ?_) (fun _ => ?_)
    · refine vs_iconst X (v := 1) dX7_undo_8 (by decide) ?_
      refine vs_goto X (tgt := 13) dX7_undo_9 (by decide) ?_
      exact vs_join [0] (Nat.le_of_ble_eq_true rfl) (Nat.le_of_ble_eq_true rfl) rfl (hk2 1)
    · refine vs_iconst X (v := 0) dX7_undo_12 (by decide) ?_
      exact vs_join [0] (Nat.le_of_ble_eq_true rfl) (Nat.le_of_ble_eq_true rfl) rfl (hk2 0)

def spX7_undoCount  (S : Wo) : Option (Int32 × Wo) :=
  wr (pI S 166 9 0) (fun S1 => some (S1.1 166 6, S1))
set_option maxHeartbeats 4000000 in
set_option maxRecDepth 100000 in
theorem mtX7_undoCount {l : Launch} (hl0 : l.stackTraces = false) {G : Gt}  {S : Wo} : ∀ rr, spX7_undoCount  S = some rr → MI l yX7_undoCount wsX7_undoCount { frames := 0, cells := 0, slots := 0, locals := 0 } G S [rf G 166] rr 0 0 := by
  refine MI_of (cc := cX7_undoCount) (own := RX7) (maxL := 1) (ret := (some .int)) (sp := spX7_undoCount  S) (by decide +kernel) rfl rfl (Nat.le_of_ble_eq_true rfl) ?_
  intro p e s m args below meth c X
  have hinX7 : ∀ w ∈ wsX70, w ∈ wsX7_undoCount := by decide +kernel
  show VS G p l e _ s m args below meth c 1 _ _ 0 0 S 0 [(0, rf G 166)] []
  unfold spX7_undoCount
  refine vs_aload_n X dX7_undoCount_0 0 rfl ?_
  refine vs_iconst X (v := 0) dX7_undoCount_1 (by decide) ?_
  refine p_Mod  X hinX7 9 (by decide) (by decide +kernel) rfl rfl rfl rfl rfl rfl dX7_undoCount_2 (fun S1 hS1 => ?_)
  refine vs_aload_n X dX7_undoCount_5 0 rfl ?_
  refine g_Mod  X hinX7 6 (by decide) (by decide +kernel) rfl rfl dX7_undoCount_6 ?_
  exact vs_iret X dX7_undoCount_9 (by decide) (by decide)

def spX7_saveSnapshot  (S : Wo) : Option (Int32 × Wo) :=
  wr (pI S 166 9 0) (fun S1 => wr (pI S1 166 5 1) (fun S2 => (spX7_copies 167 112 0 169 112 0 S2).bind (fun S3 => (if inb 0 112 = true then some ((S3.2.1 167 (ix 0)), S3) else none))))
set_option maxHeartbeats 4000000 in
set_option maxRecDepth 100000 in
theorem mtX7_saveSnapshot {l : Launch} (hl0 : l.stackTraces = false) {G : Gt}  {S : Wo} : ∀ rr, spX7_saveSnapshot  S = some rr → MI l yX7_saveSnapshot wsX7_saveSnapshot { frames := 1, cells := 0, slots := 0, locals := 24 } G S [rf G 166] rr 0 0 := by
  refine MI_of (cc := cX7_saveSnapshot) (own := RX7) (maxL := 1) (ret := (some .int)) (sp := spX7_saveSnapshot  S) (by decide +kernel) rfl rfl (Nat.le_of_ble_eq_true rfl) ?_
  intro p e s m args below meth c X
  have hinX7 : ∀ w ∈ wsX70, w ∈ wsX7_saveSnapshot := by decide +kernel
  show VS G p l e _ s m args below meth c 1 _ _ 0 0 S 0 [(0, rf G 166)] []
  unfold spX7_saveSnapshot
  refine vs_aload_n X dX7_saveSnapshot_0 0 rfl ?_
  refine vs_iconst X (v := 0) dX7_saveSnapshot_1 (by decide) ?_
  refine p_Mod  X hinX7 9 (by decide) (by decide +kernel) rfl rfl rfl rfl rfl rfl dX7_saveSnapshot_2 (fun S1 hS1 => ?_)
  refine vs_aload_n X dX7_saveSnapshot_5 0 rfl ?_
  refine vs_iconst X (v := 1) dX7_saveSnapshot_6 (by decide) ?_
  refine p_Mod  X hinX7 5 (by decide) (by decide +kernel) rfl rfl rfl (by decide) (by decide) rfl dX7_saveSnapshot_7 (fun S2 hS2 => ?_)
  refine vs_aload_n X dX7_saveSnapshot_10 0 rfl ?_
  refine g_Mod  X hinX7 0 (by decide) (by decide +kernel) rfl rfl dX7_saveSnapshot_11 ?_
  refine vs_iconst X (v := 0) dX7_saveSnapshot_14 (by decide) ?_
  refine vs_aload_n X dX7_saveSnapshot_15 0 rfl ?_
  refine g_Mod  X hinX7 2 (by decide) (by decide +kernel) rfl rfl dX7_saveSnapshot_16 ?_
  refine vs_iconst X (v := 0) dX7_saveSnapshot_19 (by decide) ?_
  refine vs_callSv X  (As := [rf G 167, .int 0, rf G 169, .int 0]) (st' := []) (mtX7_copies hl0 isIA_167 0 isIA_169 0) (va_cwS 4 X.2.2.2.2.1 gX7_saveSnapshot_X7_copies rfl rfl rfl (by decide +kernel) ⟨Nat.le_of_ble_eq_true rfl, Nat.le_of_ble_eq_true rfl⟩) rfl (Nat.le_of_ble_eq_true rfl) dX7_saveSnapshot_20 ⟨Nat.le_of_ble_eq_true rfl, Nat.le_of_ble_eq_true rfl⟩ (fun S3 hS3 => ?_)
  refine vs_aload_n X dX7_saveSnapshot_23 0 rfl ?_
  refine g_Mod  X hinX7 0 (by decide) (by decide +kernel) rfl rfl dX7_saveSnapshot_24 ?_
  refine vs_iconst X (v := 0) dX7_saveSnapshot_27 (by decide) ?_
  refine vs_iald X (by decide) (by decide) rfl dX7_saveSnapshot_28 ?_
  exact vs_iret X dX7_saveSnapshot_29 (by decide) (by decide)

def spX7_restoreSnapshot  (S : Wo) : Option (Int32 × Wo) :=
  jn (β := Int32 → Option (Int32 × Wo)) (fun (x1 : Int32) => bd2 (spX7_fails x1 S) (fun x3 S4 => (if x3 = 0 then (spX7_copies 169 112 0 167 112 0 S4).bind (fun S5 => wr (pI S5 166 6 0) (fun S6 => (if inb 0 112 = true then some ((S6.2.1 167 (ix 0)), S6) else none))) else some (0, S4)))) (fun k2 => (if S.1 166 5 = 0 then k2 1 else k2 0))
set_option maxHeartbeats 4000000 in
set_option maxRecDepth 100000 in
theorem mtX7_restoreSnapshot {l : Launch} (hl0 : l.stackTraces = false) {G : Gt}  {S : Wo} : ∀ rr, spX7_restoreSnapshot  S = some rr → MI l yX7_restoreSnapshot wsX7_restoreSnapshot { frames := 1, cells := 0, slots := 0, locals := 24 } G S [rf G 166] rr 0 0 := by
  refine MI_of (cc := cX7_restoreSnapshot) (own := RX7) (maxL := 1) (ret := (some .int)) (sp := spX7_restoreSnapshot  S) (by decide +kernel) rfl rfl (Nat.le_of_ble_eq_true rfl) ?_
  intro p e s m args below meth c X
  have hinX7 : ∀ w ∈ wsX70, w ∈ wsX7_restoreSnapshot := by decide +kernel
  show VS G p l e _ s m args below meth c 1 _ _ 0 0 S 0 [(0, rf G 166)] []
  unfold spX7_restoreSnapshot
  refine vs_aload_n X dX7_restoreSnapshot_0 0 rfl ?_
  refine vs_aload_n X dX7_restoreSnapshot_1 0 rfl ?_
  refine g_Mod  X hinX7 5 (by decide) (by decide +kernel) rfl rfl dX7_restoreSnapshot_2 ?_
  refine vs_jn (β := Int32 → Option (Int32 × Wo)) (P := fun k2 => ∀ (x1 : Int32), VS G p l e ({ frames := 1, cells := 0, slots := 0, locals := 24 } : Room) s m args below meth c 1 (fun r => MQ below (QI G r) args s 0 0 (Af G)) (k2 x1) 0 0 S 13 [(0, rf G 166)] [.int x1, rf G 166]) (fun x1 => ?_) (fun k2 hk2 => ?_)
  · refine vs_callVi X  (As := [.int x1]) (st' := []) (mtX7_fails hl0 x1) (cwV 1 X.2.2.2.2.1 gX7_restoreSnapshot_X7_fails rfl rfl rfl (by decide +kernel) ⟨Nat.le_of_ble_eq_true rfl, Nat.le_of_ble_eq_true rfl⟩) (by decide) (by decide) rfl rfl rfl (Nat.le_of_ble_eq_true rfl) dX7_restoreSnapshot_13 ⟨Nat.le_of_ble_eq_true rfl, Nat.le_of_ble_eq_true rfl⟩ (fun x3 S4 hx3 => ?_)
    refine vs_if_eq X (tgt := 21) dX7_restoreSnapshot_16 (by decide) (fun _ => ?_) (fun _ => ?_)
    · refine vs_aload_n X dX7_restoreSnapshot_21 0 rfl ?_
      refine g_Mod  X hinX7 2 (by decide) (by decide +kernel) rfl rfl dX7_restoreSnapshot_22 ?_
      refine vs_iconst X (v := 0) dX7_restoreSnapshot_25 (by decide) ?_
      refine vs_aload_n X dX7_restoreSnapshot_26 0 rfl ?_
      refine g_Mod  X hinX7 0 (by decide) (by decide +kernel) rfl rfl dX7_restoreSnapshot_27 ?_
      refine vs_iconst X (v := 0) dX7_restoreSnapshot_30 (by decide) ?_
      refine vs_callSv X  (As := [rf G 169, .int 0, rf G 167, .int 0]) (st' := []) (mtX7_copies hl0 isIA_169 0 isIA_167 0) (va_cwS 4 X.2.2.2.2.1 gX7_restoreSnapshot_X7_copies rfl rfl rfl (by decide +kernel) ⟨Nat.le_of_ble_eq_true rfl, Nat.le_of_ble_eq_true rfl⟩) rfl (Nat.le_of_ble_eq_true rfl) dX7_restoreSnapshot_31 ⟨Nat.le_of_ble_eq_true rfl, Nat.le_of_ble_eq_true rfl⟩ (fun S5 hS5 => ?_)
      refine vs_aload_n X dX7_restoreSnapshot_34 0 rfl ?_
      refine vs_iconst X (v := 0) dX7_restoreSnapshot_35 (by decide) ?_
      refine p_Mod  X hinX7 6 (by decide) (by decide +kernel) rfl rfl rfl rfl rfl rfl dX7_restoreSnapshot_36 (fun S6 hS6 => ?_)
      refine vs_aload_n X dX7_restoreSnapshot_39 0 rfl ?_
      refine g_Mod  X hinX7 0 (by decide) (by decide +kernel) rfl rfl dX7_restoreSnapshot_40 ?_
      refine vs_iconst X (v := 0) dX7_restoreSnapshot_43 (by decide) ?_
      refine vs_iald X (by decide) (by decide) rfl dX7_restoreSnapshot_44 ?_
      exact vs_iret X dX7_restoreSnapshot_45 (by decide) (by decide)
    · refine vs_iconst X (v := 0) dX7_restoreSnapshot_19 (by decide) ?_
      exact vs_iret X dX7_restoreSnapshot_20 (by decide) (by decide)
  · refine vs_if_eq X (tgt := 12) dX7_restoreSnapshot_5 (by decide) (fun _ => ?_) (fun _ => ?_)
    · refine vs_iconst X (v := 1) dX7_restoreSnapshot_12 (by decide) ?_
      exact vs_join [0] (Nat.le_of_ble_eq_true rfl) (Nat.le_of_ble_eq_true rfl) rfl (hk2 1)
    · refine vs_iconst X (v := 0) dX7_restoreSnapshot_8 (by decide) ?_
      refine vs_goto X (tgt := 13) dX7_restoreSnapshot_9 (by decide) ?_
      exact vs_join [0] (Nat.le_of_ble_eq_true rfl) (Nat.le_of_ble_eq_true rfl) rfl (hk2 0)

def spL_register (p2 : Int32) (S : Wo) : Option (Nat × Int32 × Wo) :=
  bxc (spX6_register p2 S) (fun x1 S2 => wr (pL S2 ((x1 : Int32).toInt64)) (fun S9 => some (0, 0, S9))) (fun e3 S4 => (if e3 = 1 then some (0, 1, S4) else (if e3 = 4 then some (0, 2, S4) else none)))
set_option maxHeartbeats 4000000 in
set_option maxRecDepth 100000 in
theorem mtL_register {l : Launch} (hl0 : l.stackTraces = false) {G : Gt} (p2 : Int32) {S : Wo} : ∀ rr, spL_register p2 S = some rr → MXI l yL_register wsL_register { frames := 8, cells := 1, slots := 6, locals := 127 } G S [rf G 0, .int p2, rf G 175] rr 1 6 := by
  refine MXIH_of (hh := [(0, 9, 12, 13), (0, 9, 15, 15)]) (cc := cL_register) (own := RL) (maxL := 4) (ret := (some .int)) (sp := spL_register p2 S) (by decide +kernel) rfl rfl (Nat.le_of_ble_eq_true rfl) ?_
  intro p e s m args below meth c X hT
  show VS G p l e _ s m args below meth c 4 _ _ 0 0 S 0 [(0, rf G 0), (1, .int p2), (2, rf G 175)] []
  unfold spL_register
  refine vs_aload_n X dL_register_0 2 rfl ?_
  refine vs_iconst X (v := 0) dL_register_1 (by decide) ?_
  refine vs_aload_n X dL_register_2 0 rfl ?_
  refine vs_iload_n X dL_register_3 1 rfl ?_
  refine vs_callVcI X (As := [.int p2]) (st' := [.int 0, rf G 175]) (mtX6_register hl0 p2) (cwV 1 X.2.2.2.2.1 gL_register_X6_register rfl rfl rfl (by decide +kernel) ⟨Nat.le_of_ble_eq_true rfl, Nat.le_of_ble_eq_true rfl⟩) (by decide) (by decide) rfl rfl rfl (Nat.le_of_ble_eq_true rfl) dL_register_4 ⟨Nat.le_of_ble_eq_true rfl, Nat.le_of_ble_eq_true rfl⟩ rfl (fun e3 S4 r5 hr5 => ?_) (fun x1 S2 => ?_)
  · skip
    by_cases h7 : e3 = 1
    · subst h7
      refine ⟨(⟨0, 9, 12, 13⟩ : ExceptionTableEntry), ⟨[], [⟨0, 9, 15, 15⟩], hT.trans rfl, (fun w hw => by cases hw), by decide, by decide, by decide, by decide⟩, fun q6 => ?_⟩
      refine vs_eq (if_pos rfl) ?_
      refine vs_astore_n X (lv' := [(3, .ref q6), (0, rf G 0), (1, .int p2), (2, rf G 175)]) dL_register_12 (by decide) rfl ?_
      refine vs_iconst X (v := 1) dL_register_13 (by decide) ?_
      exact vs_xiret X dL_register_14 (by decide) (by decide)
    · skip
      by_cases h8 : e3 = 4
      · subst h8
        refine ⟨(⟨0, 9, 15, 15⟩ : ExceptionTableEntry), ⟨[⟨0, 9, 12, 13⟩], [], hT.trans rfl, (fun w hw => by cases List.mem_singleton.mp hw; exact Or.inr ⟨by decide, "java/lang/IllegalArgumentException", by decide, by decide, by decide⟩), by decide, by decide, by decide, by decide⟩, fun q6 => ?_⟩
        refine vs_eq ((if_neg (by decide)).trans (if_pos rfl)) ?_
        refine vs_astore_n X (lv' := [(3, .ref q6), (0, rf G 0), (1, .int p2), (2, rf G 175)]) dL_register_15 (by decide) rfl ?_
        refine vs_iconst X (v := 2) dL_register_16 (by decide) ?_
        exact vs_xiret X dL_register_17 (by decide) (by decide)
      · skip
        simp [h7, h8] at hr5
  refine vs_i2lw X dL_register_7 ?_
  refine vs_last X dL_register_8 (fun S9 hS9 => ?_)
  refine vs_goto X (tgt := 18) dL_register_9 (by decide) ?_
  refine vs_iconst X (v := 0) dL_register_18 (by decide) ?_
  exact vs_xiret X dL_register_19 (by decide) (by decide)

def spL_move (p2 : Int32) (p3 : Int32) (S : Wo) : Option (Nat × Int32 × Wo) :=
  bxc (spX6_move p2 p3 S) (fun x1 S2 => wr (pL S2 ((x1 : Int32).toInt64)) (fun S10 => some (0, 0, S10))) (fun e3 S4 => (if e3 = 2 then some (0, 1, S4) else (if e3 = 1 then some (0, 2, S4) else (if e3 = 4 then some (0, 3, S4) else none))))
set_option maxHeartbeats 4000000 in
set_option maxRecDepth 100000 in
theorem mtL_move {l : Launch} (hl0 : l.stackTraces = false) {G : Gt} (p2 : Int32) (p3 : Int32) {S : Wo} : ∀ rr, spL_move p2 p3 S = some rr → MXI l yL_move wsL_move { frames := 8, cells := 1, slots := 6, locals := 128 } G S [rf G 0, .int p2, .int p3, rf G 175] rr 1 6 := by
  refine MXIH_of (hh := [(0, 10, 13, 21), (0, 10, 17, 13), (0, 10, 21, 15)]) (cc := cL_move) (own := RL) (maxL := 5) (ret := (some .int)) (sp := spL_move p2 p3 S) (by decide +kernel) rfl rfl (Nat.le_of_ble_eq_true rfl) ?_
  intro p e s m args below meth c X hT
  show VS G p l e _ s m args below meth c 5 _ _ 0 0 S 0 [(0, rf G 0), (1, .int p2), (2, .int p3), (3, rf G 175)] []
  unfold spL_move
  refine vs_aload_n X dL_move_0 3 rfl ?_
  refine vs_iconst X (v := 0) dL_move_1 (by decide) ?_
  refine vs_aload_n X dL_move_2 0 rfl ?_
  refine vs_iload_n X dL_move_3 1 rfl ?_
  refine vs_iload_n X dL_move_4 2 rfl ?_
  refine vs_callVcI X (As := [.int p2, .int p3]) (st' := [.int 0, rf G 175]) (mtX6_move hl0 p2 p3) (cwV 2 X.2.2.2.2.1 gL_move_X6_move rfl rfl rfl (by decide +kernel) ⟨Nat.le_of_ble_eq_true rfl, Nat.le_of_ble_eq_true rfl⟩) (by decide) (by decide) rfl rfl rfl (Nat.le_of_ble_eq_true rfl) dL_move_5 ⟨Nat.le_of_ble_eq_true rfl, Nat.le_of_ble_eq_true rfl⟩ rfl (fun e3 S4 r5 hr5 => ?_) (fun x1 S2 => ?_)
  · skip
    by_cases h7 : e3 = 2
    · subst h7
      refine ⟨(⟨0, 10, 13, 21⟩ : ExceptionTableEntry), ⟨[], [⟨0, 10, 17, 13⟩, ⟨0, 10, 21, 15⟩], hT.trans rfl, (fun w hw => by cases hw), by decide, by decide, by decide, by decide⟩, fun q6 => ?_⟩
      refine vs_eq (if_pos rfl) ?_
      refine vs_astore X (lv' := [(4, .ref q6), (0, rf G 0), (1, .int p2), (2, .int p3), (3, rf G 175)]) dL_move_13 (by decide) rfl ?_
      refine vs_iconst X (v := 1) dL_move_15 (by decide) ?_
      exact vs_xiret X dL_move_16 (by decide) (by decide)
    · skip
      by_cases h8 : e3 = 1
      · subst h8
        refine ⟨(⟨0, 10, 17, 13⟩ : ExceptionTableEntry), ⟨[⟨0, 10, 13, 21⟩], [⟨0, 10, 21, 15⟩], hT.trans rfl, (fun w hw => by cases List.mem_singleton.mp hw; exact Or.inr ⟨by decide, "java/lang/IndexOutOfBoundsException", by decide, by decide, by decide⟩), by decide, by decide, by decide, by decide⟩, fun q6 => ?_⟩
        refine vs_eq ((if_neg (by decide)).trans (if_pos rfl)) ?_
        refine vs_astore X (lv' := [(4, .ref q6), (0, rf G 0), (1, .int p2), (2, .int p3), (3, rf G 175)]) dL_move_17 (by decide) rfl ?_
        refine vs_iconst X (v := 2) dL_move_19 (by decide) ?_
        exact vs_xiret X dL_move_20 (by decide) (by decide)
      · skip
        by_cases h9 : e3 = 4
        · subst h9
          refine ⟨(⟨0, 10, 21, 15⟩ : ExceptionTableEntry), ⟨[⟨0, 10, 13, 21⟩, ⟨0, 10, 17, 13⟩], [], hT.trans rfl, (fun w hw => by simp only [List.mem_cons, List.not_mem_nil, or_false] at hw; rcases hw with rfl | hw; exact Or.inr ⟨by decide, "java/lang/IndexOutOfBoundsException", by decide, by decide, by decide⟩; rcases hw with rfl; exact Or.inr ⟨by decide, "java/lang/IllegalArgumentException", by decide, by decide, by decide⟩), by decide, by decide, by decide, by decide⟩, fun q6 => ?_⟩
          refine vs_eq ((if_neg (by decide)).trans ((if_neg (by decide)).trans (if_pos rfl))) ?_
          refine vs_astore X (lv' := [(4, .ref q6), (0, rf G 0), (1, .int p2), (2, .int p3), (3, rf G 175)]) dL_move_21 (by decide) rfl ?_
          refine vs_iconst X (v := 3) dL_move_23 (by decide) ?_
          exact vs_xiret X dL_move_24 (by decide) (by decide)
        · skip
          simp [h7, h8, h9] at hr5
  refine vs_i2lw X dL_move_8 ?_
  refine vs_last X dL_move_9 (fun S10 hS10 => ?_)
  refine vs_goto X (tgt := 25) dL_move_10 (by decide) ?_
  refine vs_iconst X (v := 0) dL_move_25 (by decide) ?_
  exact vs_xiret X dL_move_26 (by decide) (by decide)

def spL_setRevoked (p2 : Int32) (p3 : Int32) (S : Wo) : Option (Nat × Int32 × Wo) :=
  bxc (spX6_setRevoked p2 p3 S) (fun x1 S2 => wr (pL S2 ((x1 : Int32).toInt64)) (fun S9 => some (0, 0, S9))) (fun e3 S4 => (if e3 = 2 then some (0, 1, S4) else (if e3 = 4 then some (0, 2, S4) else none)))
set_option maxHeartbeats 4000000 in
set_option maxRecDepth 100000 in
theorem mtL_setRevoked {l : Launch} (hl0 : l.stackTraces = false) {G : Gt} (p2 : Int32) (p3 : Int32) {S : Wo} : ∀ rr, spL_setRevoked p2 p3 S = some rr → MXI l yL_setRevoked wsL_setRevoked { frames := 8, cells := 1, slots := 6, locals := 137 } G S [rf G 0, .int p2, .int p3, rf G 175] rr 1 6 := by
  refine MXIH_of (hh := [(0, 10, 13, 21), (0, 10, 17, 15)]) (cc := cL_setRevoked) (own := RL) (maxL := 5) (ret := (some .int)) (sp := spL_setRevoked p2 p3 S) (by decide +kernel) rfl rfl (Nat.le_of_ble_eq_true rfl) ?_
  intro p e s m args below meth c X hT
  show VS G p l e _ s m args below meth c 5 _ _ 0 0 S 0 [(0, rf G 0), (1, .int p2), (2, .int p3), (3, rf G 175)] []
  unfold spL_setRevoked
  refine vs_aload_n X dL_setRevoked_0 3 rfl ?_
  refine vs_iconst X (v := 0) dL_setRevoked_1 (by decide) ?_
  refine vs_aload_n X dL_setRevoked_2 0 rfl ?_
  refine vs_iload_n X dL_setRevoked_3 1 rfl ?_
  refine vs_iload_n X dL_setRevoked_4 2 rfl ?_
  refine vs_callVcI X (As := [.int p2, .int p3]) (st' := [.int 0, rf G 175]) (mtX6_setRevoked hl0 p2 p3) (cwV 2 X.2.2.2.2.1 gL_setRevoked_X6_setRevoked rfl rfl rfl (by decide +kernel) ⟨Nat.le_of_ble_eq_true rfl, Nat.le_of_ble_eq_true rfl⟩) (by decide) (by decide) rfl rfl rfl (Nat.le_of_ble_eq_true rfl) dL_setRevoked_5 ⟨Nat.le_of_ble_eq_true rfl, Nat.le_of_ble_eq_true rfl⟩ rfl (fun e3 S4 r5 hr5 => ?_) (fun x1 S2 => ?_)
  · skip
    by_cases h7 : e3 = 2
    · subst h7
      refine ⟨(⟨0, 10, 13, 21⟩ : ExceptionTableEntry), ⟨[], [⟨0, 10, 17, 15⟩], hT.trans rfl, (fun w hw => by cases hw), by decide, by decide, by decide, by decide⟩, fun q6 => ?_⟩
      refine vs_eq (if_pos rfl) ?_
      refine vs_astore X (lv' := [(4, .ref q6), (0, rf G 0), (1, .int p2), (2, .int p3), (3, rf G 175)]) dL_setRevoked_13 (by decide) rfl ?_
      refine vs_iconst X (v := 1) dL_setRevoked_15 (by decide) ?_
      exact vs_xiret X dL_setRevoked_16 (by decide) (by decide)
    · skip
      by_cases h8 : e3 = 4
      · subst h8
        refine ⟨(⟨0, 10, 17, 15⟩ : ExceptionTableEntry), ⟨[⟨0, 10, 13, 21⟩], [], hT.trans rfl, (fun w hw => by cases List.mem_singleton.mp hw; exact Or.inr ⟨by decide, "java/lang/IndexOutOfBoundsException", by decide, by decide, by decide⟩), by decide, by decide, by decide, by decide⟩, fun q6 => ?_⟩
        refine vs_eq ((if_neg (by decide)).trans (if_pos rfl)) ?_
        refine vs_astore X (lv' := [(4, .ref q6), (0, rf G 0), (1, .int p2), (2, .int p3), (3, rf G 175)]) dL_setRevoked_17 (by decide) rfl ?_
        refine vs_iconst X (v := 2) dL_setRevoked_19 (by decide) ?_
        exact vs_xiret X dL_setRevoked_20 (by decide) (by decide)
      · skip
        simp [h7, h8] at hr5
  refine vs_i2lw X dL_setRevoked_8 ?_
  refine vs_last X dL_setRevoked_9 (fun S9 hS9 => ?_)
  refine vs_goto X (tgt := 21) dL_setRevoked_10 (by decide) ?_
  refine vs_iconst X (v := 0) dL_setRevoked_21 (by decide) ?_
  exact vs_xiret X dL_setRevoked_22 (by decide) (by decide)

def spL_fieldOf (p2 : Int32) (S : Wo) : Option (Nat × Int32 × Wo) :=
  bxc (spX6_fieldOf p2 S) (fun x1 S2 => wr (pL S2 ((x1 : Int32).toInt64)) (fun S8 => some (0, 0, S8))) (fun e3 S4 => (if e3 = 2 then some (0, 1, S4) else none))
set_option maxHeartbeats 4000000 in
set_option maxRecDepth 100000 in
theorem mtL_fieldOf {l : Launch} (hl0 : l.stackTraces = false) {G : Gt} (p2 : Int32) {S : Wo} : ∀ rr, spL_fieldOf p2 S = some rr → MXI l yL_fieldOf wsL_fieldOf { frames := 8, cells := 1, slots := 6, locals := 124 } G S [rf G 0, .int p2, rf G 175] rr 1 6 := by
  refine MXIH_of (hh := [(0, 9, 12, 21)]) (cc := cL_fieldOf) (own := RL) (maxL := 4) (ret := (some .int)) (sp := spL_fieldOf p2 S) (by decide +kernel) rfl rfl (Nat.le_of_ble_eq_true rfl) ?_
  intro p e s m args below meth c X hT
  show VS G p l e _ s m args below meth c 4 _ _ 0 0 S 0 [(0, rf G 0), (1, .int p2), (2, rf G 175)] []
  unfold spL_fieldOf
  refine vs_aload_n X dL_fieldOf_0 2 rfl ?_
  refine vs_iconst X (v := 0) dL_fieldOf_1 (by decide) ?_
  refine vs_aload_n X dL_fieldOf_2 0 rfl ?_
  refine vs_iload_n X dL_fieldOf_3 1 rfl ?_
  refine vs_callVcI X (As := [.int p2]) (st' := [.int 0, rf G 175]) (mtX6_fieldOf hl0 p2) (cwV 1 X.2.2.2.2.1 gL_fieldOf_X6_fieldOf rfl rfl rfl (by decide +kernel) ⟨Nat.le_of_ble_eq_true rfl, Nat.le_of_ble_eq_true rfl⟩) (by decide) (by decide) rfl rfl rfl (Nat.le_of_ble_eq_true rfl) dL_fieldOf_4 ⟨Nat.le_of_ble_eq_true rfl, Nat.le_of_ble_eq_true rfl⟩ rfl (fun e3 S4 r5 hr5 => ?_) (fun x1 S2 => ?_)
  · skip
    by_cases h7 : e3 = 2
    · subst h7
      refine ⟨(⟨0, 9, 12, 21⟩ : ExceptionTableEntry), ⟨[], [], hT.trans rfl, (fun w hw => by cases hw), by decide, by decide, by decide, by decide⟩, fun q6 => ?_⟩
      refine vs_eq (if_pos rfl) ?_
      refine vs_astore_n X (lv' := [(3, .ref q6), (0, rf G 0), (1, .int p2), (2, rf G 175)]) dL_fieldOf_12 (by decide) rfl ?_
      refine vs_iconst X (v := 1) dL_fieldOf_13 (by decide) ?_
      exact vs_xiret X dL_fieldOf_14 (by decide) (by decide)
    · skip
      simp [h7] at hr5
  refine vs_i2lw X dL_fieldOf_7 ?_
  refine vs_last X dL_fieldOf_8 (fun S8 hS8 => ?_)
  refine vs_goto X (tgt := 15) dL_fieldOf_9 (by decide) ?_
  refine vs_iconst X (v := 0) dL_fieldOf_15 (by decide) ?_
  exact vs_xiret X dL_fieldOf_16 (by decide) (by decide)

def spL_scarecrowOn (p2 : Int32) (S : Wo) : Option (Nat × Int32 × Wo) :=
  bxc (spX6_scarecrowOn p2 S) (fun x1 S2 => wr (pL S2 ((x1 : Int32).toInt64)) (fun S9 => some (0, 0, S9))) (fun e3 S4 => (if e3 = 1 then some (0, 1, S4) else (if e3 = 3 then some (0, 2, S4) else none)))
set_option maxHeartbeats 4000000 in
set_option maxRecDepth 100000 in
theorem mtL_scarecrowOn {l : Launch} (hl0 : l.stackTraces = false) {G : Gt} (p2 : Int32) {S : Wo} : ∀ rr, spL_scarecrowOn p2 S = some rr → MXI l yL_scarecrowOn wsL_scarecrowOn { frames := 8, cells := 2, slots := 12, locals := 124 } G S [rf G 0, .int p2, rf G 175] rr 2 12 := by
  refine MXIH_of (hh := [(0, 9, 12, 13), (0, 9, 15, 33)]) (cc := cL_scarecrowOn) (own := RL) (maxL := 4) (ret := (some .int)) (sp := spL_scarecrowOn p2 S) (by decide +kernel) rfl rfl (Nat.le_of_ble_eq_true rfl) ?_
  intro p e s m args below meth c X hT
  show VS G p l e _ s m args below meth c 4 _ _ 0 0 S 0 [(0, rf G 0), (1, .int p2), (2, rf G 175)] []
  unfold spL_scarecrowOn
  refine vs_aload_n X dL_scarecrowOn_0 2 rfl ?_
  refine vs_iconst X (v := 0) dL_scarecrowOn_1 (by decide) ?_
  refine vs_aload_n X dL_scarecrowOn_2 0 rfl ?_
  refine vs_iload_n X dL_scarecrowOn_3 1 rfl ?_
  refine vs_callVcI X (As := [.int p2]) (st' := [.int 0, rf G 175]) (mtX6_scarecrowOn hl0 p2) (cwV 1 X.2.2.2.2.1 gL_scarecrowOn_X6_scarecrowOn rfl rfl rfl (by decide +kernel) ⟨Nat.le_of_ble_eq_true rfl, Nat.le_of_ble_eq_true rfl⟩) (by decide) (by decide) rfl rfl rfl (Nat.le_of_ble_eq_true rfl) dL_scarecrowOn_4 ⟨Nat.le_of_ble_eq_true rfl, Nat.le_of_ble_eq_true rfl⟩ rfl (fun e3 S4 r5 hr5 => ?_) (fun x1 S2 => ?_)
  · skip
    by_cases h7 : e3 = 1
    · subst h7
      refine ⟨(⟨0, 9, 12, 13⟩ : ExceptionTableEntry), ⟨[], [⟨0, 9, 15, 33⟩], hT.trans rfl, (fun w hw => by cases hw), by decide, by decide, by decide, by decide⟩, fun q6 => ?_⟩
      refine vs_eq (if_pos rfl) ?_
      refine vs_astore_n X (lv' := [(3, .ref q6), (0, rf G 0), (1, .int p2), (2, rf G 175)]) dL_scarecrowOn_12 (by decide) rfl ?_
      refine vs_iconst X (v := 1) dL_scarecrowOn_13 (by decide) ?_
      exact vs_xiret X dL_scarecrowOn_14 (by decide) (by decide)
    · skip
      by_cases h8 : e3 = 3
      · subst h8
        refine ⟨(⟨0, 9, 15, 33⟩ : ExceptionTableEntry), ⟨[⟨0, 9, 12, 13⟩], [], hT.trans rfl, (fun w hw => by cases List.mem_singleton.mp hw; exact Or.inr ⟨by decide, "java/lang/IllegalArgumentException", by decide, by decide, by decide⟩), by decide, by decide, by decide, by decide⟩, fun q6 => ?_⟩
        refine vs_eq ((if_neg (by decide)).trans (if_pos rfl)) ?_
        refine vs_astore_n X (lv' := [(3, .ref q6), (0, rf G 0), (1, .int p2), (2, rf G 175)]) dL_scarecrowOn_15 (by decide) rfl ?_
        refine vs_iconst X (v := 2) dL_scarecrowOn_16 (by decide) ?_
        exact vs_xiret X dL_scarecrowOn_17 (by decide) (by decide)
      · skip
        simp [h7, h8] at hr5
  refine vs_i2lw X dL_scarecrowOn_7 ?_
  refine vs_last X dL_scarecrowOn_8 (fun S9 hS9 => ?_)
  refine vs_goto X (tgt := 18) dL_scarecrowOn_9 (by decide) ?_
  refine vs_iconst X (v := 0) dL_scarecrowOn_18 (by decide) ?_
  exact vs_xiret X dL_scarecrowOn_19 (by decide) (by decide)

def spL_isRevoked (p2 : Int32) (S : Wo) : Option (Nat × Int32 × Wo) :=
  bxc (spX6_isRevoked p2 S) (fun x1 S2 => (if x1 = 0 then wr (pL S2 0) (fun S8 => some (0, 0, S8)) else wr (pL S2 1) (fun S9 => some (0, 0, S9)))) (fun e3 S4 => (if e3 = 2 then some (0, 1, S4) else none))
set_option maxHeartbeats 4000000 in
set_option maxRecDepth 100000 in
theorem mtL_isRevoked {l : Launch} (hl0 : l.stackTraces = false) {G : Gt} (p2 : Int32) {S : Wo} : ∀ rr, spL_isRevoked p2 S = some rr → MXI l yL_isRevoked wsL_isRevoked { frames := 8, cells := 1, slots := 6, locals := 124 } G S [rf G 0, .int p2, rf G 175] rr 1 6 := by
  refine MXIH_of (hh := [(0, 16, 19, 21)]) (cc := cL_isRevoked) (own := RL) (maxL := 4) (ret := (some .int)) (sp := spL_isRevoked p2 S) (by decide +kernel) rfl rfl (Nat.le_of_ble_eq_true rfl) ?_
  intro p e s m args below meth c X hT
  show VS G p l e _ s m args below meth c 4 _ _ 0 0 S 0 [(0, rf G 0), (1, .int p2), (2, rf G 175)] []
  unfold spL_isRevoked
  refine vs_aload_n X dL_isRevoked_0 2 rfl ?_
  refine vs_iconst X (v := 0) dL_isRevoked_1 (by decide) ?_
  refine vs_aload_n X dL_isRevoked_2 0 rfl ?_
  refine vs_iload_n X dL_isRevoked_3 1 rfl ?_
  refine vs_callVcI X (As := [.int p2]) (st' := [.int 0, rf G 175]) (mtX6_isRevoked hl0 p2) (cwV 1 X.2.2.2.2.1 gL_isRevoked_X6_isRevoked rfl rfl rfl (by decide +kernel) ⟨Nat.le_of_ble_eq_true rfl, Nat.le_of_ble_eq_true rfl⟩) (by decide) (by decide) rfl rfl rfl (Nat.le_of_ble_eq_true rfl) dL_isRevoked_4 ⟨Nat.le_of_ble_eq_true rfl, Nat.le_of_ble_eq_true rfl⟩ rfl (fun e3 S4 r5 hr5 => ?_) (fun x1 S2 => ?_)
  · skip
    by_cases h7 : e3 = 2
    · subst h7
      refine ⟨(⟨0, 16, 19, 21⟩ : ExceptionTableEntry), ⟨[], [], hT.trans rfl, (fun w hw => by cases hw), by decide, by decide, by decide, by decide⟩, fun q6 => ?_⟩
      refine vs_eq (if_pos rfl) ?_
      refine vs_astore_n X (lv' := [(3, .ref q6), (0, rf G 0), (1, .int p2), (2, rf G 175)]) dL_isRevoked_19 (by decide) rfl ?_
      refine vs_iconst X (v := 1) dL_isRevoked_20 (by decide) ?_
      exact vs_xiret X dL_isRevoked_21 (by decide) (by decide)
    · skip
      simp [h7] at hr5
  refine vs_if_eq X (tgt := 14) dL_isRevoked_7 (by decide) (fun _ => ?_) (fun _ => ?_)
  · refine vs_lconst X (v := 0) dL_isRevoked_14 rfl ?_
    refine vs_last X dL_isRevoked_15 (fun S8 hS8 => ?_)
    refine vs_goto X (tgt := 22) dL_isRevoked_16 (by decide) ?_
    refine vs_iconst X (v := 0) dL_isRevoked_22 (by decide) ?_
    exact vs_xiret X dL_isRevoked_23 (by decide) (by decide)
  · refine vs_lconst X (v := 1) dL_isRevoked_10 rfl ?_
    refine vs_goto X (tgt := 15) dL_isRevoked_11 (by decide) ?_
    refine vs_last X dL_isRevoked_15 (fun S9 hS9 => ?_)
    refine vs_goto X (tgt := 22) dL_isRevoked_16 (by decide) ?_
    refine vs_iconst X (v := 0) dL_isRevoked_22 (by decide) ?_
    exact vs_xiret X dL_isRevoked_23 (by decide) (by decide)

def spL_isCertified (p2 : Int32) (S : Wo) : Option (Nat × Int32 × Wo) :=
  bxc (spX6_isCertified p2 S) (fun x1 S2 => (if x1 = 0 then wr (pL S2 0) (fun S8 => some (0, 0, S8)) else wr (pL S2 1) (fun S9 => some (0, 0, S9)))) (fun e3 S4 => (if e3 = 2 then some (0, 1, S4) else none))
set_option maxHeartbeats 4000000 in
set_option maxRecDepth 100000 in
theorem mtL_isCertified {l : Launch} (hl0 : l.stackTraces = false) {G : Gt} (p2 : Int32) {S : Wo} : ∀ rr, spL_isCertified p2 S = some rr → MXI l yL_isCertified wsL_isCertified { frames := 8, cells := 1, slots := 6, locals := 124 } G S [rf G 0, .int p2, rf G 175] rr 1 6 := by
  refine MXIH_of (hh := [(0, 16, 19, 21)]) (cc := cL_isCertified) (own := RL) (maxL := 4) (ret := (some .int)) (sp := spL_isCertified p2 S) (by decide +kernel) rfl rfl (Nat.le_of_ble_eq_true rfl) ?_
  intro p e s m args below meth c X hT
  show VS G p l e _ s m args below meth c 4 _ _ 0 0 S 0 [(0, rf G 0), (1, .int p2), (2, rf G 175)] []
  unfold spL_isCertified
  refine vs_aload_n X dL_isCertified_0 2 rfl ?_
  refine vs_iconst X (v := 0) dL_isCertified_1 (by decide) ?_
  refine vs_aload_n X dL_isCertified_2 0 rfl ?_
  refine vs_iload_n X dL_isCertified_3 1 rfl ?_
  refine vs_callVcI X (As := [.int p2]) (st' := [.int 0, rf G 175]) (mtX6_isCertified hl0 p2) (cwV 1 X.2.2.2.2.1 gL_isCertified_X6_isCertified rfl rfl rfl (by decide +kernel) ⟨Nat.le_of_ble_eq_true rfl, Nat.le_of_ble_eq_true rfl⟩) (by decide) (by decide) rfl rfl rfl (Nat.le_of_ble_eq_true rfl) dL_isCertified_4 ⟨Nat.le_of_ble_eq_true rfl, Nat.le_of_ble_eq_true rfl⟩ rfl (fun e3 S4 r5 hr5 => ?_) (fun x1 S2 => ?_)
  · skip
    by_cases h7 : e3 = 2
    · subst h7
      refine ⟨(⟨0, 16, 19, 21⟩ : ExceptionTableEntry), ⟨[], [], hT.trans rfl, (fun w hw => by cases hw), by decide, by decide, by decide, by decide⟩, fun q6 => ?_⟩
      refine vs_eq (if_pos rfl) ?_
      refine vs_astore_n X (lv' := [(3, .ref q6), (0, rf G 0), (1, .int p2), (2, rf G 175)]) dL_isCertified_19 (by decide) rfl ?_
      refine vs_iconst X (v := 1) dL_isCertified_20 (by decide) ?_
      exact vs_xiret X dL_isCertified_21 (by decide) (by decide)
    · skip
      simp [h7] at hr5
  refine vs_if_eq X (tgt := 14) dL_isCertified_7 (by decide) (fun _ => ?_) (fun _ => ?_)
  · refine vs_lconst X (v := 0) dL_isCertified_14 rfl ?_
    refine vs_last X dL_isCertified_15 (fun S8 hS8 => ?_)
    refine vs_goto X (tgt := 22) dL_isCertified_16 (by decide) ?_
    refine vs_iconst X (v := 0) dL_isCertified_22 (by decide) ?_
    exact vs_xiret X dL_isCertified_23 (by decide) (by decide)
  · refine vs_lconst X (v := 1) dL_isCertified_10 rfl ?_
    refine vs_goto X (tgt := 15) dL_isCertified_11 (by decide) ?_
    refine vs_last X dL_isCertified_15 (fun S9 hS9 => ?_)
    refine vs_goto X (tgt := 22) dL_isCertified_16 (by decide) ?_
    refine vs_iconst X (v := 0) dL_isCertified_22 (by decide) ?_
    exact vs_xiret X dL_isCertified_23 (by decide) (by decide)

def spL_isCertifiedByChains (p2 : Int32) (S : Wo) : Option (Nat × Int32 × Wo) :=
  bxc (spX6_isCertifiedByChains p2 S) (fun x1 S2 => (if x1 = 0 then wr (pL S2 0) (fun S8 => some (0, 0, S8)) else wr (pL S2 1) (fun S9 => some (0, 0, S9)))) (fun e3 S4 => (if e3 = 2 then some (0, 1, S4) else none))
set_option maxHeartbeats 4000000 in
set_option maxRecDepth 100000 in
theorem mtL_isCertifiedByChains {l : Launch} (hl0 : l.stackTraces = false) {G : Gt} (p2 : Int32) {S : Wo} : ∀ rr, spL_isCertifiedByChains p2 S = some rr → MXI l yL_isCertifiedByChains wsL_isCertifiedByChains { frames := 8, cells := 1, slots := 6, locals := 124 } G S [rf G 0, .int p2, rf G 175] rr 1 6 := by
  refine MXIH_of (hh := [(0, 16, 19, 21)]) (cc := cL_isCertifiedByChains) (own := RL) (maxL := 4) (ret := (some .int)) (sp := spL_isCertifiedByChains p2 S) (by decide +kernel) rfl rfl (Nat.le_of_ble_eq_true rfl) ?_
  intro p e s m args below meth c X hT
  show VS G p l e _ s m args below meth c 4 _ _ 0 0 S 0 [(0, rf G 0), (1, .int p2), (2, rf G 175)] []
  unfold spL_isCertifiedByChains
  refine vs_aload_n X dL_isCertifiedByChains_0 2 rfl ?_
  refine vs_iconst X (v := 0) dL_isCertifiedByChains_1 (by decide) ?_
  refine vs_aload_n X dL_isCertifiedByChains_2 0 rfl ?_
  refine vs_iload_n X dL_isCertifiedByChains_3 1 rfl ?_
  refine vs_callVcI X (As := [.int p2]) (st' := [.int 0, rf G 175]) (mtX6_isCertifiedByChains hl0 p2) (cwV 1 X.2.2.2.2.1 gL_isCertifiedByChains_X6_isCertifiedByChains rfl rfl rfl (by decide +kernel) ⟨Nat.le_of_ble_eq_true rfl, Nat.le_of_ble_eq_true rfl⟩) (by decide) (by decide) rfl rfl rfl (Nat.le_of_ble_eq_true rfl) dL_isCertifiedByChains_4 ⟨Nat.le_of_ble_eq_true rfl, Nat.le_of_ble_eq_true rfl⟩ rfl (fun e3 S4 r5 hr5 => ?_) (fun x1 S2 => ?_)
  · skip
    by_cases h7 : e3 = 2
    · subst h7
      refine ⟨(⟨0, 16, 19, 21⟩ : ExceptionTableEntry), ⟨[], [], hT.trans rfl, (fun w hw => by cases hw), by decide, by decide, by decide, by decide⟩, fun q6 => ?_⟩
      refine vs_eq (if_pos rfl) ?_
      refine vs_astore_n X (lv' := [(3, .ref q6), (0, rf G 0), (1, .int p2), (2, rf G 175)]) dL_isCertifiedByChains_19 (by decide) rfl ?_
      refine vs_iconst X (v := 1) dL_isCertifiedByChains_20 (by decide) ?_
      exact vs_xiret X dL_isCertifiedByChains_21 (by decide) (by decide)
    · skip
      simp [h7] at hr5
  refine vs_if_eq X (tgt := 14) dL_isCertifiedByChains_7 (by decide) (fun _ => ?_) (fun _ => ?_)
  · refine vs_lconst X (v := 0) dL_isCertifiedByChains_14 rfl ?_
    refine vs_last X dL_isCertifiedByChains_15 (fun S8 hS8 => ?_)
    refine vs_goto X (tgt := 22) dL_isCertifiedByChains_16 (by decide) ?_
    refine vs_iconst X (v := 0) dL_isCertifiedByChains_22 (by decide) ?_
    exact vs_xiret X dL_isCertifiedByChains_23 (by decide) (by decide)
  · refine vs_lconst X (v := 1) dL_isCertifiedByChains_10 rfl ?_
    refine vs_goto X (tgt := 15) dL_isCertifiedByChains_11 (by decide) ?_
    refine vs_last X dL_isCertifiedByChains_15 (fun S9 hS9 => ?_)
    refine vs_goto X (tgt := 22) dL_isCertifiedByChains_16 (by decide) ?_
    refine vs_iconst X (v := 0) dL_isCertifiedByChains_22 (by decide) ?_
    exact vs_xiret X dL_isCertifiedByChains_23 (by decide) (by decide)

def spL_chainLength (p2 : Int32) (S : Wo) : Option (Nat × Int32 × Wo) :=
  bxc (spX6_chainLength p2 S) (fun x1 S2 => wr (pL S2 ((x1 : Int32).toInt64)) (fun S9 => some (0, 0, S9))) (fun e3 S4 => (if e3 = 2 then some (0, 1, S4) else (if e3 = 3 then some (0, 2, S4) else none)))
set_option maxHeartbeats 4000000 in
set_option maxRecDepth 100000 in
theorem mtL_chainLength {l : Launch} (hl0 : l.stackTraces = false) {G : Gt} (p2 : Int32) {S : Wo} : ∀ rr, spL_chainLength p2 S = some rr → MXI l yL_chainLength wsL_chainLength { frames := 8, cells := 2, slots := 12, locals := 125 } G S [rf G 0, .int p2, rf G 175] rr 2 12 := by
  refine MXIH_of (hh := [(0, 9, 12, 21), (0, 9, 15, 33)]) (cc := cL_chainLength) (own := RL) (maxL := 4) (ret := (some .int)) (sp := spL_chainLength p2 S) (by decide +kernel) rfl rfl (Nat.le_of_ble_eq_true rfl) ?_
  intro p e s m args below meth c X hT
  show VS G p l e _ s m args below meth c 4 _ _ 0 0 S 0 [(0, rf G 0), (1, .int p2), (2, rf G 175)] []
  unfold spL_chainLength
  refine vs_aload_n X dL_chainLength_0 2 rfl ?_
  refine vs_iconst X (v := 0) dL_chainLength_1 (by decide) ?_
  refine vs_aload_n X dL_chainLength_2 0 rfl ?_
  refine vs_iload_n X dL_chainLength_3 1 rfl ?_
  refine vs_callVcI X (As := [.int p2]) (st' := [.int 0, rf G 175]) (mtX6_chainLength hl0 p2) (cwV 1 X.2.2.2.2.1 gL_chainLength_X6_chainLength rfl rfl rfl (by decide +kernel) ⟨Nat.le_of_ble_eq_true rfl, Nat.le_of_ble_eq_true rfl⟩) (by decide) (by decide) rfl rfl rfl (Nat.le_of_ble_eq_true rfl) dL_chainLength_4 ⟨Nat.le_of_ble_eq_true rfl, Nat.le_of_ble_eq_true rfl⟩ rfl (fun e3 S4 r5 hr5 => ?_) (fun x1 S2 => ?_)
  · skip
    by_cases h7 : e3 = 2
    · subst h7
      refine ⟨(⟨0, 9, 12, 21⟩ : ExceptionTableEntry), ⟨[], [⟨0, 9, 15, 33⟩], hT.trans rfl, (fun w hw => by cases hw), by decide, by decide, by decide, by decide⟩, fun q6 => ?_⟩
      refine vs_eq (if_pos rfl) ?_
      refine vs_astore_n X (lv' := [(3, .ref q6), (0, rf G 0), (1, .int p2), (2, rf G 175)]) dL_chainLength_12 (by decide) rfl ?_
      refine vs_iconst X (v := 1) dL_chainLength_13 (by decide) ?_
      exact vs_xiret X dL_chainLength_14 (by decide) (by decide)
    · skip
      by_cases h8 : e3 = 3
      · subst h8
        refine ⟨(⟨0, 9, 15, 33⟩ : ExceptionTableEntry), ⟨[⟨0, 9, 12, 21⟩], [], hT.trans rfl, (fun w hw => by cases List.mem_singleton.mp hw; exact Or.inr ⟨by decide, "java/lang/IndexOutOfBoundsException", by decide, by decide, by decide⟩), by decide, by decide, by decide, by decide⟩, fun q6 => ?_⟩
        refine vs_eq ((if_neg (by decide)).trans (if_pos rfl)) ?_
        refine vs_astore_n X (lv' := [(3, .ref q6), (0, rf G 0), (1, .int p2), (2, rf G 175)]) dL_chainLength_15 (by decide) rfl ?_
        refine vs_iconst X (v := 2) dL_chainLength_16 (by decide) ?_
        exact vs_xiret X dL_chainLength_17 (by decide) (by decide)
      · skip
        simp [h7, h8] at hr5
  refine vs_i2lw X dL_chainLength_7 ?_
  refine vs_last X dL_chainLength_8 (fun S9 hS9 => ?_)
  refine vs_goto X (tgt := 18) dL_chainLength_9 (by decide) ?_
  refine vs_iconst X (v := 0) dL_chainLength_18 (by decide) ?_
  exact vs_xiret X dL_chainLength_19 (by decide) (by decide)

def spL_daysUntilUncertified (p2 : Int32) (S : Wo) : Option (Nat × Int32 × Wo) :=
  bxc (spX6_daysUntilUncertified p2 S) (fun x1 S2 => wr (pL S2 ((x1 : Int32).toInt64)) (fun S8 => some (0, 0, S8))) (fun e3 S4 => (if e3 = 2 then some (0, 1, S4) else none))
set_option maxHeartbeats 4000000 in
set_option maxRecDepth 100000 in
theorem mtL_daysUntilUncertified {l : Launch} (hl0 : l.stackTraces = false) {G : Gt} (p2 : Int32) {S : Wo} : ∀ rr, spL_daysUntilUncertified p2 S = some rr → MXI l yL_daysUntilUncertified wsL_daysUntilUncertified { frames := 8, cells := 1, slots := 6, locals := 125 } G S [rf G 0, .int p2, rf G 175] rr 1 6 := by
  refine MXIH_of (hh := [(0, 9, 12, 21)]) (cc := cL_daysUntilUncertified) (own := RL) (maxL := 4) (ret := (some .int)) (sp := spL_daysUntilUncertified p2 S) (by decide +kernel) rfl rfl (Nat.le_of_ble_eq_true rfl) ?_
  intro p e s m args below meth c X hT
  show VS G p l e _ s m args below meth c 4 _ _ 0 0 S 0 [(0, rf G 0), (1, .int p2), (2, rf G 175)] []
  unfold spL_daysUntilUncertified
  refine vs_aload_n X dL_daysUntilUncertified_0 2 rfl ?_
  refine vs_iconst X (v := 0) dL_daysUntilUncertified_1 (by decide) ?_
  refine vs_aload_n X dL_daysUntilUncertified_2 0 rfl ?_
  refine vs_iload_n X dL_daysUntilUncertified_3 1 rfl ?_
  refine vs_callVcI X (As := [.int p2]) (st' := [.int 0, rf G 175]) (mtX6_daysUntilUncertified hl0 p2) (cwV 1 X.2.2.2.2.1 gL_daysUntilUncertified_X6_daysUntilUncertified rfl rfl rfl (by decide +kernel) ⟨Nat.le_of_ble_eq_true rfl, Nat.le_of_ble_eq_true rfl⟩) (by decide) (by decide) rfl rfl rfl (Nat.le_of_ble_eq_true rfl) dL_daysUntilUncertified_4 ⟨Nat.le_of_ble_eq_true rfl, Nat.le_of_ble_eq_true rfl⟩ rfl (fun e3 S4 r5 hr5 => ?_) (fun x1 S2 => ?_)
  · skip
    by_cases h7 : e3 = 2
    · subst h7
      refine ⟨(⟨0, 9, 12, 21⟩ : ExceptionTableEntry), ⟨[], [], hT.trans rfl, (fun w hw => by cases hw), by decide, by decide, by decide, by decide⟩, fun q6 => ?_⟩
      refine vs_eq (if_pos rfl) ?_
      refine vs_astore_n X (lv' := [(3, .ref q6), (0, rf G 0), (1, .int p2), (2, rf G 175)]) dL_daysUntilUncertified_12 (by decide) rfl ?_
      refine vs_iconst X (v := 1) dL_daysUntilUncertified_13 (by decide) ?_
      exact vs_xiret X dL_daysUntilUncertified_14 (by decide) (by decide)
    · skip
      simp [h7] at hr5
  refine vs_i2lw X dL_daysUntilUncertified_7 ?_
  refine vs_last X dL_daysUntilUncertified_8 (fun S8 hS8 => ?_)
  refine vs_goto X (tgt := 15) dL_daysUntilUncertified_9 (by decide) ?_
  refine vs_iconst X (v := 0) dL_daysUntilUncertified_15 (by decide) ?_
  exact vs_xiret X dL_daysUntilUncertified_16 (by decide) (by decide)

def spL_scarecrowByCertificates (p2 : Int32) (S : Wo) : Option (Nat × Int32 × Wo) :=
  bxc (spX6_scarecrowByCertificates p2 S) (fun x1 S2 => wr (pL S2 ((x1 : Int32).toInt64)) (fun S8 => some (0, 0, S8))) (fun e3 S4 => (if e3 = 3 then some (0, 1, S4) else none))
set_option maxHeartbeats 4000000 in
set_option maxRecDepth 100000 in
theorem mtL_scarecrowByCertificates {l : Launch} (hl0 : l.stackTraces = false) {G : Gt} (p2 : Int32) {S : Wo} : ∀ rr, spL_scarecrowByCertificates p2 S = some rr → MXI l yL_scarecrowByCertificates wsL_scarecrowByCertificates { frames := 7, cells := 1, slots := 6, locals := 136 } G S [rf G 0, .int p2, rf G 175] rr 1 6 := by
  refine MXIH_of (hh := [(0, 9, 12, 33)]) (cc := cL_scarecrowByCertificates) (own := RL) (maxL := 4) (ret := (some .int)) (sp := spL_scarecrowByCertificates p2 S) (by decide +kernel) rfl rfl (Nat.le_of_ble_eq_true rfl) ?_
  intro p e s m args below meth c X hT
  show VS G p l e _ s m args below meth c 4 _ _ 0 0 S 0 [(0, rf G 0), (1, .int p2), (2, rf G 175)] []
  unfold spL_scarecrowByCertificates
  refine vs_aload_n X dL_scarecrowByCertificates_0 2 rfl ?_
  refine vs_iconst X (v := 0) dL_scarecrowByCertificates_1 (by decide) ?_
  refine vs_aload_n X dL_scarecrowByCertificates_2 0 rfl ?_
  refine vs_iload_n X dL_scarecrowByCertificates_3 1 rfl ?_
  refine vs_callVcI X (As := [.int p2]) (st' := [.int 0, rf G 175]) (mtX6_scarecrowByCertificates hl0 p2) (cwV 1 X.2.2.2.2.1 gL_scarecrowByCertificates_X6_scarecrowByCertificates rfl rfl rfl (by decide +kernel) ⟨Nat.le_of_ble_eq_true rfl, Nat.le_of_ble_eq_true rfl⟩) (by decide) (by decide) rfl rfl rfl (Nat.le_of_ble_eq_true rfl) dL_scarecrowByCertificates_4 ⟨Nat.le_of_ble_eq_true rfl, Nat.le_of_ble_eq_true rfl⟩ rfl (fun e3 S4 r5 hr5 => ?_) (fun x1 S2 => ?_)
  · skip
    by_cases h7 : e3 = 3
    · subst h7
      refine ⟨(⟨0, 9, 12, 33⟩ : ExceptionTableEntry), ⟨[], [], hT.trans rfl, (fun w hw => by cases hw), by decide, by decide, by decide, by decide⟩, fun q6 => ?_⟩
      refine vs_eq (if_pos rfl) ?_
      refine vs_astore_n X (lv' := [(3, .ref q6), (0, rf G 0), (1, .int p2), (2, rf G 175)]) dL_scarecrowByCertificates_12 (by decide) rfl ?_
      refine vs_iconst X (v := 1) dL_scarecrowByCertificates_13 (by decide) ?_
      exact vs_xiret X dL_scarecrowByCertificates_14 (by decide) (by decide)
    · skip
      simp [h7] at hr5
  refine vs_i2lw X dL_scarecrowByCertificates_7 ?_
  refine vs_last X dL_scarecrowByCertificates_8 (fun S8 hS8 => ?_)
  refine vs_goto X (tgt := 15) dL_scarecrowByCertificates_9 (by decide) ?_
  refine vs_iconst X (v := 0) dL_scarecrowByCertificates_15 (by decide) ?_
  exact vs_xiret X dL_scarecrowByCertificates_16 (by decide) (by decide)

def spL_issueByRegistry (p2 : Int32) (p3 : Int32) (S : Wo) : Option (Nat × Int32 × Wo) :=
  bxc (spX6_issueByRegistry p2 p3 S) (fun x1 S2 => wr (pL S2 ((x1 : Int32).toInt64)) (fun S10 => some (0, 0, S10))) (fun e3 S4 => (if e3 = 2 then some (0, 1, S4) else (if e3 = 1 then some (0, 2, S4) else (if e3 = 4 then some (0, 3, S4) else none))))
set_option maxHeartbeats 4000000 in
set_option maxRecDepth 100000 in
theorem mtL_issueByRegistry {l : Launch} (hl0 : l.stackTraces = false) {G : Gt} (p2 : Int32) (p3 : Int32) {S : Wo} : ∀ rr, spL_issueByRegistry p2 p3 S = some rr → MXI l yL_issueByRegistry wsL_issueByRegistry { frames := 8, cells := 1, slots := 6, locals := 128 } G S [rf G 0, .int p2, .int p3, rf G 175] rr 1 6 := by
  refine MXIH_of (hh := [(0, 10, 13, 21), (0, 10, 17, 13), (0, 10, 21, 15)]) (cc := cL_issueByRegistry) (own := RL) (maxL := 5) (ret := (some .int)) (sp := spL_issueByRegistry p2 p3 S) (by decide +kernel) rfl rfl (Nat.le_of_ble_eq_true rfl) ?_
  intro p e s m args below meth c X hT
  show VS G p l e _ s m args below meth c 5 _ _ 0 0 S 0 [(0, rf G 0), (1, .int p2), (2, .int p3), (3, rf G 175)] []
  unfold spL_issueByRegistry
  refine vs_aload_n X dL_issueByRegistry_0 3 rfl ?_
  refine vs_iconst X (v := 0) dL_issueByRegistry_1 (by decide) ?_
  refine vs_aload_n X dL_issueByRegistry_2 0 rfl ?_
  refine vs_iload_n X dL_issueByRegistry_3 1 rfl ?_
  refine vs_iload_n X dL_issueByRegistry_4 2 rfl ?_
  refine vs_callVcI X (As := [.int p2, .int p3]) (st' := [.int 0, rf G 175]) (mtX6_issueByRegistry hl0 p2 p3) (cwV 2 X.2.2.2.2.1 gL_issueByRegistry_X6_issueByRegistry rfl rfl rfl (by decide +kernel) ⟨Nat.le_of_ble_eq_true rfl, Nat.le_of_ble_eq_true rfl⟩) (by decide) (by decide) rfl rfl rfl (Nat.le_of_ble_eq_true rfl) dL_issueByRegistry_5 ⟨Nat.le_of_ble_eq_true rfl, Nat.le_of_ble_eq_true rfl⟩ rfl (fun e3 S4 r5 hr5 => ?_) (fun x1 S2 => ?_)
  · skip
    by_cases h7 : e3 = 2
    · subst h7
      refine ⟨(⟨0, 10, 13, 21⟩ : ExceptionTableEntry), ⟨[], [⟨0, 10, 17, 13⟩, ⟨0, 10, 21, 15⟩], hT.trans rfl, (fun w hw => by cases hw), by decide, by decide, by decide, by decide⟩, fun q6 => ?_⟩
      refine vs_eq (if_pos rfl) ?_
      refine vs_astore X (lv' := [(4, .ref q6), (0, rf G 0), (1, .int p2), (2, .int p3), (3, rf G 175)]) dL_issueByRegistry_13 (by decide) rfl ?_
      refine vs_iconst X (v := 1) dL_issueByRegistry_15 (by decide) ?_
      exact vs_xiret X dL_issueByRegistry_16 (by decide) (by decide)
    · skip
      by_cases h8 : e3 = 1
      · subst h8
        refine ⟨(⟨0, 10, 17, 13⟩ : ExceptionTableEntry), ⟨[⟨0, 10, 13, 21⟩], [⟨0, 10, 21, 15⟩], hT.trans rfl, (fun w hw => by cases List.mem_singleton.mp hw; exact Or.inr ⟨by decide, "java/lang/IndexOutOfBoundsException", by decide, by decide, by decide⟩), by decide, by decide, by decide, by decide⟩, fun q6 => ?_⟩
        refine vs_eq ((if_neg (by decide)).trans (if_pos rfl)) ?_
        refine vs_astore X (lv' := [(4, .ref q6), (0, rf G 0), (1, .int p2), (2, .int p3), (3, rf G 175)]) dL_issueByRegistry_17 (by decide) rfl ?_
        refine vs_iconst X (v := 2) dL_issueByRegistry_19 (by decide) ?_
        exact vs_xiret X dL_issueByRegistry_20 (by decide) (by decide)
      · skip
        by_cases h9 : e3 = 4
        · subst h9
          refine ⟨(⟨0, 10, 21, 15⟩ : ExceptionTableEntry), ⟨[⟨0, 10, 13, 21⟩, ⟨0, 10, 17, 13⟩], [], hT.trans rfl, (fun w hw => by simp only [List.mem_cons, List.not_mem_nil, or_false] at hw; rcases hw with rfl | hw; exact Or.inr ⟨by decide, "java/lang/IndexOutOfBoundsException", by decide, by decide, by decide⟩; rcases hw with rfl; exact Or.inr ⟨by decide, "java/lang/IllegalArgumentException", by decide, by decide, by decide⟩), by decide, by decide, by decide, by decide⟩, fun q6 => ?_⟩
          refine vs_eq ((if_neg (by decide)).trans ((if_neg (by decide)).trans (if_pos rfl))) ?_
          refine vs_astore X (lv' := [(4, .ref q6), (0, rf G 0), (1, .int p2), (2, .int p3), (3, rf G 175)]) dL_issueByRegistry_21 (by decide) rfl ?_
          refine vs_iconst X (v := 3) dL_issueByRegistry_23 (by decide) ?_
          exact vs_xiret X dL_issueByRegistry_24 (by decide) (by decide)
        · skip
          simp [h7, h8, h9] at hr5
  refine vs_i2lw X dL_issueByRegistry_8 ?_
  refine vs_last X dL_issueByRegistry_9 (fun S10 hS10 => ?_)
  refine vs_goto X (tgt := 25) dL_issueByRegistry_10 (by decide) ?_
  refine vs_iconst X (v := 0) dL_issueByRegistry_25 (by decide) ?_
  exact vs_xiret X dL_issueByRegistry_26 (by decide) (by decide)

def spL_issue (p2 : Int32) (p3 : Int32) (p4 : Int32) (S : Wo) : Option (Nat × Int32 × Wo) :=
  bxc (spX6_issue p2 p3 p4 S) (fun x1 S2 => wr (pL S2 ((x1 : Int32).toInt64)) (fun S10 => some (0, 0, S10))) (fun e3 S4 => (if e3 = 2 then some (0, 1, S4) else (if e3 = 1 then some (0, 2, S4) else (if e3 = 4 then some (0, 3, S4) else none))))
set_option maxHeartbeats 4000000 in
set_option maxRecDepth 100000 in
theorem mtL_issue {l : Launch} (hl0 : l.stackTraces = false) {G : Gt} (p2 : Int32) (p3 : Int32) (p4 : Int32) {S : Wo} : ∀ rr, spL_issue p2 p3 p4 S = some rr → MXI l yL_issue wsL_issue { frames := 8, cells := 1, slots := 6, locals := 139 } G S [rf G 0, .int p2, .int p3, .int p4, rf G 175] rr 1 6 := by
  refine MXIH_of (hh := [(0, 12, 15, 21), (0, 12, 19, 13), (0, 12, 23, 15)]) (cc := cL_issue) (own := RL) (maxL := 6) (ret := (some .int)) (sp := spL_issue p2 p3 p4 S) (by decide +kernel) rfl rfl (Nat.le_of_ble_eq_true rfl) ?_
  intro p e s m args below meth c X hT
  show VS G p l e _ s m args below meth c 6 _ _ 0 0 S 0 [(0, rf G 0), (1, .int p2), (2, .int p3), (3, .int p4), (4, rf G 175)] []
  unfold spL_issue
  refine vs_aload X dL_issue_0 4 rfl ?_
  refine vs_iconst X (v := 0) dL_issue_2 (by decide) ?_
  refine vs_aload_n X dL_issue_3 0 rfl ?_
  refine vs_iload_n X dL_issue_4 1 rfl ?_
  refine vs_iload_n X dL_issue_5 2 rfl ?_
  refine vs_iload_n X dL_issue_6 3 rfl ?_
  refine vs_callVcI X (As := [.int p2, .int p3, .int p4]) (st' := [.int 0, rf G 175]) (mtX6_issue hl0 p2 p3 p4) (cwV 3 X.2.2.2.2.1 gL_issue_X6_issue rfl rfl rfl (by decide +kernel) ⟨Nat.le_of_ble_eq_true rfl, Nat.le_of_ble_eq_true rfl⟩) (by decide) (by decide) rfl rfl rfl (Nat.le_of_ble_eq_true rfl) dL_issue_7 ⟨Nat.le_of_ble_eq_true rfl, Nat.le_of_ble_eq_true rfl⟩ rfl (fun e3 S4 r5 hr5 => ?_) (fun x1 S2 => ?_)
  · skip
    by_cases h7 : e3 = 2
    · subst h7
      refine ⟨(⟨0, 12, 15, 21⟩ : ExceptionTableEntry), ⟨[], [⟨0, 12, 19, 13⟩, ⟨0, 12, 23, 15⟩], hT.trans rfl, (fun w hw => by cases hw), by decide, by decide, by decide, by decide⟩, fun q6 => ?_⟩
      refine vs_eq (if_pos rfl) ?_
      refine vs_astore X (lv' := [(5, .ref q6), (0, rf G 0), (1, .int p2), (2, .int p3), (3, .int p4), (4, rf G 175)]) dL_issue_15 (by decide) rfl ?_
      refine vs_iconst X (v := 1) dL_issue_17 (by decide) ?_
      exact vs_xiret X dL_issue_18 (by decide) (by decide)
    · skip
      by_cases h8 : e3 = 1
      · subst h8
        refine ⟨(⟨0, 12, 19, 13⟩ : ExceptionTableEntry), ⟨[⟨0, 12, 15, 21⟩], [⟨0, 12, 23, 15⟩], hT.trans rfl, (fun w hw => by cases List.mem_singleton.mp hw; exact Or.inr ⟨by decide, "java/lang/IndexOutOfBoundsException", by decide, by decide, by decide⟩), by decide, by decide, by decide, by decide⟩, fun q6 => ?_⟩
        refine vs_eq ((if_neg (by decide)).trans (if_pos rfl)) ?_
        refine vs_astore X (lv' := [(5, .ref q6), (0, rf G 0), (1, .int p2), (2, .int p3), (3, .int p4), (4, rf G 175)]) dL_issue_19 (by decide) rfl ?_
        refine vs_iconst X (v := 2) dL_issue_21 (by decide) ?_
        exact vs_xiret X dL_issue_22 (by decide) (by decide)
      · skip
        by_cases h9 : e3 = 4
        · subst h9
          refine ⟨(⟨0, 12, 23, 15⟩ : ExceptionTableEntry), ⟨[⟨0, 12, 15, 21⟩, ⟨0, 12, 19, 13⟩], [], hT.trans rfl, (fun w hw => by simp only [List.mem_cons, List.not_mem_nil, or_false] at hw; rcases hw with rfl | hw; exact Or.inr ⟨by decide, "java/lang/IndexOutOfBoundsException", by decide, by decide, by decide⟩; rcases hw with rfl; exact Or.inr ⟨by decide, "java/lang/IllegalArgumentException", by decide, by decide, by decide⟩), by decide, by decide, by decide, by decide⟩, fun q6 => ?_⟩
          refine vs_eq ((if_neg (by decide)).trans ((if_neg (by decide)).trans (if_pos rfl))) ?_
          refine vs_astore X (lv' := [(5, .ref q6), (0, rf G 0), (1, .int p2), (2, .int p3), (3, .int p4), (4, rf G 175)]) dL_issue_23 (by decide) rfl ?_
          refine vs_iconst X (v := 3) dL_issue_25 (by decide) ?_
          exact vs_xiret X dL_issue_26 (by decide) (by decide)
        · skip
          simp [h7, h8, h9] at hr5
  refine vs_i2lw X dL_issue_10 ?_
  refine vs_last X dL_issue_11 (fun S10 hS10 => ?_)
  refine vs_goto X (tgt := 27) dL_issue_12 (by decide) ?_
  refine vs_iconst X (v := 0) dL_issue_27 (by decide) ?_
  exact vs_xiret X dL_issue_28 (by decide) (by decide)

def spL_withdraw (p2 : Int32) (S : Wo) : Option (Nat × Int32 × Wo) :=
  bxc (spX6_withdraw p2 S) (fun x1 S2 => wr (pL S2 ((x1 : Int32).toInt64)) (fun S8 => some (0, 0, S8))) (fun e3 S4 => (if e3 = 2 then some (0, 1, S4) else none))
set_option maxHeartbeats 4000000 in
set_option maxRecDepth 100000 in
theorem mtL_withdraw {l : Launch} (hl0 : l.stackTraces = false) {G : Gt} (p2 : Int32) {S : Wo} : ∀ rr, spL_withdraw p2 S = some rr → MXI l yL_withdraw wsL_withdraw { frames := 8, cells := 1, slots := 6, locals := 127 } G S [rf G 0, .int p2, rf G 175] rr 1 6 := by
  refine MXIH_of (hh := [(0, 9, 12, 21)]) (cc := cL_withdraw) (own := RL) (maxL := 4) (ret := (some .int)) (sp := spL_withdraw p2 S) (by decide +kernel) rfl rfl (Nat.le_of_ble_eq_true rfl) ?_
  intro p e s m args below meth c X hT
  show VS G p l e _ s m args below meth c 4 _ _ 0 0 S 0 [(0, rf G 0), (1, .int p2), (2, rf G 175)] []
  unfold spL_withdraw
  refine vs_aload_n X dL_withdraw_0 2 rfl ?_
  refine vs_iconst X (v := 0) dL_withdraw_1 (by decide) ?_
  refine vs_aload_n X dL_withdraw_2 0 rfl ?_
  refine vs_iload_n X dL_withdraw_3 1 rfl ?_
  refine vs_callVcI X (As := [.int p2]) (st' := [.int 0, rf G 175]) (mtX6_withdraw hl0 p2) (cwV 1 X.2.2.2.2.1 gL_withdraw_X6_withdraw rfl rfl rfl (by decide +kernel) ⟨Nat.le_of_ble_eq_true rfl, Nat.le_of_ble_eq_true rfl⟩) (by decide) (by decide) rfl rfl rfl (Nat.le_of_ble_eq_true rfl) dL_withdraw_4 ⟨Nat.le_of_ble_eq_true rfl, Nat.le_of_ble_eq_true rfl⟩ rfl (fun e3 S4 r5 hr5 => ?_) (fun x1 S2 => ?_)
  · skip
    by_cases h7 : e3 = 2
    · subst h7
      refine ⟨(⟨0, 9, 12, 21⟩ : ExceptionTableEntry), ⟨[], [], hT.trans rfl, (fun w hw => by cases hw), by decide, by decide, by decide, by decide⟩, fun q6 => ?_⟩
      refine vs_eq (if_pos rfl) ?_
      refine vs_astore_n X (lv' := [(3, .ref q6), (0, rf G 0), (1, .int p2), (2, rf G 175)]) dL_withdraw_12 (by decide) rfl ?_
      refine vs_iconst X (v := 1) dL_withdraw_13 (by decide) ?_
      exact vs_xiret X dL_withdraw_14 (by decide) (by decide)
    · skip
      simp [h7] at hr5
  refine vs_i2lw X dL_withdraw_7 ?_
  refine vs_last X dL_withdraw_8 (fun S8 hS8 => ?_)
  refine vs_goto X (tgt := 15) dL_withdraw_9 (by decide) ?_
  refine vs_iconst X (v := 0) dL_withdraw_15 (by decide) ?_
  exact vs_xiret X dL_withdraw_16 (by decide) (by decide)

def spL_isByRegistry (p2 : Int32) (S : Wo) : Option (Nat × Int32 × Wo) :=
  bxc (spX6_isByRegistry p2 S) (fun x1 S2 => (if x1 = 0 then wr (pL S2 0) (fun S8 => some (0, 0, S8)) else wr (pL S2 1) (fun S9 => some (0, 0, S9)))) (fun e3 S4 => (if e3 = 2 then some (0, 1, S4) else none))
set_option maxHeartbeats 4000000 in
set_option maxRecDepth 100000 in
theorem mtL_isByRegistry {l : Launch} (hl0 : l.stackTraces = false) {G : Gt} (p2 : Int32) {S : Wo} : ∀ rr, spL_isByRegistry p2 S = some rr → MXI l yL_isByRegistry wsL_isByRegistry { frames := 8, cells := 1, slots := 6, locals := 124 } G S [rf G 0, .int p2, rf G 175] rr 1 6 := by
  refine MXIH_of (hh := [(0, 16, 19, 21)]) (cc := cL_isByRegistry) (own := RL) (maxL := 4) (ret := (some .int)) (sp := spL_isByRegistry p2 S) (by decide +kernel) rfl rfl (Nat.le_of_ble_eq_true rfl) ?_
  intro p e s m args below meth c X hT
  show VS G p l e _ s m args below meth c 4 _ _ 0 0 S 0 [(0, rf G 0), (1, .int p2), (2, rf G 175)] []
  unfold spL_isByRegistry
  refine vs_aload_n X dL_isByRegistry_0 2 rfl ?_
  refine vs_iconst X (v := 0) dL_isByRegistry_1 (by decide) ?_
  refine vs_aload_n X dL_isByRegistry_2 0 rfl ?_
  refine vs_iload_n X dL_isByRegistry_3 1 rfl ?_
  refine vs_callVcI X (As := [.int p2]) (st' := [.int 0, rf G 175]) (mtX6_isByRegistry hl0 p2) (cwV 1 X.2.2.2.2.1 gL_isByRegistry_X6_isByRegistry rfl rfl rfl (by decide +kernel) ⟨Nat.le_of_ble_eq_true rfl, Nat.le_of_ble_eq_true rfl⟩) (by decide) (by decide) rfl rfl rfl (Nat.le_of_ble_eq_true rfl) dL_isByRegistry_4 ⟨Nat.le_of_ble_eq_true rfl, Nat.le_of_ble_eq_true rfl⟩ rfl (fun e3 S4 r5 hr5 => ?_) (fun x1 S2 => ?_)
  · skip
    by_cases h7 : e3 = 2
    · subst h7
      refine ⟨(⟨0, 16, 19, 21⟩ : ExceptionTableEntry), ⟨[], [], hT.trans rfl, (fun w hw => by cases hw), by decide, by decide, by decide, by decide⟩, fun q6 => ?_⟩
      refine vs_eq (if_pos rfl) ?_
      refine vs_astore_n X (lv' := [(3, .ref q6), (0, rf G 0), (1, .int p2), (2, rf G 175)]) dL_isByRegistry_19 (by decide) rfl ?_
      refine vs_iconst X (v := 1) dL_isByRegistry_20 (by decide) ?_
      exact vs_xiret X dL_isByRegistry_21 (by decide) (by decide)
    · skip
      simp [h7] at hr5
  refine vs_if_eq X (tgt := 14) dL_isByRegistry_7 (by decide) (fun _ => ?_) (fun _ => ?_)
  · refine vs_lconst X (v := 0) dL_isByRegistry_14 rfl ?_
    refine vs_last X dL_isByRegistry_15 (fun S8 hS8 => ?_)
    refine vs_goto X (tgt := 22) dL_isByRegistry_16 (by decide) ?_
    refine vs_iconst X (v := 0) dL_isByRegistry_22 (by decide) ?_
    exact vs_xiret X dL_isByRegistry_23 (by decide) (by decide)
  · refine vs_lconst X (v := 1) dL_isByRegistry_10 rfl ?_
    refine vs_goto X (tgt := 15) dL_isByRegistry_11 (by decide) ?_
    refine vs_last X dL_isByRegistry_15 (fun S9 hS9 => ?_)
    refine vs_goto X (tgt := 22) dL_isByRegistry_16 (by decide) ?_
    refine vs_iconst X (v := 0) dL_isByRegistry_22 (by decide) ?_
    exact vs_xiret X dL_isByRegistry_23 (by decide) (by decide)

def spL_issuerOf (p2 : Int32) (S : Wo) : Option (Nat × Int32 × Wo) :=
  bxc (spX6_issuerOf p2 S) (fun x1 S2 => wr (pL S2 ((x1 : Int32).toInt64)) (fun S9 => some (0, 0, S9))) (fun e3 S4 => (if e3 = 2 then some (0, 1, S4) else (if e3 = 3 then some (0, 2, S4) else none)))
set_option maxHeartbeats 4000000 in
set_option maxRecDepth 100000 in
theorem mtL_issuerOf {l : Launch} (hl0 : l.stackTraces = false) {G : Gt} (p2 : Int32) {S : Wo} : ∀ rr, spL_issuerOf p2 S = some rr → MXI l yL_issuerOf wsL_issuerOf { frames := 8, cells := 2, slots := 12, locals := 125 } G S [rf G 0, .int p2, rf G 175] rr 2 12 := by
  refine MXIH_of (hh := [(0, 9, 12, 21), (0, 9, 15, 33)]) (cc := cL_issuerOf) (own := RL) (maxL := 4) (ret := (some .int)) (sp := spL_issuerOf p2 S) (by decide +kernel) rfl rfl (Nat.le_of_ble_eq_true rfl) ?_
  intro p e s m args below meth c X hT
  show VS G p l e _ s m args below meth c 4 _ _ 0 0 S 0 [(0, rf G 0), (1, .int p2), (2, rf G 175)] []
  unfold spL_issuerOf
  refine vs_aload_n X dL_issuerOf_0 2 rfl ?_
  refine vs_iconst X (v := 0) dL_issuerOf_1 (by decide) ?_
  refine vs_aload_n X dL_issuerOf_2 0 rfl ?_
  refine vs_iload_n X dL_issuerOf_3 1 rfl ?_
  refine vs_callVcI X (As := [.int p2]) (st' := [.int 0, rf G 175]) (mtX6_issuerOf hl0 p2) (cwV 1 X.2.2.2.2.1 gL_issuerOf_X6_issuerOf rfl rfl rfl (by decide +kernel) ⟨Nat.le_of_ble_eq_true rfl, Nat.le_of_ble_eq_true rfl⟩) (by decide) (by decide) rfl rfl rfl (Nat.le_of_ble_eq_true rfl) dL_issuerOf_4 ⟨Nat.le_of_ble_eq_true rfl, Nat.le_of_ble_eq_true rfl⟩ rfl (fun e3 S4 r5 hr5 => ?_) (fun x1 S2 => ?_)
  · skip
    by_cases h7 : e3 = 2
    · subst h7
      refine ⟨(⟨0, 9, 12, 21⟩ : ExceptionTableEntry), ⟨[], [⟨0, 9, 15, 33⟩], hT.trans rfl, (fun w hw => by cases hw), by decide, by decide, by decide, by decide⟩, fun q6 => ?_⟩
      refine vs_eq (if_pos rfl) ?_
      refine vs_astore_n X (lv' := [(3, .ref q6), (0, rf G 0), (1, .int p2), (2, rf G 175)]) dL_issuerOf_12 (by decide) rfl ?_
      refine vs_iconst X (v := 1) dL_issuerOf_13 (by decide) ?_
      exact vs_xiret X dL_issuerOf_14 (by decide) (by decide)
    · skip
      by_cases h8 : e3 = 3
      · subst h8
        refine ⟨(⟨0, 9, 15, 33⟩ : ExceptionTableEntry), ⟨[⟨0, 9, 12, 21⟩], [], hT.trans rfl, (fun w hw => by cases List.mem_singleton.mp hw; exact Or.inr ⟨by decide, "java/lang/IndexOutOfBoundsException", by decide, by decide, by decide⟩), by decide, by decide, by decide, by decide⟩, fun q6 => ?_⟩
        refine vs_eq ((if_neg (by decide)).trans (if_pos rfl)) ?_
        refine vs_astore_n X (lv' := [(3, .ref q6), (0, rf G 0), (1, .int p2), (2, rf G 175)]) dL_issuerOf_15 (by decide) rfl ?_
        refine vs_iconst X (v := 2) dL_issuerOf_16 (by decide) ?_
        exact vs_xiret X dL_issuerOf_17 (by decide) (by decide)
      · skip
        simp [h7, h8] at hr5
  refine vs_i2lw X dL_issuerOf_7 ?_
  refine vs_last X dL_issuerOf_8 (fun S9 hS9 => ?_)
  refine vs_goto X (tgt := 18) dL_issuerOf_9 (by decide) ?_
  refine vs_iconst X (v := 0) dL_issuerOf_18 (by decide) ?_
  exact vs_xiret X dL_issuerOf_19 (by decide) (by decide)

def spL_subjectOf (p2 : Int32) (S : Wo) : Option (Nat × Int32 × Wo) :=
  bxc (spX6_subjectOf p2 S) (fun x1 S2 => wr (pL S2 ((x1 : Int32).toInt64)) (fun S8 => some (0, 0, S8))) (fun e3 S4 => (if e3 = 2 then some (0, 1, S4) else none))
set_option maxHeartbeats 4000000 in
set_option maxRecDepth 100000 in
theorem mtL_subjectOf {l : Launch} (hl0 : l.stackTraces = false) {G : Gt} (p2 : Int32) {S : Wo} : ∀ rr, spL_subjectOf p2 S = some rr → MXI l yL_subjectOf wsL_subjectOf { frames := 8, cells := 1, slots := 6, locals := 124 } G S [rf G 0, .int p2, rf G 175] rr 1 6 := by
  refine MXIH_of (hh := [(0, 9, 12, 21)]) (cc := cL_subjectOf) (own := RL) (maxL := 4) (ret := (some .int)) (sp := spL_subjectOf p2 S) (by decide +kernel) rfl rfl (Nat.le_of_ble_eq_true rfl) ?_
  intro p e s m args below meth c X hT
  show VS G p l e _ s m args below meth c 4 _ _ 0 0 S 0 [(0, rf G 0), (1, .int p2), (2, rf G 175)] []
  unfold spL_subjectOf
  refine vs_aload_n X dL_subjectOf_0 2 rfl ?_
  refine vs_iconst X (v := 0) dL_subjectOf_1 (by decide) ?_
  refine vs_aload_n X dL_subjectOf_2 0 rfl ?_
  refine vs_iload_n X dL_subjectOf_3 1 rfl ?_
  refine vs_callVcI X (As := [.int p2]) (st' := [.int 0, rf G 175]) (mtX6_subjectOf hl0 p2) (cwV 1 X.2.2.2.2.1 gL_subjectOf_X6_subjectOf rfl rfl rfl (by decide +kernel) ⟨Nat.le_of_ble_eq_true rfl, Nat.le_of_ble_eq_true rfl⟩) (by decide) (by decide) rfl rfl rfl (Nat.le_of_ble_eq_true rfl) dL_subjectOf_4 ⟨Nat.le_of_ble_eq_true rfl, Nat.le_of_ble_eq_true rfl⟩ rfl (fun e3 S4 r5 hr5 => ?_) (fun x1 S2 => ?_)
  · skip
    by_cases h7 : e3 = 2
    · subst h7
      refine ⟨(⟨0, 9, 12, 21⟩ : ExceptionTableEntry), ⟨[], [], hT.trans rfl, (fun w hw => by cases hw), by decide, by decide, by decide, by decide⟩, fun q6 => ?_⟩
      refine vs_eq (if_pos rfl) ?_
      refine vs_astore_n X (lv' := [(3, .ref q6), (0, rf G 0), (1, .int p2), (2, rf G 175)]) dL_subjectOf_12 (by decide) rfl ?_
      refine vs_iconst X (v := 1) dL_subjectOf_13 (by decide) ?_
      exact vs_xiret X dL_subjectOf_14 (by decide) (by decide)
    · skip
      simp [h7] at hr5
  refine vs_i2lw X dL_subjectOf_7 ?_
  refine vs_last X dL_subjectOf_8 (fun S8 hS8 => ?_)
  refine vs_goto X (tgt := 15) dL_subjectOf_9 (by decide) ?_
  refine vs_iconst X (v := 0) dL_subjectOf_15 (by decide) ?_
  exact vs_xiret X dL_subjectOf_16 (by decide) (by decide)

def spL_addressOf (p2 : Int32) (S : Wo) : Option (Nat × Int32 × Wo) :=
  bxc (spX6_addressOf p2 S) (fun x1 S2 => wr (pL S2 ((x1 : Int32).toInt64)) (fun S8 => some (0, 0, S8))) (fun e3 S4 => (if e3 = 2 then some (0, 1, S4) else none))
set_option maxHeartbeats 4000000 in
set_option maxRecDepth 100000 in
theorem mtL_addressOf {l : Launch} (hl0 : l.stackTraces = false) {G : Gt} (p2 : Int32) {S : Wo} : ∀ rr, spL_addressOf p2 S = some rr → MXI l yL_addressOf wsL_addressOf { frames := 8, cells := 1, slots := 6, locals := 124 } G S [rf G 0, .int p2, rf G 175] rr 1 6 := by
  refine MXIH_of (hh := [(0, 9, 12, 21)]) (cc := cL_addressOf) (own := RL) (maxL := 4) (ret := (some .int)) (sp := spL_addressOf p2 S) (by decide +kernel) rfl rfl (Nat.le_of_ble_eq_true rfl) ?_
  intro p e s m args below meth c X hT
  show VS G p l e _ s m args below meth c 4 _ _ 0 0 S 0 [(0, rf G 0), (1, .int p2), (2, rf G 175)] []
  unfold spL_addressOf
  refine vs_aload_n X dL_addressOf_0 2 rfl ?_
  refine vs_iconst X (v := 0) dL_addressOf_1 (by decide) ?_
  refine vs_aload_n X dL_addressOf_2 0 rfl ?_
  refine vs_iload_n X dL_addressOf_3 1 rfl ?_
  refine vs_callVcI X (As := [.int p2]) (st' := [.int 0, rf G 175]) (mtX6_addressOf hl0 p2) (cwV 1 X.2.2.2.2.1 gL_addressOf_X6_addressOf rfl rfl rfl (by decide +kernel) ⟨Nat.le_of_ble_eq_true rfl, Nat.le_of_ble_eq_true rfl⟩) (by decide) (by decide) rfl rfl rfl (Nat.le_of_ble_eq_true rfl) dL_addressOf_4 ⟨Nat.le_of_ble_eq_true rfl, Nat.le_of_ble_eq_true rfl⟩ rfl (fun e3 S4 r5 hr5 => ?_) (fun x1 S2 => ?_)
  · skip
    by_cases h7 : e3 = 2
    · subst h7
      refine ⟨(⟨0, 9, 12, 21⟩ : ExceptionTableEntry), ⟨[], [], hT.trans rfl, (fun w hw => by cases hw), by decide, by decide, by decide, by decide⟩, fun q6 => ?_⟩
      refine vs_eq (if_pos rfl) ?_
      refine vs_astore_n X (lv' := [(3, .ref q6), (0, rf G 0), (1, .int p2), (2, rf G 175)]) dL_addressOf_12 (by decide) rfl ?_
      refine vs_iconst X (v := 1) dL_addressOf_13 (by decide) ?_
      exact vs_xiret X dL_addressOf_14 (by decide) (by decide)
    · skip
      simp [h7] at hr5
  refine vs_i2lw X dL_addressOf_7 ?_
  refine vs_last X dL_addressOf_8 (fun S8 hS8 => ?_)
  refine vs_goto X (tgt := 15) dL_addressOf_9 (by decide) ?_
  refine vs_iconst X (v := 0) dL_addressOf_15 (by decide) ?_
  exact vs_xiret X dL_addressOf_16 (by decide) (by decide)

def spL_lastDayOf (p2 : Int32) (S : Wo) : Option (Nat × Int32 × Wo) :=
  bxc (spX6_lastDayOf p2 S) (fun x1 S2 => wr (pL S2 ((x1 : Int32).toInt64)) (fun S8 => some (0, 0, S8))) (fun e3 S4 => (if e3 = 2 then some (0, 1, S4) else none))
set_option maxHeartbeats 4000000 in
set_option maxRecDepth 100000 in
theorem mtL_lastDayOf {l : Launch} (hl0 : l.stackTraces = false) {G : Gt} (p2 : Int32) {S : Wo} : ∀ rr, spL_lastDayOf p2 S = some rr → MXI l yL_lastDayOf wsL_lastDayOf { frames := 8, cells := 1, slots := 6, locals := 124 } G S [rf G 0, .int p2, rf G 175] rr 1 6 := by
  refine MXIH_of (hh := [(0, 9, 12, 21)]) (cc := cL_lastDayOf) (own := RL) (maxL := 4) (ret := (some .int)) (sp := spL_lastDayOf p2 S) (by decide +kernel) rfl rfl (Nat.le_of_ble_eq_true rfl) ?_
  intro p e s m args below meth c X hT
  show VS G p l e _ s m args below meth c 4 _ _ 0 0 S 0 [(0, rf G 0), (1, .int p2), (2, rf G 175)] []
  unfold spL_lastDayOf
  refine vs_aload_n X dL_lastDayOf_0 2 rfl ?_
  refine vs_iconst X (v := 0) dL_lastDayOf_1 (by decide) ?_
  refine vs_aload_n X dL_lastDayOf_2 0 rfl ?_
  refine vs_iload_n X dL_lastDayOf_3 1 rfl ?_
  refine vs_callVcI X (As := [.int p2]) (st' := [.int 0, rf G 175]) (mtX6_lastDayOf hl0 p2) (cwV 1 X.2.2.2.2.1 gL_lastDayOf_X6_lastDayOf rfl rfl rfl (by decide +kernel) ⟨Nat.le_of_ble_eq_true rfl, Nat.le_of_ble_eq_true rfl⟩) (by decide) (by decide) rfl rfl rfl (Nat.le_of_ble_eq_true rfl) dL_lastDayOf_4 ⟨Nat.le_of_ble_eq_true rfl, Nat.le_of_ble_eq_true rfl⟩ rfl (fun e3 S4 r5 hr5 => ?_) (fun x1 S2 => ?_)
  · skip
    by_cases h7 : e3 = 2
    · subst h7
      refine ⟨(⟨0, 9, 12, 21⟩ : ExceptionTableEntry), ⟨[], [], hT.trans rfl, (fun w hw => by cases hw), by decide, by decide, by decide, by decide⟩, fun q6 => ?_⟩
      refine vs_eq (if_pos rfl) ?_
      refine vs_astore_n X (lv' := [(3, .ref q6), (0, rf G 0), (1, .int p2), (2, rf G 175)]) dL_lastDayOf_12 (by decide) rfl ?_
      refine vs_iconst X (v := 1) dL_lastDayOf_13 (by decide) ?_
      exact vs_xiret X dL_lastDayOf_14 (by decide) (by decide)
    · skip
      simp [h7] at hr5
  refine vs_i2lw X dL_lastDayOf_7 ?_
  refine vs_last X dL_lastDayOf_8 (fun S8 hS8 => ?_)
  refine vs_goto X (tgt := 15) dL_lastDayOf_9 (by decide) ?_
  refine vs_iconst X (v := 0) dL_lastDayOf_15 (by decide) ?_
  exact vs_xiret X dL_lastDayOf_16 (by decide) (by decide)

def spL_isInForce (p2 : Int32) (S : Wo) : Option (Nat × Int32 × Wo) :=
  bxc (spX6_isInForce p2 S) (fun x1 S2 => (if x1 = 0 then wr (pL S2 0) (fun S8 => some (0, 0, S8)) else wr (pL S2 1) (fun S9 => some (0, 0, S9)))) (fun e3 S4 => (if e3 = 2 then some (0, 1, S4) else none))
set_option maxHeartbeats 4000000 in
set_option maxRecDepth 100000 in
theorem mtL_isInForce {l : Launch} (hl0 : l.stackTraces = false) {G : Gt} (p2 : Int32) {S : Wo} : ∀ rr, spL_isInForce p2 S = some rr → MXI l yL_isInForce wsL_isInForce { frames := 8, cells := 1, slots := 6, locals := 134 } G S [rf G 0, .int p2, rf G 175] rr 1 6 := by
  refine MXIH_of (hh := [(0, 16, 19, 21)]) (cc := cL_isInForce) (own := RL) (maxL := 4) (ret := (some .int)) (sp := spL_isInForce p2 S) (by decide +kernel) rfl rfl (Nat.le_of_ble_eq_true rfl) ?_
  intro p e s m args below meth c X hT
  show VS G p l e _ s m args below meth c 4 _ _ 0 0 S 0 [(0, rf G 0), (1, .int p2), (2, rf G 175)] []
  unfold spL_isInForce
  refine vs_aload_n X dL_isInForce_0 2 rfl ?_
  refine vs_iconst X (v := 0) dL_isInForce_1 (by decide) ?_
  refine vs_aload_n X dL_isInForce_2 0 rfl ?_
  refine vs_iload_n X dL_isInForce_3 1 rfl ?_
  refine vs_callVcI X (As := [.int p2]) (st' := [.int 0, rf G 175]) (mtX6_isInForce hl0 p2) (cwV 1 X.2.2.2.2.1 gL_isInForce_X6_isInForce rfl rfl rfl (by decide +kernel) ⟨Nat.le_of_ble_eq_true rfl, Nat.le_of_ble_eq_true rfl⟩) (by decide) (by decide) rfl rfl rfl (Nat.le_of_ble_eq_true rfl) dL_isInForce_4 ⟨Nat.le_of_ble_eq_true rfl, Nat.le_of_ble_eq_true rfl⟩ rfl (fun e3 S4 r5 hr5 => ?_) (fun x1 S2 => ?_)
  · skip
    by_cases h7 : e3 = 2
    · subst h7
      refine ⟨(⟨0, 16, 19, 21⟩ : ExceptionTableEntry), ⟨[], [], hT.trans rfl, (fun w hw => by cases hw), by decide, by decide, by decide, by decide⟩, fun q6 => ?_⟩
      refine vs_eq (if_pos rfl) ?_
      refine vs_astore_n X (lv' := [(3, .ref q6), (0, rf G 0), (1, .int p2), (2, rf G 175)]) dL_isInForce_19 (by decide) rfl ?_
      refine vs_iconst X (v := 1) dL_isInForce_20 (by decide) ?_
      exact vs_xiret X dL_isInForce_21 (by decide) (by decide)
    · skip
      simp [h7] at hr5
  refine vs_if_eq X (tgt := 14) dL_isInForce_7 (by decide) (fun _ => ?_) (fun _ => ?_)
  · refine vs_lconst X (v := 0) dL_isInForce_14 rfl ?_
    refine vs_last X dL_isInForce_15 (fun S8 hS8 => ?_)
    refine vs_goto X (tgt := 22) dL_isInForce_16 (by decide) ?_
    refine vs_iconst X (v := 0) dL_isInForce_22 (by decide) ?_
    exact vs_xiret X dL_isInForce_23 (by decide) (by decide)
  · refine vs_lconst X (v := 1) dL_isInForce_10 rfl ?_
    refine vs_goto X (tgt := 15) dL_isInForce_11 (by decide) ?_
    refine vs_last X dL_isInForce_15 (fun S9 hS9 => ?_)
    refine vs_goto X (tgt := 22) dL_isInForce_16 (by decide) ?_
    refine vs_iconst X (v := 0) dL_isInForce_22 (by decide) ?_
    exact vs_xiret X dL_isInForce_23 (by decide) (by decide)

def spL_sow (p2 : Int32) (p3 : Int32) (S : Wo) : Option (Nat × Int32 × Wo) :=
  bxc (spX6_sow p2 p3 S) (fun x1 S2 => wr (pL S2 ((x1 : Int32).toInt64)) (fun S9 => some (0, 0, S9))) (fun e3 S4 => (if e3 = 1 then some (0, 1, S4) else (if e3 = 4 then some (0, 2, S4) else none)))
set_option maxHeartbeats 4000000 in
set_option maxRecDepth 100000 in
theorem mtL_sow {l : Launch} (hl0 : l.stackTraces = false) {G : Gt} (p2 : Int32) (p3 : Int32) {S : Wo} : ∀ rr, spL_sow p2 p3 S = some rr → MXI l yL_sow wsL_sow { frames := 8, cells := 1, slots := 6, locals := 128 } G S [rf G 0, .int p2, .int p3, rf G 175] rr 1 6 := by
  refine MXIH_of (hh := [(0, 10, 13, 13), (0, 10, 17, 15)]) (cc := cL_sow) (own := RL) (maxL := 5) (ret := (some .int)) (sp := spL_sow p2 p3 S) (by decide +kernel) rfl rfl (Nat.le_of_ble_eq_true rfl) ?_
  intro p e s m args below meth c X hT
  show VS G p l e _ s m args below meth c 5 _ _ 0 0 S 0 [(0, rf G 0), (1, .int p2), (2, .int p3), (3, rf G 175)] []
  unfold spL_sow
  refine vs_aload_n X dL_sow_0 3 rfl ?_
  refine vs_iconst X (v := 0) dL_sow_1 (by decide) ?_
  refine vs_aload_n X dL_sow_2 0 rfl ?_
  refine vs_iload_n X dL_sow_3 1 rfl ?_
  refine vs_iload_n X dL_sow_4 2 rfl ?_
  refine vs_callVcI X (As := [.int p2, .int p3]) (st' := [.int 0, rf G 175]) (mtX6_sow hl0 p2 p3) (cwV 2 X.2.2.2.2.1 gL_sow_X6_sow rfl rfl rfl (by decide +kernel) ⟨Nat.le_of_ble_eq_true rfl, Nat.le_of_ble_eq_true rfl⟩) (by decide) (by decide) rfl rfl rfl (Nat.le_of_ble_eq_true rfl) dL_sow_5 ⟨Nat.le_of_ble_eq_true rfl, Nat.le_of_ble_eq_true rfl⟩ rfl (fun e3 S4 r5 hr5 => ?_) (fun x1 S2 => ?_)
  · skip
    by_cases h7 : e3 = 1
    · subst h7
      refine ⟨(⟨0, 10, 13, 13⟩ : ExceptionTableEntry), ⟨[], [⟨0, 10, 17, 15⟩], hT.trans rfl, (fun w hw => by cases hw), by decide, by decide, by decide, by decide⟩, fun q6 => ?_⟩
      refine vs_eq (if_pos rfl) ?_
      refine vs_astore X (lv' := [(4, .ref q6), (0, rf G 0), (1, .int p2), (2, .int p3), (3, rf G 175)]) dL_sow_13 (by decide) rfl ?_
      refine vs_iconst X (v := 1) dL_sow_15 (by decide) ?_
      exact vs_xiret X dL_sow_16 (by decide) (by decide)
    · skip
      by_cases h8 : e3 = 4
      · subst h8
        refine ⟨(⟨0, 10, 17, 15⟩ : ExceptionTableEntry), ⟨[⟨0, 10, 13, 13⟩], [], hT.trans rfl, (fun w hw => by cases List.mem_singleton.mp hw; exact Or.inr ⟨by decide, "java/lang/IllegalArgumentException", by decide, by decide, by decide⟩), by decide, by decide, by decide, by decide⟩, fun q6 => ?_⟩
        refine vs_eq ((if_neg (by decide)).trans (if_pos rfl)) ?_
        refine vs_astore X (lv' := [(4, .ref q6), (0, rf G 0), (1, .int p2), (2, .int p3), (3, rf G 175)]) dL_sow_17 (by decide) rfl ?_
        refine vs_iconst X (v := 2) dL_sow_19 (by decide) ?_
        exact vs_xiret X dL_sow_20 (by decide) (by decide)
      · skip
        simp [h7, h8] at hr5
  refine vs_i2lw X dL_sow_8 ?_
  refine vs_last X dL_sow_9 (fun S9 hS9 => ?_)
  refine vs_goto X (tgt := 21) dL_sow_10 (by decide) ?_
  refine vs_iconst X (v := 0) dL_sow_21 (by decide) ?_
  exact vs_xiret X dL_sow_22 (by decide) (by decide)

def spL_pass (p2 : Int32) (S : Wo) : Option (Nat × Int32 × Wo) :=
  bxc (spX6_pass p2 S) (fun x1 S2 => wr (pL S2 ((x1 : Int32).toInt64)) (fun S8 => some (0, 0, S8))) (fun e3 S4 => (if e3 = 1 then some (0, 1, S4) else none))
set_option maxHeartbeats 4000000 in
set_option maxRecDepth 100000 in
theorem mtL_pass {l : Launch} (hl0 : l.stackTraces = false) {G : Gt} (p2 : Int32) {S : Wo} : ∀ rr, spL_pass p2 S = some rr → MXI l yL_pass wsL_pass { frames := 8, cells := 1, slots := 6, locals := 140 } G S [rf G 0, .int p2, rf G 175] rr 1 6 := by
  refine MXIH_of (hh := [(0, 9, 12, 13)]) (cc := cL_pass) (own := RL) (maxL := 4) (ret := (some .int)) (sp := spL_pass p2 S) (by decide +kernel) rfl rfl (Nat.le_of_ble_eq_true rfl) ?_
  intro p e s m args below meth c X hT
  show VS G p l e _ s m args below meth c 4 _ _ 0 0 S 0 [(0, rf G 0), (1, .int p2), (2, rf G 175)] []
  unfold spL_pass
  refine vs_aload_n X dL_pass_0 2 rfl ?_
  refine vs_iconst X (v := 0) dL_pass_1 (by decide) ?_
  refine vs_aload_n X dL_pass_2 0 rfl ?_
  refine vs_iload_n X dL_pass_3 1 rfl ?_
  refine vs_callVcI X (As := [.int p2]) (st' := [.int 0, rf G 175]) (mtX6_pass hl0 p2) (cwV 1 X.2.2.2.2.1 gL_pass_X6_pass rfl rfl rfl (by decide +kernel) ⟨Nat.le_of_ble_eq_true rfl, Nat.le_of_ble_eq_true rfl⟩) (by decide) (by decide) rfl rfl rfl (Nat.le_of_ble_eq_true rfl) dL_pass_4 ⟨Nat.le_of_ble_eq_true rfl, Nat.le_of_ble_eq_true rfl⟩ rfl (fun e3 S4 r5 hr5 => ?_) (fun x1 S2 => ?_)
  · skip
    by_cases h7 : e3 = 1
    · subst h7
      refine ⟨(⟨0, 9, 12, 13⟩ : ExceptionTableEntry), ⟨[], [], hT.trans rfl, (fun w hw => by cases hw), by decide, by decide, by decide, by decide⟩, fun q6 => ?_⟩
      refine vs_eq (if_pos rfl) ?_
      refine vs_astore_n X (lv' := [(3, .ref q6), (0, rf G 0), (1, .int p2), (2, rf G 175)]) dL_pass_12 (by decide) rfl ?_
      refine vs_iconst X (v := 1) dL_pass_13 (by decide) ?_
      exact vs_xiret X dL_pass_14 (by decide) (by decide)
    · skip
      simp [h7] at hr5
  refine vs_i2lw X dL_pass_7 ?_
  refine vs_last X dL_pass_8 (fun S8 hS8 => ?_)
  refine vs_goto X (tgt := 15) dL_pass_9 (by decide) ?_
  refine vs_iconst X (v := 0) dL_pass_15 (by decide) ?_
  exact vs_xiret X dL_pass_16 (by decide) (by decide)

def spL_predictEaten (p2 : Int32) (S : Wo) : Option (Nat × Int32 × Wo) :=
  bxc (spX6_predictEaten p2 S) (fun x1 S2 => wr (pL S2 ((x1 : Int32).toInt64)) (fun S8 => some (0, 0, S8))) (fun e3 S4 => (if e3 = 1 then some (0, 1, S4) else none))
set_option maxHeartbeats 4000000 in
set_option maxRecDepth 100000 in
theorem mtL_predictEaten {l : Launch} (hl0 : l.stackTraces = false) {G : Gt} (p2 : Int32) {S : Wo} : ∀ rr, spL_predictEaten p2 S = some rr → MXI l yL_predictEaten wsL_predictEaten { frames := 7, cells := 1, slots := 6, locals := 119 } G S [rf G 0, .int p2, rf G 175] rr 1 6 := by
  refine MXIH_of (hh := [(0, 9, 12, 13)]) (cc := cL_predictEaten) (own := RL) (maxL := 4) (ret := (some .int)) (sp := spL_predictEaten p2 S) (by decide +kernel) rfl rfl (Nat.le_of_ble_eq_true rfl) ?_
  intro p e s m args below meth c X hT
  show VS G p l e _ s m args below meth c 4 _ _ 0 0 S 0 [(0, rf G 0), (1, .int p2), (2, rf G 175)] []
  unfold spL_predictEaten
  refine vs_aload_n X dL_predictEaten_0 2 rfl ?_
  refine vs_iconst X (v := 0) dL_predictEaten_1 (by decide) ?_
  refine vs_aload_n X dL_predictEaten_2 0 rfl ?_
  refine vs_iload_n X dL_predictEaten_3 1 rfl ?_
  refine vs_callVcI X (As := [.int p2]) (st' := [.int 0, rf G 175]) (mtX6_predictEaten hl0 p2) (cwV 1 X.2.2.2.2.1 gL_predictEaten_X6_predictEaten rfl rfl rfl (by decide +kernel) ⟨Nat.le_of_ble_eq_true rfl, Nat.le_of_ble_eq_true rfl⟩) (by decide) (by decide) rfl rfl rfl (Nat.le_of_ble_eq_true rfl) dL_predictEaten_4 ⟨Nat.le_of_ble_eq_true rfl, Nat.le_of_ble_eq_true rfl⟩ rfl (fun e3 S4 r5 hr5 => ?_) (fun x1 S2 => ?_)
  · skip
    by_cases h7 : e3 = 1
    · subst h7
      refine ⟨(⟨0, 9, 12, 13⟩ : ExceptionTableEntry), ⟨[], [], hT.trans rfl, (fun w hw => by cases hw), by decide, by decide, by decide, by decide⟩, fun q6 => ?_⟩
      refine vs_eq (if_pos rfl) ?_
      refine vs_astore_n X (lv' := [(3, .ref q6), (0, rf G 0), (1, .int p2), (2, rf G 175)]) dL_predictEaten_12 (by decide) rfl ?_
      refine vs_iconst X (v := 1) dL_predictEaten_13 (by decide) ?_
      exact vs_xiret X dL_predictEaten_14 (by decide) (by decide)
    · skip
      simp [h7] at hr5
  refine vs_i2lw X dL_predictEaten_7 ?_
  refine vs_last X dL_predictEaten_8 (fun S8 hS8 => ?_)
  refine vs_goto X (tgt := 15) dL_predictEaten_9 (by decide) ?_
  refine vs_iconst X (v := 0) dL_predictEaten_15 (by decide) ?_
  exact vs_xiret X dL_predictEaten_16 (by decide) (by decide)

def spL_grains (p2 : Int32) (S : Wo) : Option (Nat × Int32 × Wo) :=
  bxc (spX6_grains p2 S) (fun x1 S2 => wr (pL S2 ((x1 : Int32).toInt64)) (fun S8 => some (0, 0, S8))) (fun e3 S4 => (if e3 = 1 then some (0, 1, S4) else none))
set_option maxHeartbeats 4000000 in
set_option maxRecDepth 100000 in
theorem mtL_grains {l : Launch} (hl0 : l.stackTraces = false) {G : Gt} (p2 : Int32) {S : Wo} : ∀ rr, spL_grains p2 S = some rr → MXI l yL_grains wsL_grains { frames := 8, cells := 1, slots := 6, locals := 123 } G S [rf G 0, .int p2, rf G 175] rr 1 6 := by
  refine MXIH_of (hh := [(0, 9, 12, 13)]) (cc := cL_grains) (own := RL) (maxL := 4) (ret := (some .int)) (sp := spL_grains p2 S) (by decide +kernel) rfl rfl (Nat.le_of_ble_eq_true rfl) ?_
  intro p e s m args below meth c X hT
  show VS G p l e _ s m args below meth c 4 _ _ 0 0 S 0 [(0, rf G 0), (1, .int p2), (2, rf G 175)] []
  unfold spL_grains
  refine vs_aload_n X dL_grains_0 2 rfl ?_
  refine vs_iconst X (v := 0) dL_grains_1 (by decide) ?_
  refine vs_aload_n X dL_grains_2 0 rfl ?_
  refine vs_iload_n X dL_grains_3 1 rfl ?_
  refine vs_callVcI X (As := [.int p2]) (st' := [.int 0, rf G 175]) (mtX6_grains hl0 p2) (cwV 1 X.2.2.2.2.1 gL_grains_X6_grains rfl rfl rfl (by decide +kernel) ⟨Nat.le_of_ble_eq_true rfl, Nat.le_of_ble_eq_true rfl⟩) (by decide) (by decide) rfl rfl rfl (Nat.le_of_ble_eq_true rfl) dL_grains_4 ⟨Nat.le_of_ble_eq_true rfl, Nat.le_of_ble_eq_true rfl⟩ rfl (fun e3 S4 r5 hr5 => ?_) (fun x1 S2 => ?_)
  · skip
    by_cases h7 : e3 = 1
    · subst h7
      refine ⟨(⟨0, 9, 12, 13⟩ : ExceptionTableEntry), ⟨[], [], hT.trans rfl, (fun w hw => by cases hw), by decide, by decide, by decide, by decide⟩, fun q6 => ?_⟩
      refine vs_eq (if_pos rfl) ?_
      refine vs_astore_n X (lv' := [(3, .ref q6), (0, rf G 0), (1, .int p2), (2, rf G 175)]) dL_grains_12 (by decide) rfl ?_
      refine vs_iconst X (v := 1) dL_grains_13 (by decide) ?_
      exact vs_xiret X dL_grains_14 (by decide) (by decide)
    · skip
      simp [h7] at hr5
  refine vs_i2lw X dL_grains_7 ?_
  refine vs_last X dL_grains_8 (fun S8 hS8 => ?_)
  refine vs_goto X (tgt := 15) dL_grains_9 (by decide) ?_
  refine vs_iconst X (v := 0) dL_grains_15 (by decide) ?_
  exact vs_xiret X dL_grains_16 (by decide) (by decide)

def spL_isGuarded (p2 : Int32) (S : Wo) : Option (Nat × Int32 × Wo) :=
  bxc (spX6_isGuarded p2 S) (fun x1 S2 => (if x1 = 0 then wr (pL S2 0) (fun S8 => some (0, 0, S8)) else wr (pL S2 1) (fun S9 => some (0, 0, S9)))) (fun e3 S4 => (if e3 = 1 then some (0, 1, S4) else none))
set_option maxHeartbeats 4000000 in
set_option maxRecDepth 100000 in
theorem mtL_isGuarded {l : Launch} (hl0 : l.stackTraces = false) {G : Gt} (p2 : Int32) {S : Wo} : ∀ rr, spL_isGuarded p2 S = some rr → MXI l yL_isGuarded wsL_isGuarded { frames := 8, cells := 1, slots := 6, locals := 123 } G S [rf G 0, .int p2, rf G 175] rr 1 6 := by
  refine MXIH_of (hh := [(0, 16, 19, 13)]) (cc := cL_isGuarded) (own := RL) (maxL := 4) (ret := (some .int)) (sp := spL_isGuarded p2 S) (by decide +kernel) rfl rfl (Nat.le_of_ble_eq_true rfl) ?_
  intro p e s m args below meth c X hT
  show VS G p l e _ s m args below meth c 4 _ _ 0 0 S 0 [(0, rf G 0), (1, .int p2), (2, rf G 175)] []
  unfold spL_isGuarded
  refine vs_aload_n X dL_isGuarded_0 2 rfl ?_
  refine vs_iconst X (v := 0) dL_isGuarded_1 (by decide) ?_
  refine vs_aload_n X dL_isGuarded_2 0 rfl ?_
  refine vs_iload_n X dL_isGuarded_3 1 rfl ?_
  refine vs_callVcI X (As := [.int p2]) (st' := [.int 0, rf G 175]) (mtX6_isGuarded hl0 p2) (cwV 1 X.2.2.2.2.1 gL_isGuarded_X6_isGuarded rfl rfl rfl (by decide +kernel) ⟨Nat.le_of_ble_eq_true rfl, Nat.le_of_ble_eq_true rfl⟩) (by decide) (by decide) rfl rfl rfl (Nat.le_of_ble_eq_true rfl) dL_isGuarded_4 ⟨Nat.le_of_ble_eq_true rfl, Nat.le_of_ble_eq_true rfl⟩ rfl (fun e3 S4 r5 hr5 => ?_) (fun x1 S2 => ?_)
  · skip
    by_cases h7 : e3 = 1
    · subst h7
      refine ⟨(⟨0, 16, 19, 13⟩ : ExceptionTableEntry), ⟨[], [], hT.trans rfl, (fun w hw => by cases hw), by decide, by decide, by decide, by decide⟩, fun q6 => ?_⟩
      refine vs_eq (if_pos rfl) ?_
      refine vs_astore_n X (lv' := [(3, .ref q6), (0, rf G 0), (1, .int p2), (2, rf G 175)]) dL_isGuarded_19 (by decide) rfl ?_
      refine vs_iconst X (v := 1) dL_isGuarded_20 (by decide) ?_
      exact vs_xiret X dL_isGuarded_21 (by decide) (by decide)
    · skip
      simp [h7] at hr5
  refine vs_if_eq X (tgt := 14) dL_isGuarded_7 (by decide) (fun _ => ?_) (fun _ => ?_)
  · refine vs_lconst X (v := 0) dL_isGuarded_14 rfl ?_
    refine vs_last X dL_isGuarded_15 (fun S8 hS8 => ?_)
    refine vs_goto X (tgt := 22) dL_isGuarded_16 (by decide) ?_
    refine vs_iconst X (v := 0) dL_isGuarded_22 (by decide) ?_
    exact vs_xiret X dL_isGuarded_23 (by decide) (by decide)
  · refine vs_lconst X (v := 1) dL_isGuarded_10 rfl ?_
    refine vs_goto X (tgt := 15) dL_isGuarded_11 (by decide) ?_
    refine vs_last X dL_isGuarded_15 (fun S9 hS9 => ?_)
    refine vs_goto X (tgt := 22) dL_isGuarded_16 (by decide) ?_
    refine vs_iconst X (v := 0) dL_isGuarded_22 (by decide) ?_
    exact vs_xiret X dL_isGuarded_23 (by decide) (by decide)

def spL_meanDaysLeft  (S : Wo) : Option (Nat × Int32 × Wo) :=
  bxc (spX6_meanDaysLeft  S) (fun x1 S2 => wr (pD S2 x1) (fun S8 => some (0, 0, S8))) (fun e3 S4 => (if e3 = 6 then some (0, 1, S4) else none))
set_option maxHeartbeats 4000000 in
set_option maxRecDepth 100000 in
theorem mtL_meanDaysLeft {l : Launch} (hl0 : l.stackTraces = false) {G : Gt}  {S : Wo} : ∀ rr, spL_meanDaysLeft  S = some rr → MXI l yL_meanDaysLeft wsL_meanDaysLeft { frames := 7, cells := 1, slots := 6, locals := 104 } G S [rf G 0, rf G 176] rr 1 6 := by
  refine MXIH_of (hh := [(0, 7, 10, 101)]) (cc := cL_meanDaysLeft) (own := RL) (maxL := 3) (ret := (some .int)) (sp := spL_meanDaysLeft  S) (by decide +kernel) rfl rfl (Nat.le_of_ble_eq_true rfl) ?_
  intro p e s m args below meth c X hT
  show VS G p l e _ s m args below meth c 3 _ _ 0 0 S 0 [(0, rf G 0), (1, rf G 176)] []
  unfold spL_meanDaysLeft
  refine vs_aload_n X dL_meanDaysLeft_0 1 rfl ?_
  refine vs_iconst X (v := 0) dL_meanDaysLeft_1 (by decide) ?_
  refine vs_aload_n X dL_meanDaysLeft_2 0 rfl ?_
  refine vs_callVcD X (As := []) (st' := [.int 0, rf G 176]) (mtX6_meanDaysLeft hl0 ) (cwV 0 X.2.2.2.2.1 gL_meanDaysLeft_X6_meanDaysLeft rfl rfl rfl (by decide +kernel) ⟨Nat.le_of_ble_eq_true rfl, Nat.le_of_ble_eq_true rfl⟩) (by decide) (by decide) rfl rfl rfl (Nat.le_of_ble_eq_true rfl) dL_meanDaysLeft_3 ⟨Nat.le_of_ble_eq_true rfl, Nat.le_of_ble_eq_true rfl⟩ rfl (fun e3 S4 r5 hr5 => ?_) (fun x1 S2 => ?_)
  · skip
    by_cases h7 : e3 = 6
    · subst h7
      refine ⟨(⟨0, 7, 10, 101⟩ : ExceptionTableEntry), ⟨[], [], hT.trans rfl, (fun w hw => by cases hw), by decide, by decide, by decide, by decide⟩, fun q6 => ?_⟩
      refine vs_eq (if_pos rfl) ?_
      refine vs_astore_n X (lv' := [(2, .ref q6), (0, rf G 0), (1, rf G 176)]) dL_meanDaysLeft_10 (by decide) rfl ?_
      refine vs_iconst X (v := 1) dL_meanDaysLeft_11 (by decide) ?_
      exact vs_xiret X dL_meanDaysLeft_12 (by decide) (by decide)
    · skip
      simp [h7] at hr5
  refine vs_dast X dL_meanDaysLeft_6 (fun S8 hS8 => ?_)
  refine vs_goto X (tgt := 13) dL_meanDaysLeft_7 (by decide) ?_
  refine vs_iconst X (v := 0) dL_meanDaysLeft_13 (by decide) ?_
  exact vs_xiret X dL_meanDaysLeft_14 (by decide) (by decide)

def spL_inForceShare  (S : Wo) : Option (Nat × Int32 × Wo) :=
  bxc (spX6_inForceShare  S) (fun x1 S2 => n64 (FP.f2d x1) (fun _ => wr (pD S2 (FP.f2d x1)) (fun S8 => some (0, 0, S8)))) (fun e3 S4 => (if e3 = 6 then some (0, 1, S4) else none))
set_option maxHeartbeats 4000000 in
set_option maxRecDepth 100000 in
theorem mtL_inForceShare {l : Launch} (hl0 : l.stackTraces = false) {G : Gt}  {S : Wo} : ∀ rr, spL_inForceShare  S = some rr → MXI l yL_inForceShare wsL_inForceShare { frames := 7, cells := 1, slots := 6, locals := 133 } G S [rf G 0, rf G 176] rr 1 6 := by
  refine MXIH_of (hh := [(0, 8, 11, 101)]) (cc := cL_inForceShare) (own := RL) (maxL := 3) (ret := (some .int)) (sp := spL_inForceShare  S) (by decide +kernel) rfl rfl (Nat.le_of_ble_eq_true rfl) ?_
  intro p e s m args below meth c X hT
  show VS G p l e _ s m args below meth c 3 _ _ 0 0 S 0 [(0, rf G 0), (1, rf G 176)] []
  unfold spL_inForceShare
  refine vs_aload_n X dL_inForceShare_0 1 rfl ?_
  refine vs_iconst X (v := 0) dL_inForceShare_1 (by decide) ?_
  refine vs_aload_n X dL_inForceShare_2 0 rfl ?_
  refine vs_callVcF X (As := []) (st' := [.int 0, rf G 176]) (mtX6_inForceShare hl0 ) (cwV 0 X.2.2.2.2.1 gL_inForceShare_X6_inForceShare rfl rfl rfl (by decide +kernel) ⟨Nat.le_of_ble_eq_true rfl, Nat.le_of_ble_eq_true rfl⟩) (by decide) (by decide) rfl rfl rfl (Nat.le_of_ble_eq_true rfl) dL_inForceShare_3 ⟨Nat.le_of_ble_eq_true rfl, Nat.le_of_ble_eq_true rfl⟩ rfl (fun e3 S4 r5 hr5 => ?_) (fun x1 S2 => ?_)
  · skip
    by_cases h7 : e3 = 6
    · subst h7
      refine ⟨(⟨0, 8, 11, 101⟩ : ExceptionTableEntry), ⟨[], [], hT.trans rfl, (fun w hw => by cases hw), by decide, by decide, by decide, by decide⟩, fun q6 => ?_⟩
      refine vs_eq (if_pos rfl) ?_
      refine vs_astore_n X (lv' := [(2, .ref q6), (0, rf G 0), (1, rf G 176)]) dL_inForceShare_11 (by decide) rfl ?_
      refine vs_iconst X (v := 1) dL_inForceShare_12 (by decide) ?_
      exact vs_xiret X dL_inForceShare_13 (by decide) (by decide)
    · skip
      simp [h7] at hr5
  refine vs_f2d X dL_inForceShare_6 ?_
  refine vs_dast X dL_inForceShare_7 (fun S8 hS8 => ?_)
  refine vs_goto X (tgt := 14) dL_inForceShare_8 (by decide) ?_
  refine vs_iconst X (v := 0) dL_inForceShare_14 (by decide) ?_
  exact vs_xiret X dL_inForceShare_15 (by decide) (by decide)

def spL_feed (p2 : Int32) (S : Wo) : Option (Nat × Int32 × Wo) :=
  bxc (spX6_feed p2 S) (fun x1 S2 => wr (pL S2 ((x1 : Int32).toInt64)) (fun S8 => some (0, 0, S8))) (fun e3 S4 => (if e3 = 5 then some (0, 1, S4) else none))
set_option maxHeartbeats 4000000 in
set_option maxRecDepth 100000 in
theorem mtL_feed {l : Launch} (hl0 : l.stackTraces = false) {G : Gt} (p2 : Int32) {S : Wo} : ∀ rr, spL_feed p2 S = some rr → MXI l yL_feed wsL_feed { frames := 7, cells := 1, slots := 6, locals := 103 } G S [rf G 0, .int p2, rf G 175] rr 1 6 := by
  refine MXIH_of (hh := [(0, 9, 12, 111)]) (cc := cL_feed) (own := RL) (maxL := 4) (ret := (some .int)) (sp := spL_feed p2 S) (by decide +kernel) rfl rfl (Nat.le_of_ble_eq_true rfl) ?_
  intro p e s m args below meth c X hT
  show VS G p l e _ s m args below meth c 4 _ _ 0 0 S 0 [(0, rf G 0), (1, .int p2), (2, rf G 175)] []
  unfold spL_feed
  refine vs_aload_n X dL_feed_0 2 rfl ?_
  refine vs_iconst X (v := 0) dL_feed_1 (by decide) ?_
  refine vs_aload_n X dL_feed_2 0 rfl ?_
  refine vs_iload_n X dL_feed_3 1 rfl ?_
  refine vs_callVcI X (As := [.int p2]) (st' := [.int 0, rf G 175]) (mtX6_feed hl0 p2) (cwV 1 X.2.2.2.2.1 gL_feed_X6_feed rfl rfl rfl (by decide +kernel) ⟨Nat.le_of_ble_eq_true rfl, Nat.le_of_ble_eq_true rfl⟩) (by decide) (by decide) rfl rfl rfl (Nat.le_of_ble_eq_true rfl) dL_feed_4 ⟨Nat.le_of_ble_eq_true rfl, Nat.le_of_ble_eq_true rfl⟩ rfl (fun e3 S4 r5 hr5 => ?_) (fun x1 S2 => ?_)
  · skip
    by_cases h7 : e3 = 5
    · subst h7
      refine ⟨(⟨0, 9, 12, 111⟩ : ExceptionTableEntry), ⟨[], [], hT.trans rfl, (fun w hw => by cases hw), by decide, by decide, by decide, by decide⟩, fun q6 => ?_⟩
      refine vs_eq (if_pos rfl) ?_
      refine vs_astore_n X (lv' := [(3, .ref q6), (0, rf G 0), (1, .int p2), (2, rf G 175)]) dL_feed_12 (by decide) rfl ?_
      refine vs_iconst X (v := 1) dL_feed_13 (by decide) ?_
      exact vs_xiret X dL_feed_14 (by decide) (by decide)
    · skip
      simp [h7] at hr5
  refine vs_i2lw X dL_feed_7 ?_
  refine vs_last X dL_feed_8 (fun S8 hS8 => ?_)
  refine vs_goto X (tgt := 15) dL_feed_9 (by decide) ?_
  refine vs_iconst X (v := 0) dL_feed_15 (by decide) ?_
  exact vs_xiret X dL_feed_16 (by decide) (by decide)

def spL_execute  (S : Wo) : Option (Nat × Int32 × Wo) :=
  bxc (spX6_execute  S) (fun x1 S2 => wr (pL S2 ((x1 : Int32).toInt64)) (fun S9 => some (0, 0, S9))) (fun e3 S4 => (if e3 = 1 then some (0, 1, S4) else (if e3 = 4 then some (0, 2, S4) else none)))
set_option maxHeartbeats 4000000 in
set_option maxRecDepth 100000 in
theorem mtL_execute {l : Launch} (hl0 : l.stackTraces = false) {G : Gt}  {S : Wo} : ∀ rr, spL_execute  S = some rr → MXI l yL_execute wsL_execute { frames := 9, cells := 1, slots := 6, locals := 195 } G S [rf G 0, rf G 175] rr 1 6 := by
  refine MXIH_of (hh := [(0, 8, 11, 13), (0, 8, 14, 15)]) (cc := cL_execute) (own := RL) (maxL := 3) (ret := (some .int)) (sp := spL_execute  S) (by decide +kernel) rfl rfl (Nat.le_of_ble_eq_true rfl) ?_
  intro p e s m args below meth c X hT
  show VS G p l e _ s m args below meth c 3 _ _ 0 0 S 0 [(0, rf G 0), (1, rf G 175)] []
  unfold spL_execute
  refine vs_aload_n X dL_execute_0 1 rfl ?_
  refine vs_iconst X (v := 0) dL_execute_1 (by decide) ?_
  refine vs_aload_n X dL_execute_2 0 rfl ?_
  refine vs_callVcI X (As := []) (st' := [.int 0, rf G 175]) (mtX6_execute hl0 ) (cwV 0 X.2.2.2.2.1 gL_execute_X6_execute rfl rfl rfl (by decide +kernel) ⟨Nat.le_of_ble_eq_true rfl, Nat.le_of_ble_eq_true rfl⟩) (by decide) (by decide) rfl rfl rfl (Nat.le_of_ble_eq_true rfl) dL_execute_3 ⟨Nat.le_of_ble_eq_true rfl, Nat.le_of_ble_eq_true rfl⟩ rfl (fun e3 S4 r5 hr5 => ?_) (fun x1 S2 => ?_)
  · skip
    by_cases h7 : e3 = 1
    · subst h7
      refine ⟨(⟨0, 8, 11, 13⟩ : ExceptionTableEntry), ⟨[], [⟨0, 8, 14, 15⟩], hT.trans rfl, (fun w hw => by cases hw), by decide, by decide, by decide, by decide⟩, fun q6 => ?_⟩
      refine vs_eq (if_pos rfl) ?_
      refine vs_astore_n X (lv' := [(2, .ref q6), (0, rf G 0), (1, rf G 175)]) dL_execute_11 (by decide) rfl ?_
      refine vs_iconst X (v := 1) dL_execute_12 (by decide) ?_
      exact vs_xiret X dL_execute_13 (by decide) (by decide)
    · skip
      by_cases h8 : e3 = 4
      · subst h8
        refine ⟨(⟨0, 8, 14, 15⟩ : ExceptionTableEntry), ⟨[⟨0, 8, 11, 13⟩], [], hT.trans rfl, (fun w hw => by cases List.mem_singleton.mp hw; exact Or.inr ⟨by decide, "java/lang/IllegalArgumentException", by decide, by decide, by decide⟩), by decide, by decide, by decide, by decide⟩, fun q6 => ?_⟩
        refine vs_eq ((if_neg (by decide)).trans (if_pos rfl)) ?_
        refine vs_astore_n X (lv' := [(2, .ref q6), (0, rf G 0), (1, rf G 175)]) dL_execute_14 (by decide) rfl ?_
        refine vs_iconst X (v := 2) dL_execute_15 (by decide) ?_
        exact vs_xiret X dL_execute_16 (by decide) (by decide)
      · skip
        simp [h7, h8] at hr5
  refine vs_i2lw X dL_execute_6 ?_
  refine vs_last X dL_execute_7 (fun S9 hS9 => ?_)
  refine vs_goto X (tgt := 17) dL_execute_8 (by decide) ?_
  refine vs_iconst X (v := 0) dL_execute_17 (by decide) ?_
  exact vs_xiret X dL_execute_18 (by decide) (by decide)

def spL_faultPosition  (S : Wo) : Option (Nat × Int32 × Wo) :=
  bxc (spX6_faultPosition  S) (fun x1 S2 => wr (pL S2 ((x1 : Int32).toInt64)) (fun S8 => some (0, 0, S8))) (fun e3 S4 => (if e3 = 3 then some (0, 1, S4) else none))
set_option maxHeartbeats 4000000 in
set_option maxRecDepth 100000 in
theorem mtL_faultPosition {l : Launch} (hl0 : l.stackTraces = false) {G : Gt}  {S : Wo} : ∀ rr, spL_faultPosition  S = some rr → MXI l yL_faultPosition wsL_faultPosition { frames := 7, cells := 1, slots := 6, locals := 102 } G S [rf G 0, rf G 175] rr 1 6 := by
  refine MXIH_of (hh := [(0, 8, 11, 33)]) (cc := cL_faultPosition) (own := RL) (maxL := 3) (ret := (some .int)) (sp := spL_faultPosition  S) (by decide +kernel) rfl rfl (Nat.le_of_ble_eq_true rfl) ?_
  intro p e s m args below meth c X hT
  show VS G p l e _ s m args below meth c 3 _ _ 0 0 S 0 [(0, rf G 0), (1, rf G 175)] []
  unfold spL_faultPosition
  refine vs_aload_n X dL_faultPosition_0 1 rfl ?_
  refine vs_iconst X (v := 0) dL_faultPosition_1 (by decide) ?_
  refine vs_aload_n X dL_faultPosition_2 0 rfl ?_
  refine vs_callVcI X (As := []) (st' := [.int 0, rf G 175]) (mtX6_faultPosition hl0 ) (cwV 0 X.2.2.2.2.1 gL_faultPosition_X6_faultPosition rfl rfl rfl (by decide +kernel) ⟨Nat.le_of_ble_eq_true rfl, Nat.le_of_ble_eq_true rfl⟩) (by decide) (by decide) rfl rfl rfl (Nat.le_of_ble_eq_true rfl) dL_faultPosition_3 ⟨Nat.le_of_ble_eq_true rfl, Nat.le_of_ble_eq_true rfl⟩ rfl (fun e3 S4 r5 hr5 => ?_) (fun x1 S2 => ?_)
  · skip
    by_cases h7 : e3 = 3
    · subst h7
      refine ⟨(⟨0, 8, 11, 33⟩ : ExceptionTableEntry), ⟨[], [], hT.trans rfl, (fun w hw => by cases hw), by decide, by decide, by decide, by decide⟩, fun q6 => ?_⟩
      refine vs_eq (if_pos rfl) ?_
      refine vs_astore_n X (lv' := [(2, .ref q6), (0, rf G 0), (1, rf G 175)]) dL_faultPosition_11 (by decide) rfl ?_
      refine vs_iconst X (v := 1) dL_faultPosition_12 (by decide) ?_
      exact vs_xiret X dL_faultPosition_13 (by decide) (by decide)
    · skip
      simp [h7] at hr5
  refine vs_i2lw X dL_faultPosition_6 ?_
  refine vs_last X dL_faultPosition_7 (fun S8 hS8 => ?_)
  refine vs_goto X (tgt := 14) dL_faultPosition_8 (by decide) ?_
  refine vs_iconst X (v := 0) dL_faultPosition_14 (by decide) ?_
  exact vs_xiret X dL_faultPosition_15 (by decide) (by decide)

def spL_writeCertificate (p2 : Int32) (S : Wo) : Option (Nat × Int32 × Wo) :=
  bxc (spX6_writeCertificate p2 S) (fun x1 S2 => wr (pL S2 ((x1 : Int32).toInt64)) (fun S8 => some (0, 0, S8))) (fun e3 S4 => (if e3 = 2 then some (0, 1, S4) else none))
set_option maxHeartbeats 4000000 in
set_option maxRecDepth 100000 in
theorem mtL_writeCertificate {l : Launch} (hl0 : l.stackTraces = false) {G : Gt} (p2 : Int32) {S : Wo} : ∀ rr, spL_writeCertificate p2 S = some rr → MXI l yL_writeCertificate wsL_writeCertificate { frames := 8, cells := 1, slots := 6, locals := 135 } G S [rf G 0, .int p2, rf G 175] rr 1 6 := by
  refine MXIH_of (hh := [(0, 9, 12, 21)]) (cc := cL_writeCertificate) (own := RL) (maxL := 4) (ret := (some .int)) (sp := spL_writeCertificate p2 S) (by decide +kernel) rfl rfl (Nat.le_of_ble_eq_true rfl) ?_
  intro p e s m args below meth c X hT
  show VS G p l e _ s m args below meth c 4 _ _ 0 0 S 0 [(0, rf G 0), (1, .int p2), (2, rf G 175)] []
  unfold spL_writeCertificate
  refine vs_aload_n X dL_writeCertificate_0 2 rfl ?_
  refine vs_iconst X (v := 0) dL_writeCertificate_1 (by decide) ?_
  refine vs_aload_n X dL_writeCertificate_2 0 rfl ?_
  refine vs_iload_n X dL_writeCertificate_3 1 rfl ?_
  refine vs_callVcI X (As := [.int p2]) (st' := [.int 0, rf G 175]) (mtX6_writeCertificate hl0 p2) (cwV 1 X.2.2.2.2.1 gL_writeCertificate_X6_writeCertificate rfl rfl rfl (by decide +kernel) ⟨Nat.le_of_ble_eq_true rfl, Nat.le_of_ble_eq_true rfl⟩) (by decide) (by decide) rfl rfl rfl (Nat.le_of_ble_eq_true rfl) dL_writeCertificate_4 ⟨Nat.le_of_ble_eq_true rfl, Nat.le_of_ble_eq_true rfl⟩ rfl (fun e3 S4 r5 hr5 => ?_) (fun x1 S2 => ?_)
  · skip
    by_cases h7 : e3 = 2
    · subst h7
      refine ⟨(⟨0, 9, 12, 21⟩ : ExceptionTableEntry), ⟨[], [], hT.trans rfl, (fun w hw => by cases hw), by decide, by decide, by decide, by decide⟩, fun q6 => ?_⟩
      refine vs_eq (if_pos rfl) ?_
      refine vs_astore_n X (lv' := [(3, .ref q6), (0, rf G 0), (1, .int p2), (2, rf G 175)]) dL_writeCertificate_12 (by decide) rfl ?_
      refine vs_iconst X (v := 1) dL_writeCertificate_13 (by decide) ?_
      exact vs_xiret X dL_writeCertificate_14 (by decide) (by decide)
    · skip
      simp [h7] at hr5
  refine vs_i2lw X dL_writeCertificate_7 ?_
  refine vs_last X dL_writeCertificate_8 (fun S8 hS8 => ?_)
  refine vs_goto X (tgt := 15) dL_writeCertificate_9 (by decide) ?_
  refine vs_iconst X (v := 0) dL_writeCertificate_15 (by decide) ?_
  exact vs_xiret X dL_writeCertificate_16 (by decide) (by decide)

def spL_lineCharacter (p2 : Int32) (S : Wo) : Option (Nat × Int32 × Wo) :=
  bxc (spX6_lineCharacter p2 S) (fun x1 S2 => wr (pL S2 ((x1 : Int32).toInt64)) (fun S8 => some (0, 0, S8))) (fun e3 S4 => (if e3 = 2 then some (0, 1, S4) else none))
set_option maxHeartbeats 4000000 in
set_option maxRecDepth 100000 in
theorem mtL_lineCharacter {l : Launch} (hl0 : l.stackTraces = false) {G : Gt} (p2 : Int32) {S : Wo} : ∀ rr, spL_lineCharacter p2 S = some rr → MXI l yL_lineCharacter wsL_lineCharacter { frames := 7, cells := 1, slots := 6, locals := 109 } G S [rf G 0, .int p2, rf G 175] rr 1 6 := by
  refine MXIH_of (hh := [(0, 9, 12, 21)]) (cc := cL_lineCharacter) (own := RL) (maxL := 4) (ret := (some .int)) (sp := spL_lineCharacter p2 S) (by decide +kernel) rfl rfl (Nat.le_of_ble_eq_true rfl) ?_
  intro p e s m args below meth c X hT
  show VS G p l e _ s m args below meth c 4 _ _ 0 0 S 0 [(0, rf G 0), (1, .int p2), (2, rf G 175)] []
  unfold spL_lineCharacter
  refine vs_aload_n X dL_lineCharacter_0 2 rfl ?_
  refine vs_iconst X (v := 0) dL_lineCharacter_1 (by decide) ?_
  refine vs_aload_n X dL_lineCharacter_2 0 rfl ?_
  refine vs_iload_n X dL_lineCharacter_3 1 rfl ?_
  refine vs_callVcI X (As := [.int p2]) (st' := [.int 0, rf G 175]) (mtX6_lineCharacter hl0 p2) (cwV 1 X.2.2.2.2.1 gL_lineCharacter_X6_lineCharacter rfl rfl rfl (by decide +kernel) ⟨Nat.le_of_ble_eq_true rfl, Nat.le_of_ble_eq_true rfl⟩) (by decide) (by decide) rfl rfl rfl (Nat.le_of_ble_eq_true rfl) dL_lineCharacter_4 ⟨Nat.le_of_ble_eq_true rfl, Nat.le_of_ble_eq_true rfl⟩ rfl (fun e3 S4 r5 hr5 => ?_) (fun x1 S2 => ?_)
  · skip
    by_cases h7 : e3 = 2
    · subst h7
      refine ⟨(⟨0, 9, 12, 21⟩ : ExceptionTableEntry), ⟨[], [], hT.trans rfl, (fun w hw => by cases hw), by decide, by decide, by decide, by decide⟩, fun q6 => ?_⟩
      refine vs_eq (if_pos rfl) ?_
      refine vs_astore_n X (lv' := [(3, .ref q6), (0, rf G 0), (1, .int p2), (2, rf G 175)]) dL_lineCharacter_12 (by decide) rfl ?_
      refine vs_iconst X (v := 1) dL_lineCharacter_13 (by decide) ?_
      exact vs_xiret X dL_lineCharacter_14 (by decide) (by decide)
    · skip
      simp [h7] at hr5
  refine vs_i2lw X dL_lineCharacter_7 ?_
  refine vs_last X dL_lineCharacter_8 (fun S8 hS8 => ?_)
  refine vs_goto X (tgt := 15) dL_lineCharacter_9 (by decide) ?_
  refine vs_iconst X (v := 0) dL_lineCharacter_15 (by decide) ?_
  exact vs_xiret X dL_lineCharacter_16 (by decide) (by decide)

def spL_denial  (S : Wo) : Option (Nat × Int32 × Wo) :=
  bxc (spX6_denial  S) (fun x1 S2 => wr (pL S2 ((x1 : Int32).toInt64)) (fun S8 => some (0, 0, S8))) (fun e3 S4 => (if e3 = 3 then some (0, 1, S4) else none))
set_option maxHeartbeats 4000000 in
set_option maxRecDepth 100000 in
theorem mtL_denial {l : Launch} (hl0 : l.stackTraces = false) {G : Gt}  {S : Wo} : ∀ rr, spL_denial  S = some rr → MXI l yL_denial wsL_denial { frames := 8, cells := 1, slots := 6, locals := 122 } G S [rf G 0, rf G 175] rr 1 6 := by
  refine MXIH_of (hh := [(0, 8, 11, 33)]) (cc := cL_denial) (own := RL) (maxL := 3) (ret := (some .int)) (sp := spL_denial  S) (by decide +kernel) rfl rfl (Nat.le_of_ble_eq_true rfl) ?_
  intro p e s m args below meth c X hT
  show VS G p l e _ s m args below meth c 3 _ _ 0 0 S 0 [(0, rf G 0), (1, rf G 175)] []
  unfold spL_denial
  refine vs_aload_n X dL_denial_0 1 rfl ?_
  refine vs_iconst X (v := 0) dL_denial_1 (by decide) ?_
  refine vs_aload_n X dL_denial_2 0 rfl ?_
  refine vs_callVcI X (As := []) (st' := [.int 0, rf G 175]) (mtX6_denial hl0 ) (cwV 0 X.2.2.2.2.1 gL_denial_X6_denial rfl rfl rfl (by decide +kernel) ⟨Nat.le_of_ble_eq_true rfl, Nat.le_of_ble_eq_true rfl⟩) (by decide) (by decide) rfl rfl rfl (Nat.le_of_ble_eq_true rfl) dL_denial_3 ⟨Nat.le_of_ble_eq_true rfl, Nat.le_of_ble_eq_true rfl⟩ rfl (fun e3 S4 r5 hr5 => ?_) (fun x1 S2 => ?_)
  · skip
    by_cases h7 : e3 = 3
    · subst h7
      refine ⟨(⟨0, 8, 11, 33⟩ : ExceptionTableEntry), ⟨[], [], hT.trans rfl, (fun w hw => by cases hw), by decide, by decide, by decide, by decide⟩, fun q6 => ?_⟩
      refine vs_eq (if_pos rfl) ?_
      refine vs_astore_n X (lv' := [(2, .ref q6), (0, rf G 0), (1, rf G 175)]) dL_denial_11 (by decide) rfl ?_
      refine vs_iconst X (v := 1) dL_denial_12 (by decide) ?_
      exact vs_xiret X dL_denial_13 (by decide) (by decide)
    · skip
      simp [h7] at hr5
  refine vs_i2lw X dL_denial_6 ?_
  refine vs_last X dL_denial_7 (fun S8 hS8 => ?_)
  refine vs_goto X (tgt := 14) dL_denial_8 (by decide) ?_
  refine vs_iconst X (v := 0) dL_denial_14 (by decide) ?_
  exact vs_xiret X dL_denial_15 (by decide) (by decide)

def spL_denialDetail  (S : Wo) : Option (Nat × Int32 × Wo) :=
  bxc (spX6_denialDetail  S) (fun x1 S2 => wr (pL S2 ((x1 : Int32).toInt64)) (fun S8 => some (0, 0, S8))) (fun e3 S4 => (if e3 = 3 then some (0, 1, S4) else none))
set_option maxHeartbeats 4000000 in
set_option maxRecDepth 100000 in
theorem mtL_denialDetail {l : Launch} (hl0 : l.stackTraces = false) {G : Gt}  {S : Wo} : ∀ rr, spL_denialDetail  S = some rr → MXI l yL_denialDetail wsL_denialDetail { frames := 8, cells := 1, slots := 6, locals := 122 } G S [rf G 0, rf G 175] rr 1 6 := by
  refine MXIH_of (hh := [(0, 8, 11, 33)]) (cc := cL_denialDetail) (own := RL) (maxL := 3) (ret := (some .int)) (sp := spL_denialDetail  S) (by decide +kernel) rfl rfl (Nat.le_of_ble_eq_true rfl) ?_
  intro p e s m args below meth c X hT
  show VS G p l e _ s m args below meth c 3 _ _ 0 0 S 0 [(0, rf G 0), (1, rf G 175)] []
  unfold spL_denialDetail
  refine vs_aload_n X dL_denialDetail_0 1 rfl ?_
  refine vs_iconst X (v := 0) dL_denialDetail_1 (by decide) ?_
  refine vs_aload_n X dL_denialDetail_2 0 rfl ?_
  refine vs_callVcI X (As := []) (st' := [.int 0, rf G 175]) (mtX6_denialDetail hl0 ) (cwV 0 X.2.2.2.2.1 gL_denialDetail_X6_denialDetail rfl rfl rfl (by decide +kernel) ⟨Nat.le_of_ble_eq_true rfl, Nat.le_of_ble_eq_true rfl⟩) (by decide) (by decide) rfl rfl rfl (Nat.le_of_ble_eq_true rfl) dL_denialDetail_3 ⟨Nat.le_of_ble_eq_true rfl, Nat.le_of_ble_eq_true rfl⟩ rfl (fun e3 S4 r5 hr5 => ?_) (fun x1 S2 => ?_)
  · skip
    by_cases h7 : e3 = 3
    · subst h7
      refine ⟨(⟨0, 8, 11, 33⟩ : ExceptionTableEntry), ⟨[], [], hT.trans rfl, (fun w hw => by cases hw), by decide, by decide, by decide, by decide⟩, fun q6 => ?_⟩
      refine vs_eq (if_pos rfl) ?_
      refine vs_astore_n X (lv' := [(2, .ref q6), (0, rf G 0), (1, rf G 175)]) dL_denialDetail_11 (by decide) rfl ?_
      refine vs_iconst X (v := 1) dL_denialDetail_12 (by decide) ?_
      exact vs_xiret X dL_denialDetail_13 (by decide) (by decide)
    · skip
      simp [h7] at hr5
  refine vs_i2lw X dL_denialDetail_6 ?_
  refine vs_last X dL_denialDetail_7 (fun S8 hS8 => ?_)
  refine vs_goto X (tgt := 14) dL_denialDetail_8 (by decide) ?_
  refine vs_iconst X (v := 0) dL_denialDetail_14 (by decide) ?_
  exact vs_xiret X dL_denialDetail_15 (by decide) (by decide)

def spL_denialCause  (S : Wo) : Option (Nat × Int32 × Wo) :=
  bxc (spX6_denialCause  S) (fun x1 S2 => wr (pL S2 ((x1 : Int32).toInt64)) (fun S8 => some (0, 0, S8))) (fun e3 S4 => (if e3 = 3 then some (0, 1, S4) else none))
set_option maxHeartbeats 4000000 in
set_option maxRecDepth 100000 in
theorem mtL_denialCause {l : Launch} (hl0 : l.stackTraces = false) {G : Gt}  {S : Wo} : ∀ rr, spL_denialCause  S = some rr → MXI l yL_denialCause wsL_denialCause { frames := 7, cells := 1, slots := 6, locals := 102 } G S [rf G 0, rf G 175] rr 1 6 := by
  refine MXIH_of (hh := [(0, 8, 11, 33)]) (cc := cL_denialCause) (own := RL) (maxL := 3) (ret := (some .int)) (sp := spL_denialCause  S) (by decide +kernel) rfl rfl (Nat.le_of_ble_eq_true rfl) ?_
  intro p e s m args below meth c X hT
  show VS G p l e _ s m args below meth c 3 _ _ 0 0 S 0 [(0, rf G 0), (1, rf G 175)] []
  unfold spL_denialCause
  refine vs_aload_n X dL_denialCause_0 1 rfl ?_
  refine vs_iconst X (v := 0) dL_denialCause_1 (by decide) ?_
  refine vs_aload_n X dL_denialCause_2 0 rfl ?_
  refine vs_callVcI X (As := []) (st' := [.int 0, rf G 175]) (mtX6_denialCause hl0 ) (cwV 0 X.2.2.2.2.1 gL_denialCause_X6_denialCause rfl rfl rfl (by decide +kernel) ⟨Nat.le_of_ble_eq_true rfl, Nat.le_of_ble_eq_true rfl⟩) (by decide) (by decide) rfl rfl rfl (Nat.le_of_ble_eq_true rfl) dL_denialCause_3 ⟨Nat.le_of_ble_eq_true rfl, Nat.le_of_ble_eq_true rfl⟩ rfl (fun e3 S4 r5 hr5 => ?_) (fun x1 S2 => ?_)
  · skip
    by_cases h7 : e3 = 3
    · subst h7
      refine ⟨(⟨0, 8, 11, 33⟩ : ExceptionTableEntry), ⟨[], [], hT.trans rfl, (fun w hw => by cases hw), by decide, by decide, by decide, by decide⟩, fun q6 => ?_⟩
      refine vs_eq (if_pos rfl) ?_
      refine vs_astore_n X (lv' := [(2, .ref q6), (0, rf G 0), (1, rf G 175)]) dL_denialCause_11 (by decide) rfl ?_
      refine vs_iconst X (v := 1) dL_denialCause_12 (by decide) ?_
      exact vs_xiret X dL_denialCause_13 (by decide) (by decide)
    · skip
      simp [h7] at hr5
  refine vs_i2lw X dL_denialCause_6 ?_
  refine vs_last X dL_denialCause_7 (fun S8 hS8 => ?_)
  refine vs_goto X (tgt := 14) dL_denialCause_8 (by decide) ?_
  refine vs_iconst X (v := 0) dL_denialCause_14 (by decide) ?_
  exact vs_xiret X dL_denialCause_15 (by decide) (by decide)

def spL_undo  (S : Wo) : Option (Nat × Int32 × Wo) :=
  bxc (spX6_undo  S) (fun x1 S2 => wr (pL S2 ((x1 : Int32).toInt64)) (fun S8 => some (0, 0, S8))) (fun e3 S4 => (if e3 = 5 then some (0, 1, S4) else none))
set_option maxHeartbeats 4000000 in
set_option maxRecDepth 100000 in
theorem mtL_undo {l : Launch} (hl0 : l.stackTraces = false) {G : Gt}  {S : Wo} : ∀ rr, spL_undo  S = some rr → MXI l yL_undo wsL_undo { frames := 7, cells := 1, slots := 6, locals := 105 } G S [rf G 0, rf G 175] rr 1 6 := by
  refine MXIH_of (hh := [(0, 8, 11, 111)]) (cc := cL_undo) (own := RL) (maxL := 3) (ret := (some .int)) (sp := spL_undo  S) (by decide +kernel) rfl rfl (Nat.le_of_ble_eq_true rfl) ?_
  intro p e s m args below meth c X hT
  show VS G p l e _ s m args below meth c 3 _ _ 0 0 S 0 [(0, rf G 0), (1, rf G 175)] []
  unfold spL_undo
  refine vs_aload_n X dL_undo_0 1 rfl ?_
  refine vs_iconst X (v := 0) dL_undo_1 (by decide) ?_
  refine vs_aload_n X dL_undo_2 0 rfl ?_
  refine vs_callVcI X (As := []) (st' := [.int 0, rf G 175]) (mtX6_undo hl0 ) (cwV 0 X.2.2.2.2.1 gL_undo_X6_undo rfl rfl rfl (by decide +kernel) ⟨Nat.le_of_ble_eq_true rfl, Nat.le_of_ble_eq_true rfl⟩) (by decide) (by decide) rfl rfl rfl (Nat.le_of_ble_eq_true rfl) dL_undo_3 ⟨Nat.le_of_ble_eq_true rfl, Nat.le_of_ble_eq_true rfl⟩ rfl (fun e3 S4 r5 hr5 => ?_) (fun x1 S2 => ?_)
  · skip
    by_cases h7 : e3 = 5
    · subst h7
      refine ⟨(⟨0, 8, 11, 111⟩ : ExceptionTableEntry), ⟨[], [], hT.trans rfl, (fun w hw => by cases hw), by decide, by decide, by decide, by decide⟩, fun q6 => ?_⟩
      refine vs_eq (if_pos rfl) ?_
      refine vs_astore_n X (lv' := [(2, .ref q6), (0, rf G 0), (1, rf G 175)]) dL_undo_11 (by decide) rfl ?_
      refine vs_iconst X (v := 1) dL_undo_12 (by decide) ?_
      exact vs_xiret X dL_undo_13 (by decide) (by decide)
    · skip
      simp [h7] at hr5
  refine vs_i2lw X dL_undo_6 ?_
  refine vs_last X dL_undo_7 (fun S8 hS8 => ?_)
  refine vs_goto X (tgt := 14) dL_undo_8 (by decide) ?_
  refine vs_iconst X (v := 0) dL_undo_14 (by decide) ?_
  exact vs_xiret X dL_undo_15 (by decide) (by decide)

def spL_restoreSnapshot  (S : Wo) : Option (Nat × Int32 × Wo) :=
  bxc (spX6_restoreSnapshot  S) (fun x1 S2 => wr (pL S2 ((x1 : Int32).toInt64)) (fun S8 => some (0, 0, S8))) (fun e3 S4 => (if e3 = 5 then some (0, 1, S4) else none))
set_option maxHeartbeats 4000000 in
set_option maxRecDepth 100000 in
theorem mtL_restoreSnapshot {l : Launch} (hl0 : l.stackTraces = false) {G : Gt}  {S : Wo} : ∀ rr, spL_restoreSnapshot  S = some rr → MXI l yL_restoreSnapshot wsL_restoreSnapshot { frames := 7, cells := 1, slots := 6, locals := 102 } G S [rf G 0, rf G 175] rr 1 6 := by
  refine MXIH_of (hh := [(0, 8, 11, 111)]) (cc := cL_restoreSnapshot) (own := RL) (maxL := 3) (ret := (some .int)) (sp := spL_restoreSnapshot  S) (by decide +kernel) rfl rfl (Nat.le_of_ble_eq_true rfl) ?_
  intro p e s m args below meth c X hT
  show VS G p l e _ s m args below meth c 3 _ _ 0 0 S 0 [(0, rf G 0), (1, rf G 175)] []
  unfold spL_restoreSnapshot
  refine vs_aload_n X dL_restoreSnapshot_0 1 rfl ?_
  refine vs_iconst X (v := 0) dL_restoreSnapshot_1 (by decide) ?_
  refine vs_aload_n X dL_restoreSnapshot_2 0 rfl ?_
  refine vs_callVcI X (As := []) (st' := [.int 0, rf G 175]) (mtX6_restoreSnapshot hl0 ) (cwV 0 X.2.2.2.2.1 gL_restoreSnapshot_X6_restoreSnapshot rfl rfl rfl (by decide +kernel) ⟨Nat.le_of_ble_eq_true rfl, Nat.le_of_ble_eq_true rfl⟩) (by decide) (by decide) rfl rfl rfl (Nat.le_of_ble_eq_true rfl) dL_restoreSnapshot_3 ⟨Nat.le_of_ble_eq_true rfl, Nat.le_of_ble_eq_true rfl⟩ rfl (fun e3 S4 r5 hr5 => ?_) (fun x1 S2 => ?_)
  · skip
    by_cases h7 : e3 = 5
    · subst h7
      refine ⟨(⟨0, 8, 11, 111⟩ : ExceptionTableEntry), ⟨[], [], hT.trans rfl, (fun w hw => by cases hw), by decide, by decide, by decide, by decide⟩, fun q6 => ?_⟩
      refine vs_eq (if_pos rfl) ?_
      refine vs_astore_n X (lv' := [(2, .ref q6), (0, rf G 0), (1, rf G 175)]) dL_restoreSnapshot_11 (by decide) rfl ?_
      refine vs_iconst X (v := 1) dL_restoreSnapshot_12 (by decide) ?_
      exact vs_xiret X dL_restoreSnapshot_13 (by decide) (by decide)
    · skip
      simp [h7] at hr5
  refine vs_i2lw X dL_restoreSnapshot_6 ?_
  refine vs_last X dL_restoreSnapshot_7 (fun S8 hS8 => ?_)
  refine vs_goto X (tgt := 14) dL_restoreSnapshot_8 (by decide) ?_
  refine vs_iconst X (v := 0) dL_restoreSnapshot_14 (by decide) ?_
  exact vs_xiret X dL_restoreSnapshot_15 (by decide) (by decide)

set_option maxHeartbeats 4000000 in
set_option maxRecDepth 100000 in
theorem mtX1_init_159 {l : Launch} {G : Gt}  {F : Nat → va_E} (hF : F 159 = .inr (4, [.null, .int 0, .int 0, .null, .null])) : MB l yX1_init wsX1_init { frames := 2, cells := 4, slots := 65, locals := 36 } G (160, F) [rf G 159] (164, blF G 159 163 F) 4 65 := by
  refine MB_of (cc := cX1_init) (own := RX1) (maxL := 1) (ret := none) (by decide +kernel) rfl rfl (Nat.le_of_ble_eq_true rfl) ?_
  intro p e s m args below meth c X hname
  show VB G p l e _ s m args below meth c 1 _ 0 0 160 F 0 [(0, rf G 159)] []
  refine wb_aload_n X dX1_init_0 0 rfl ?_
  refine wb_obj X (by decide +kernel) (by decide +kernel) (by decide +kernel) (Nat.le_of_ble_eq_true rfl) (Nat.le_of_ble_eq_true rfl) dX1_init_1 ?_
  refine wb_aload_n X dX1_init_4 0 rfl ?_
  refine wb_new (ci := 6) (N := 1) (C := RX4) (T := TX4) (fs := [.null]) X (by decide +kernel) tyX4 tyX4_ok (by decide +kernel) (by decide +kernel) (by decide +kernel) rfl dfX4 (Nat.le_of_ble_eq_true rfl) (Nat.le_of_ble_eq_true rfl) dX1_init_5 ?_
  refine wb_dup X dX1_init_8 rfl ?_
  refine wb_bipush X (v := 60) dX1_init_9 (by decide) ?_
  refine wb_callI (q := 160) (As := [.int 60]) (st' := [rf G 160, rf G 159]) X (mtX4_init_60 (r := 160) (by first | rfl | exact hF)) (cwI 1 X.2.2.2.2.1 gX1_init_X4_init rfl rfl rfl (X.2.2.2.2.1 _ (by decide +kernel)) (X.2.2.2.2.1 _ (by decide +kernel)) (X.2.2.2.2.1 _ (by decide +kernel)) rfl (by decide +kernel) ⟨Nat.le_of_ble_eq_true rfl, Nat.le_of_ble_eq_true rfl⟩) rfl (Nat.le_of_ble_eq_true rfl) dX1_init_11 ⟨Nat.le_of_ble_eq_true rfl, Nat.le_of_ble_eq_true rfl⟩ ?_
  refine wb_putF (q := 159) (ci := 4) (kf := 0) (N := 5) (fs := [.null, .int 0, .int 0, .null, .null]) (C := RX1) (ref := RX1) (T := TX1) (ty := (.object "ScarecrowRegistry$Row")) X tyX1 tyX1_ok nmX1 (by decide) (by first | rfl | exact hF) rfl (by decide +kernel) (by decide) (by decide +kernel) (fun _ h => h) rfl hname rfl rfl rfl rfl (Nat.le_of_ble_eq_true rfl) dX1_init_14 ?_
  refine wb_aload_n X dX1_init_17 0 rfl ?_
  refine wb_getsP X (by decide +kernel) dX1_init_18 ?_
  refine wb_put (q := 159) (ci := 4) (kf := 3) (N := 5) (fs := [rf G 160, .int 0, .int 0, .null, .null]) (C := RX1) (ref := RX1) (T := TX1) (ty := (.object "ScarecrowRegistry$Kind")) X tyX1 tyX1_ok nmX1 (by decide) (by first | rfl | exact hF) rfl (by decide +kernel) (by decide) (by decide +kernel) (fun _ h => h) rfl rfl rfl rfl (Nat.le_of_ble_eq_true rfl) dX1_init_21 ?_
  refine wb_aload_n X dX1_init_24 0 rfl ?_
  refine wb_new (ci := 6) (N := 1) (C := RX4) (T := TX4) (fs := [.null]) X (by decide +kernel) tyX4 tyX4_ok (by decide +kernel) (by decide +kernel) (by decide +kernel) rfl dfX4 (Nat.le_of_ble_eq_true rfl) (Nat.le_of_ble_eq_true rfl) dX1_init_25 ?_
  refine wb_dup X dX1_init_28 rfl ?_
  refine wb_iconst X (v := 3) dX1_init_29 (by decide) ?_
  refine wb_callI (q := 162) (As := [.int 3]) (st' := [rf G 162, rf G 159]) X (mtX4_init_3 (r := 162) (by first | rfl | exact hF)) (cwI 1 X.2.2.2.2.1 gX1_init_X4_init rfl rfl rfl (X.2.2.2.2.1 _ (by decide +kernel)) (X.2.2.2.2.1 _ (by decide +kernel)) (X.2.2.2.2.1 _ (by decide +kernel)) rfl (by decide +kernel) ⟨Nat.le_of_ble_eq_true rfl, Nat.le_of_ble_eq_true rfl⟩) rfl (Nat.le_of_ble_eq_true rfl) dX1_init_30 ⟨Nat.le_of_ble_eq_true rfl, Nat.le_of_ble_eq_true rfl⟩ ?_
  refine wb_putF (q := 159) (ci := 4) (kf := 4) (N := 5) (fs := [rf G 160, .int 0, .int 0, .ref (adK G 0), .null]) (C := RX1) (ref := RX1) (T := TX1) (ty := (.object "ScarecrowRegistry$Row")) X tyX1 tyX1_ok nmX1 (by decide) (by first | rfl | exact hF) rfl (by decide +kernel) (by decide) (by decide +kernel) (fun _ h => h) rfl hname rfl rfl rfl rfl (Nat.le_of_ble_eq_true rfl) dX1_init_33 ?_
  refine wb_vret X dX1_init_36 (by decide) (by decide) ?_
  refine Prod.ext rfl (funext fun j => ?_)
  by_cases h : 159 ≤ j ∧ j ≤ 163
  · show (if 159 ≤ j ∧ j ≤ 163 then cel G (S0 G) j else F j) = _
    rw [if_pos h]
    have h2 : j = 159 ∨ j = 160 ∨ j = 161 ∨ j = 162 ∨ j = 163 := by omega
    rcases h2 with rfl | rfl | rfl | rfl | rfl <;> rfl
  · show (if 159 ≤ j ∧ j ≤ 163 then cel G (S0 G) j else F j) = _
    rw [if_neg h]
    symm
    repeat' (first | rfl | (refine (ue_ne (by omega)).trans ?_) | (refine (blF_ne (by omega)).trans ?_))
set_option maxHeartbeats 4000000 in
set_option maxRecDepth 100000 in
theorem mtJ5_init_164 {l : Launch} {G : Gt}  {F : Nat → va_E} (hF : F 164 = .inr (1, [.null, .int 0, .int 0, .int 0])) : MB l yJ5_init_d00df wsJ5_init_d00df { frames := 1, cells := 1, slots := 16, locals := 12 } G (165, F) [rf G 164, .int 16] (166, blF G 164 165 F) 1 16 := by
  refine MBF_of (cc := cJ5_init_d00df) (own := RJ5) (maxL := 2) (ret := none) (by decide +kernel) rfl rfl (Nat.le_of_ble_eq_true rfl) ?_
  intro p e s m args below meth c X hname
  show VB G p l e _ s m args below meth c 2 _ 0 0 165 F 0 [(0, rf G 164), (1, .int 16)] []
  refine wb_aload_n X dJ5_init_d00df_0 0 rfl ?_
  refine wb_obj X (by decide +kernel) (by decide +kernel) (by decide +kernel) (Nat.le_of_ble_eq_true rfl) (Nat.le_of_ble_eq_true rfl) dJ5_init_d00df_1 ?_
  refine wb_getsC X (by decide +kernel) dJ5_init_d00df_4 ?_
  refine wb_if_eq X (tgt := 25) dJ5_init_d00df_7 (by decide) (fun h => absurd h (by decide)) (fun _ => ?_)
  refine wb_aload_n X dJ5_init_d00df_10 0 rfl ?_
  refine wb_iload_n X dJ5_init_d00df_11 1 rfl ?_
  refine wb_newa2 (N := 16) X (by decide +kernel) (by decide) (by decide) (by decide) (Nat.le_of_ble_eq_true rfl) (Nat.le_of_ble_eq_true rfl) dJ5_init_d00df_12 ?_
  refine wb_put (q := 164) (ci := 1) (kf := 0) (N := 4) (fs := [.null, .int 0, .int 0, .int 0]) (C := RJ4) (ref := RJ5) (T := TJ4) (ty := (.array .byte)) X tyJ4 tyJ4_ok nmJ4 (by decide) (by first | rfl | exact hF) rfl (by decide +kernel) (by decide) (by decide +kernel) (fun _ h => h) rfl rfl rfl rfl (Nat.le_of_ble_eq_true rfl) dJ5_init_d00df_14 ?_
  refine wb_aload_n X dJ5_init_d00df_17 0 rfl ?_
  refine wb_iconst X (v := 0) dJ5_init_d00df_18 (by decide) ?_
  refine wb_put (q := 164) (ci := 1) (kf := 1) (N := 4) (fs := [rf G 165, .int 0, .int 0, .int 0]) (C := RJ4) (ref := RJ5) (T := TJ4) (ty := .byte) X tyJ4 tyJ4_ok nmJ4 (by decide) (by first | rfl | exact hF) rfl (by decide +kernel) (by decide) (by decide +kernel) (fun _ h => h) rfl rfl rfl rfl (Nat.le_of_ble_eq_true rfl) dJ5_init_d00df_19 ?_
  refine wb_goto X (tgt := 38) dJ5_init_d00df_22 (by decide) ?_
  refine wb_vret X dJ5_init_d00df_38 (by decide) (by decide) ?_
  refine Prod.ext rfl (funext fun j => ?_)
  by_cases h : 164 ≤ j ∧ j ≤ 165
  · show (if 164 ≤ j ∧ j ≤ 165 then cel G (S0 G) j else F j) = _
    rw [if_pos h]
    have h2 : j = 164 ∨ j = 165 := by omega
    rcases h2 with rfl | rfl <;> rfl
  · show (if 164 ≤ j ∧ j ≤ 165 then cel G (S0 G) j else F j) = _
    rw [if_neg h]
    symm
    repeat' (first | rfl | (refine (ue_ne (by omega)).trans ?_) | (refine (blF_ne (by omega)).trans ?_))
set_option maxHeartbeats 4000000 in
set_option maxRecDepth 100000 in
theorem mtJ4_init_164 {l : Launch} {G : Gt}  {F : Nat → va_E} (hF : F 164 = .inr (1, [.null, .int 0, .int 0, .int 0])) : MB l yJ4_init_da8c8 wsJ4_init_da8c8 { frames := 2, cells := 1, slots := 16, locals := 33 } G (165, F) [rf G 164] (166, blF G 164 165 F) 1 16 := by
  refine MBF_of (cc := cJ4_init_da8c8) (own := RJ4) (maxL := 1) (ret := none) (by decide +kernel) rfl rfl (Nat.le_of_ble_eq_true rfl) ?_
  intro p e s m args below meth c X hname
  show VB G p l e _ s m args below meth c 1 _ 0 0 165 F 0 [(0, rf G 164)] []
  refine wb_aload_n X dJ4_init_da8c8_0 0 rfl ?_
  refine wb_bipush X (v := 16) dJ4_init_da8c8_1 (by decide) ?_
  refine wb_callI (q := 164) (As := [.int 16]) (st' := []) X (mtJ5_init_164 (by first | rfl | exact hF)) (cwI 1 X.2.2.2.2.1 gJ4_init_da8c8_J5_init_d00df rfl rfl rfl (X.2.2.2.2.1 _ (by decide +kernel)) (X.2.2.2.2.1 _ (by decide +kernel)) (X.2.2.2.2.1 _ (by decide +kernel)) rfl (by decide +kernel) ⟨Nat.le_of_ble_eq_true rfl, Nat.le_of_ble_eq_true rfl⟩) rfl (Nat.le_of_ble_eq_true rfl) dJ4_init_da8c8_3 ⟨Nat.le_of_ble_eq_true rfl, Nat.le_of_ble_eq_true rfl⟩ ?_
  refine wb_vret X dJ4_init_da8c8_6 (by decide) (by decide) ?_
  rfl

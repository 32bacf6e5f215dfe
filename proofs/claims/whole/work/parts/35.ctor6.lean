set_option maxHeartbeats 4000000 in
set_option maxRecDepth 100000 in
theorem mtX6_init {l : Launch} {G : Gt}  {F : Nat → va_E} (hF : F 0 = .inr (8, [.null, .null, .null, .null, .int 0, .null, .null, .null, .int 0, .int 0, .int 0, .int 0])) : MB l yX6_init wsX6_init { frames := 4, cells := 165, slots := 1589, locals := 77 } G (1, F) [rf G 0] (166, blF G 0 165 F) 165 1589 := by
  refine MB_of (cc := cX6_init) (own := RX6) (maxL := 1) (ret := none) (by decide +kernel) rfl rfl (Nat.le_of_ble_eq_true rfl) ?_
  intro p e s m args below meth c X hname
  show VB G p l e _ s m args below meth c 1 _ 0 0 1 F 0 [(0, rf G 0)] []
  refine wb_aload_n X dX6_init_0 0 rfl ?_
  refine wb_obj X (by decide +kernel) (by decide +kernel) (by decide +kernel) (Nat.le_of_ble_eq_true rfl) (Nat.le_of_ble_eq_true rfl) dX6_init_1 ?_
  refine wb_aload_n X dX6_init_4 0 rfl ?_
  refine wb_new (ci := 7) (N := 12) (C := RX5) (T := TX5) (fs := [.null, .int 0, .int 0, .null, .null, .null, .null, .int 0, .null, .int 0, .int 0, .int 0]) X (by decide +kernel) tyX5 tyX5_ok (by decide +kernel) (by decide +kernel) (by decide +kernel) rfl dfX5 (Nat.le_of_ble_eq_true rfl) (Nat.le_of_ble_eq_true rfl) dX6_init_5 ?_
  refine wb_dup X dX6_init_8 rfl ?_
  refine wb_callI (q := 1) (As := []) (st' := [rf G 1, rf G 0]) X (mtX5_init_1 (by first | rfl | exact hF)) (cwI 0 X.2.2.2.2.1 gX6_init_X5_init rfl rfl rfl (X.2.2.2.2.1 _ (by decide +kernel)) (X.2.2.2.2.1 _ (by decide +kernel)) (X.2.2.2.2.1 _ (by decide +kernel)) rfl (by decide +kernel) ⟨Nat.le_of_ble_eq_true rfl, Nat.le_of_ble_eq_true rfl⟩) rfl (Nat.le_of_ble_eq_true rfl) dX6_init_9 ⟨Nat.le_of_ble_eq_true rfl, Nat.le_of_ble_eq_true rfl⟩ ?_
  refine wb_putF (q := 0) (ci := 8) (kf := 0) (N := 12) (fs := [.null, .null, .null, .null, .int 0, .null, .null, .null, .int 0, .int 0, .int 0, .int 0]) (C := RX6) (ref := RX6) (T := TX6) (ty := (.object "ScarecrowRegistry$State")) X tyX6 tyX6_ok nmX6 (by decide) (by first | rfl | exact hF) rfl (by decide +kernel) (by decide) (by decide +kernel) (fun _ h => h) rfl hname rfl rfl rfl rfl (Nat.le_of_ble_eq_true rfl) dX6_init_12 ?_
  refine wb_aload_n X dX6_init_15 0 rfl ?_
  refine wb_new (ci := 7) (N := 12) (C := RX5) (T := TX5) (fs := [.null, .int 0, .int 0, .null, .null, .null, .null, .int 0, .null, .int 0, .int 0, .int 0]) X (by decide +kernel) tyX5 tyX5_ok (by decide +kernel) (by decide +kernel) (by decide +kernel) rfl dfX5 (Nat.le_of_ble_eq_true rfl) (Nat.le_of_ble_eq_true rfl) dX6_init_16 ?_
  refine wb_dup X dX6_init_19 rfl ?_
  refine wb_callI (q := 14) (As := []) (st' := [rf G 14, rf G 0]) X (mtX5_init_14 (by first | rfl | exact hF)) (cwI 0 X.2.2.2.2.1 gX6_init_X5_init rfl rfl rfl (X.2.2.2.2.1 _ (by decide +kernel)) (X.2.2.2.2.1 _ (by decide +kernel)) (X.2.2.2.2.1 _ (by decide +kernel)) rfl (by decide +kernel) ⟨Nat.le_of_ble_eq_true rfl, Nat.le_of_ble_eq_true rfl⟩) rfl (Nat.le_of_ble_eq_true rfl) dX6_init_20 ⟨Nat.le_of_ble_eq_true rfl, Nat.le_of_ble_eq_true rfl⟩ ?_
  refine wb_putF (q := 0) (ci := 8) (kf := 1) (N := 12) (fs := [rf G 1, .null, .null, .null, .int 0, .null, .null, .null, .int 0, .int 0, .int 0, .int 0]) (C := RX6) (ref := RX6) (T := TX6) (ty := (.object "ScarecrowRegistry$State")) X tyX6 tyX6_ok nmX6 (by decide) (by first | rfl | exact hF) rfl (by decide +kernel) (by decide) (by decide +kernel) (fun _ h => h) rfl hname rfl rfl rfl rfl (Nat.le_of_ble_eq_true rfl) dX6_init_23 ?_
  refine wb_aload_n X dX6_init_26 0 rfl ?_
  refine wb_new (ci := 7) (N := 12) (C := RX5) (T := TX5) (fs := [.null, .int 0, .int 0, .null, .null, .null, .null, .int 0, .null, .int 0, .int 0, .int 0]) X (by decide +kernel) tyX5 tyX5_ok (by decide +kernel) (by decide +kernel) (by decide +kernel) rfl dfX5 (Nat.le_of_ble_eq_true rfl) (Nat.le_of_ble_eq_true rfl) dX6_init_27 ?_
  refine wb_dup X dX6_init_30 rfl ?_
  refine wb_callI (q := 27) (As := []) (st' := [rf G 27, rf G 0]) X (mtX5_init_27 (by first | rfl | exact hF)) (cwI 0 X.2.2.2.2.1 gX6_init_X5_init rfl rfl rfl (X.2.2.2.2.1 _ (by decide +kernel)) (X.2.2.2.2.1 _ (by decide +kernel)) (X.2.2.2.2.1 _ (by decide +kernel)) rfl (by decide +kernel) ⟨Nat.le_of_ble_eq_true rfl, Nat.le_of_ble_eq_true rfl⟩) rfl (Nat.le_of_ble_eq_true rfl) dX6_init_31 ⟨Nat.le_of_ble_eq_true rfl, Nat.le_of_ble_eq_true rfl⟩ ?_
  refine wb_putF (q := 0) (ci := 8) (kf := 2) (N := 12) (fs := [rf G 1, rf G 14, .null, .null, .int 0, .null, .null, .null, .int 0, .int 0, .int 0, .int 0]) (C := RX6) (ref := RX6) (T := TX6) (ty := (.object "ScarecrowRegistry$State")) X tyX6 tyX6_ok nmX6 (by decide) (by first | rfl | exact hF) rfl (by decide +kernel) (by decide) (by decide +kernel) (fun _ h => h) rfl hname rfl rfl rfl rfl (Nat.le_of_ble_eq_true rfl) dX6_init_34 ?_
  refine wb_aload_n X dX6_init_37 0 rfl ?_
  refine wb_new (ci := 7) (N := 12) (C := RX5) (T := TX5) (fs := [.null, .int 0, .int 0, .null, .null, .null, .null, .int 0, .null, .int 0, .int 0, .int 0]) X (by decide +kernel) tyX5 tyX5_ok (by decide +kernel) (by decide +kernel) (by decide +kernel) rfl dfX5 (Nat.le_of_ble_eq_true rfl) (Nat.le_of_ble_eq_true rfl) dX6_init_38 ?_
  refine wb_dup X dX6_init_41 rfl ?_
  refine wb_callI (q := 40) (As := []) (st' := [rf G 40, rf G 0]) X (mtX5_init_40 (by first | rfl | exact hF)) (cwI 0 X.2.2.2.2.1 gX6_init_X5_init rfl rfl rfl (X.2.2.2.2.1 _ (by decide +kernel)) (X.2.2.2.2.1 _ (by decide +kernel)) (X.2.2.2.2.1 _ (by decide +kernel)) rfl (by decide +kernel) ⟨Nat.le_of_ble_eq_true rfl, Nat.le_of_ble_eq_true rfl⟩) rfl (Nat.le_of_ble_eq_true rfl) dX6_init_42 ⟨Nat.le_of_ble_eq_true rfl, Nat.le_of_ble_eq_true rfl⟩ ?_
  refine wb_putF (q := 0) (ci := 8) (kf := 3) (N := 12) (fs := [rf G 1, rf G 14, rf G 27, .null, .int 0, .null, .null, .null, .int 0, .int 0, .int 0, .int 0]) (C := RX6) (ref := RX6) (T := TX6) (ty := (.object "ScarecrowRegistry$State")) X tyX6 tyX6_ok nmX6 (by decide) (by first | rfl | exact hF) rfl (by decide +kernel) (by decide) (by decide +kernel) (fun _ h => h) rfl hname rfl rfl rfl rfl (Nat.le_of_ble_eq_true rfl) dX6_init_45 ?_
  refine wb_aload_n X dX6_init_48 0 rfl ?_
  refine wb_new (ci := 5) (N := 3) (C := RX2) (T := TX2) (fs := [.null, .int 0, .int 0]) X (by decide +kernel) tyX2 tyX2_ok (by decide +kernel) (by decide +kernel) (by decide +kernel) rfl dfX2 (Nat.le_of_ble_eq_true rfl) (Nat.le_of_ble_eq_true rfl) dX6_init_49 ?_
  refine wb_dup X dX6_init_52 rfl ?_
  refine wb_callI (q := 53) (As := []) (st' := [rf G 53, rf G 0]) X (mtX2_init_53 (by first | rfl | exact hF)) (cwI 0 X.2.2.2.2.1 gX6_init_X2_init rfl rfl rfl (X.2.2.2.2.1 _ (by decide +kernel)) (X.2.2.2.2.1 _ (by decide +kernel)) (X.2.2.2.2.1 _ (by decide +kernel)) rfl (by decide +kernel) ⟨Nat.le_of_ble_eq_true rfl, Nat.le_of_ble_eq_true rfl⟩) rfl (Nat.le_of_ble_eq_true rfl) dX6_init_53 ⟨Nat.le_of_ble_eq_true rfl, Nat.le_of_ble_eq_true rfl⟩ ?_
  refine wb_putF (q := 0) (ci := 8) (kf := 5) (N := 12) (fs := [rf G 1, rf G 14, rf G 27, rf G 40, .int 0, .null, .null, .null, .int 0, .int 0, .int 0, .int 0]) (C := RX6) (ref := RX6) (T := TX6) (ty := (.object "ScarecrowRegistry$History")) X tyX6 tyX6_ok nmX6 (by decide) (by first | rfl | exact hF) rfl (by decide +kernel) (by decide) (by decide +kernel) (fun _ h => h) rfl hname rfl rfl rfl rfl (Nat.le_of_ble_eq_true rfl) dX6_init_56 ?_
  refine wb_aload_n X dX6_init_59 0 rfl ?_
  refine wb_new (ci := 4) (N := 5) (C := RX1) (T := TX1) (fs := [.null, .int 0, .int 0, .null, .null]) X (by decide +kernel) tyX1 tyX1_ok (by decide +kernel) (by decide +kernel) (by decide +kernel) rfl dfX1 (Nat.le_of_ble_eq_true rfl) (Nat.le_of_ble_eq_true rfl) dX6_init_60 ?_
  refine wb_dup X dX6_init_63 rfl ?_
  refine wb_callIN (q := 159) (As := []) (st' := [rf G 159, rf G 0]) X (mtX1_init_159 (by first | rfl | exact hF)) ⟨va_cnB 0 X.2.2.2.2.1 gX6_init_X1_init_n34 rfl rfl rfl (X.2.2.2.2.2.2.2.2.1.2 (RX6, 34, yX1_init, "ScarecrowRegistry") (by decide +kernel)) (X.2.2.2.2.1 _ (by decide +kernel)) (by decide +kernel) ⟨Nat.le_of_ble_eq_true rfl, Nat.le_of_ble_eq_true rfl⟩, rfl, X.2.2.2.2.1 _ (by decide +kernel)⟩ rfl (Nat.le_of_ble_eq_true rfl) dX6_init_64 ⟨Nat.le_of_ble_eq_true rfl, Nat.le_of_ble_eq_true rfl⟩ ?_
  refine wb_putF (q := 0) (ci := 8) (kf := 6) (N := 12) (fs := [rf G 1, rf G 14, rf G 27, rf G 40, .int 0, rf G 53, .null, .null, .int 0, .int 0, .int 0, .int 0]) (C := RX6) (ref := RX6) (T := TX6) (ty := (.object "ScarecrowRegistry$CommandText")) X tyX6 tyX6_ok nmX6 (by decide) (by first | rfl | exact hF) rfl (by decide +kernel) (by decide) (by decide +kernel) (fun _ h => h) rfl hname rfl rfl rfl rfl (Nat.le_of_ble_eq_true rfl) dX6_init_67 ?_
  refine wb_aload_n X dX6_init_70 0 rfl ?_
  refine wb_new (ci := 1) (N := 4) (C := RJ4) (T := TJ4) (fs := [.null, .int 0, .int 0, .int 0]) X (by decide +kernel) tyJ4 tyJ4_ok (by decide +kernel) (by decide +kernel) (by decide +kernel) rfl dfJ4 (Nat.le_of_ble_eq_true rfl) (Nat.le_of_ble_eq_true rfl) dX6_init_71 ?_
  refine wb_dup X dX6_init_74 rfl ?_
  refine wb_callI (q := 164) (As := []) (st' := [rf G 164, rf G 0]) X (mtJ4_init_164 (by first | rfl | exact hF)) (cwI 0 X.2.2.2.2.1 gX6_init_J4_init_da8c8 rfl rfl rfl (X.2.2.2.2.1 _ (by decide +kernel)) (X.2.2.2.2.1 _ (by decide +kernel)) (X.2.2.2.2.1 _ (by decide +kernel)) rfl (by decide +kernel) ⟨Nat.le_of_ble_eq_true rfl, Nat.le_of_ble_eq_true rfl⟩) rfl (Nat.le_of_ble_eq_true rfl) dX6_init_75 ⟨Nat.le_of_ble_eq_true rfl, Nat.le_of_ble_eq_true rfl⟩ ?_
  refine wb_putF (q := 0) (ci := 8) (kf := 7) (N := 12) (fs := [rf G 1, rf G 14, rf G 27, rf G 40, .int 0, rf G 53, rf G 159, .null, .int 0, .int 0, .int 0, .int 0]) (C := RX6) (ref := RX6) (T := TX6) (ty := (.object "java/lang/StringBuilder")) X tyX6 tyX6_ok nmX6 (by decide) (by first | rfl | exact hF) rfl (by decide +kernel) (by decide) (by decide +kernel) (fun _ h => h) rfl hname rfl rfl rfl rfl (Nat.le_of_ble_eq_true rfl) dX6_init_78 ?_
  refine wb_aload_n X dX6_init_81 0 rfl ?_
  refine wb_iconst X (v := (-1)) dX6_init_82 (by decide) ?_
  refine wb_put (q := 0) (ci := 8) (kf := 8) (N := 12) (fs := [rf G 1, rf G 14, rf G 27, rf G 40, .int 0, rf G 53, rf G 159, rf G 164, .int 0, .int 0, .int 0, .int 0]) (C := RX6) (ref := RX6) (T := TX6) (ty := .int) X tyX6 tyX6_ok nmX6 (by decide) (by first | rfl | exact hF) rfl (by decide +kernel) (by decide) (by decide +kernel) (fun _ h => h) rfl rfl rfl rfl (Nat.le_of_ble_eq_true rfl) dX6_init_83 ?_
  refine wb_aload_n X dX6_init_86 0 rfl ?_
  refine wb_iconst X (v := 0) dX6_init_87 (by decide) ?_
  refine wb_put (q := 0) (ci := 8) (kf := 9) (N := 12) (fs := [rf G 1, rf G 14, rf G 27, rf G 40, .int 0, rf G 53, rf G 159, rf G 164, .int (-1), .int 0, .int 0, .int 0]) (C := RX6) (ref := RX6) (T := TX6) (ty := .int) X tyX6 tyX6_ok nmX6 (by decide) (by first | rfl | exact hF) rfl (by decide +kernel) (by decide) (by decide +kernel) (fun _ h => h) rfl rfl rfl rfl (Nat.le_of_ble_eq_true rfl) dX6_init_88 ?_
  refine wb_aload_n X dX6_init_91 0 rfl ?_
  refine wb_iconst X (v := 0) dX6_init_92 (by decide) ?_
  refine wb_put (q := 0) (ci := 8) (kf := 11) (N := 12) (fs := [rf G 1, rf G 14, rf G 27, rf G 40, .int 0, rf G 53, rf G 159, rf G 164, .int (-1), .int 0, .int 0, .int 0]) (C := RX6) (ref := RX6) (T := TX6) (ty := .int) X tyX6 tyX6_ok nmX6 (by decide) (by first | rfl | exact hF) rfl (by decide +kernel) (by decide) (by decide +kernel) (fun _ h => h) rfl rfl rfl rfl (Nat.le_of_ble_eq_true rfl) dX6_init_93 ?_
  refine wb_vret X dX6_init_96 (by decide) (by decide) ?_
  refine Prod.ext rfl (funext fun j => ?_)
  by_cases h : 0 ≤ j ∧ j ≤ 165
  · show (if 0 ≤ j ∧ j ≤ 165 then cel G (S0 G) j else F j) = _
    rw [if_pos h]
    have h2 : j = 0 ∨ (1 ≤ j ∧ j ≤ 13) ∨ (14 ≤ j ∧ j ≤ 26) ∨ (27 ≤ j ∧ j ≤ 39) ∨ (40 ≤ j ∧ j ≤ 52) ∨ (53 ≤ j ∧ j ≤ 158) ∨ (159 ≤ j ∧ j ≤ 163) ∨ (164 ≤ j ∧ j ≤ 165) := by omega
    clear h
    rcases h2 with rfl | h2 | h2 | h2 | h2 | h2 | h2 | h2
    · rfl
    · symm
      repeat' (first | (refine (ue_ne (by omega)).trans ?_) | (refine (blF_ne (by omega)).trans ?_) | exact blF_in (by omega))
    · symm
      repeat' (first | (refine (ue_ne (by omega)).trans ?_) | (refine (blF_ne (by omega)).trans ?_) | exact blF_in (by omega))
    · symm
      repeat' (first | (refine (ue_ne (by omega)).trans ?_) | (refine (blF_ne (by omega)).trans ?_) | exact blF_in (by omega))
    · symm
      repeat' (first | (refine (ue_ne (by omega)).trans ?_) | (refine (blF_ne (by omega)).trans ?_) | exact blF_in (by omega))
    · symm
      repeat' (first | (refine (ue_ne (by omega)).trans ?_) | (refine (blF_ne (by omega)).trans ?_) | exact blF_in (by omega))
    · symm
      repeat' (first | (refine (ue_ne (by omega)).trans ?_) | (refine (blF_ne (by omega)).trans ?_) | exact blF_in (by omega))
    · symm
      repeat' (first | (refine (ue_ne (by omega)).trans ?_) | (refine (blF_ne (by omega)).trans ?_) | exact blF_in (by omega))
  · show (if 0 ≤ j ∧ j ≤ 165 then cel G (S0 G) j else F j) = _
    rw [if_neg h]
    symm
    repeat' (first | rfl | (refine (ue_ne (by omega)).trans ?_) | (refine (blF_ne (by omega)).trans ?_))

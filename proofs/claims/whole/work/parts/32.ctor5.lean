set_option maxHeartbeats 4000000 in
set_option maxRecDepth 100000 in
theorem mtX5_init_14 {l : Launch} {G : Gt}  {F : Nat → va_E} (hF : F 14 = .inr (7, [.null, .int 0, .int 0, .null, .null, .null, .null, .int 0, .null, .int 0, .int 0, .int 0])) : MB l yX5_init wsX5_init { frames := 2, cells := 12, slots := 112, locals := 36 } G (15, F) [rf G 14] (27, blF G 14 26 F) 12 112 := by
  refine MB_of (cc := cX5_init) (own := RX5) (maxL := 1) (ret := none) (by decide +kernel) rfl rfl (Nat.le_of_ble_eq_true rfl) ?_
  intro p e s m args below meth c X hname
  show VB G p l e _ s m args below meth c 1 _ 0 0 15 F 0 [(0, rf G 14)] []
  refine wb_aload_n X dX5_init_0 0 rfl ?_
  refine wb_obj X (by decide +kernel) (by decide +kernel) (by decide +kernel) (Nat.le_of_ble_eq_true rfl) (Nat.le_of_ble_eq_true rfl) dX5_init_1 ?_
  refine wb_aload_n X dX5_init_4 0 rfl ?_
  refine wb_new (ci := 6) (N := 1) (C := RX4) (T := TX4) (fs := [.null]) X (by decide +kernel) tyX4 tyX4_ok (by decide +kernel) (by decide +kernel) (by decide +kernel) rfl dfX4 (Nat.le_of_ble_eq_true rfl) (Nat.le_of_ble_eq_true rfl) dX5_init_5 ?_
  refine wb_dup X dX5_init_8 rfl ?_
  refine wb_bipush X (v := 10) dX5_init_9 (by decide) ?_
  refine wb_callI (q := 15) (As := [.int 10]) (st' := [rf G 15, rf G 14]) X (mtX4_init_10 (r := 15) (by first | rfl | exact hF)) (cwI 1 X.2.2.2.2.1 gX5_init_X4_init rfl rfl rfl (X.2.2.2.2.1 _ (by decide +kernel)) (X.2.2.2.2.1 _ (by decide +kernel)) (X.2.2.2.2.1 _ (by decide +kernel)) rfl (by decide +kernel) ⟨Nat.le_of_ble_eq_true rfl, Nat.le_of_ble_eq_true rfl⟩) rfl (Nat.le_of_ble_eq_true rfl) dX5_init_11 ⟨Nat.le_of_ble_eq_true rfl, Nat.le_of_ble_eq_true rfl⟩ ?_
  refine wb_putF (q := 14) (ci := 7) (kf := 0) (N := 12) (fs := [.null, .int 0, .int 0, .null, .null, .null, .null, .int 0, .null, .int 0, .int 0, .int 0]) (C := RX5) (ref := RX5) (T := TX5) (ty := (.object "ScarecrowRegistry$Row")) X tyX5 tyX5_ok nmX5 (by decide) (by first | rfl | exact hF) rfl (by decide +kernel) (by decide) (by decide +kernel) (fun _ h => h) rfl hname rfl rfl rfl rfl (Nat.le_of_ble_eq_true rfl) dX5_init_14 ?_
  refine wb_aload_n X dX5_init_17 0 rfl ?_
  refine wb_new (ci := 6) (N := 1) (C := RX4) (T := TX4) (fs := [.null]) X (by decide +kernel) tyX4 tyX4_ok (by decide +kernel) (by decide +kernel) (by decide +kernel) rfl dfX4 (Nat.le_of_ble_eq_true rfl) (Nat.le_of_ble_eq_true rfl) dX5_init_18 ?_
  refine wb_dup X dX5_init_21 rfl ?_
  refine wb_bipush X (v := 20) dX5_init_22 (by decide) ?_
  refine wb_callI (q := 17) (As := [.int 20]) (st' := [rf G 17, rf G 14]) X (mtX4_init_20 (r := 17) (by first | rfl | exact hF)) (cwI 1 X.2.2.2.2.1 gX5_init_X4_init rfl rfl rfl (X.2.2.2.2.1 _ (by decide +kernel)) (X.2.2.2.2.1 _ (by decide +kernel)) (X.2.2.2.2.1 _ (by decide +kernel)) rfl (by decide +kernel) ⟨Nat.le_of_ble_eq_true rfl, Nat.le_of_ble_eq_true rfl⟩) rfl (Nat.le_of_ble_eq_true rfl) dX5_init_24 ⟨Nat.le_of_ble_eq_true rfl, Nat.le_of_ble_eq_true rfl⟩ ?_
  refine wb_putF (q := 14) (ci := 7) (kf := 3) (N := 12) (fs := [rf G 15, .int 0, .int 0, .null, .null, .null, .null, .int 0, .null, .int 0, .int 0, .int 0]) (C := RX5) (ref := RX5) (T := TX5) (ty := (.object "ScarecrowRegistry$Row")) X tyX5 tyX5_ok nmX5 (by decide) (by first | rfl | exact hF) rfl (by decide +kernel) (by decide) (by decide +kernel) (fun _ h => h) rfl hname rfl rfl rfl rfl (Nat.le_of_ble_eq_true rfl) dX5_init_27 ?_
  refine wb_aload_n X dX5_init_30 0 rfl ?_
  refine wb_new (ci := 6) (N := 1) (C := RX4) (T := TX4) (fs := [.null]) X (by decide +kernel) tyX4 tyX4_ok (by decide +kernel) (by decide +kernel) (by decide +kernel) rfl dfX4 (Nat.le_of_ble_eq_true rfl) (Nat.le_of_ble_eq_true rfl) dX5_init_31 ?_
  refine wb_dup X dX5_init_34 rfl ?_
  refine wb_bipush X (v := 20) dX5_init_35 (by decide) ?_
  refine wb_callI (q := 19) (As := [.int 20]) (st' := [rf G 19, rf G 14]) X (mtX4_init_20 (r := 19) (by first | rfl | exact hF)) (cwI 1 X.2.2.2.2.1 gX5_init_X4_init rfl rfl rfl (X.2.2.2.2.1 _ (by decide +kernel)) (X.2.2.2.2.1 _ (by decide +kernel)) (X.2.2.2.2.1 _ (by decide +kernel)) rfl (by decide +kernel) ⟨Nat.le_of_ble_eq_true rfl, Nat.le_of_ble_eq_true rfl⟩) rfl (Nat.le_of_ble_eq_true rfl) dX5_init_37 ⟨Nat.le_of_ble_eq_true rfl, Nat.le_of_ble_eq_true rfl⟩ ?_
  refine wb_putF (q := 14) (ci := 7) (kf := 4) (N := 12) (fs := [rf G 15, .int 0, .int 0, rf G 17, .null, .null, .null, .int 0, .null, .int 0, .int 0, .int 0]) (C := RX5) (ref := RX5) (T := TX5) (ty := (.object "ScarecrowRegistry$Row")) X tyX5 tyX5_ok nmX5 (by decide) (by first | rfl | exact hF) rfl (by decide +kernel) (by decide) (by decide +kernel) (fun _ h => h) rfl hname rfl rfl rfl rfl (Nat.le_of_ble_eq_true rfl) dX5_init_40 ?_
  refine wb_aload_n X dX5_init_43 0 rfl ?_
  refine wb_new (ci := 6) (N := 1) (C := RX4) (T := TX4) (fs := [.null]) X (by decide +kernel) tyX4 tyX4_ok (by decide +kernel) (by decide +kernel) (by decide +kernel) rfl dfX4 (Nat.le_of_ble_eq_true rfl) (Nat.le_of_ble_eq_true rfl) dX5_init_44 ?_
  refine wb_dup X dX5_init_47 rfl ?_
  refine wb_bipush X (v := 20) dX5_init_48 (by decide) ?_
  refine wb_callI (q := 21) (As := [.int 20]) (st' := [rf G 21, rf G 14]) X (mtX4_init_20 (r := 21) (by first | rfl | exact hF)) (cwI 1 X.2.2.2.2.1 gX5_init_X4_init rfl rfl rfl (X.2.2.2.2.1 _ (by decide +kernel)) (X.2.2.2.2.1 _ (by decide +kernel)) (X.2.2.2.2.1 _ (by decide +kernel)) rfl (by decide +kernel) ⟨Nat.le_of_ble_eq_true rfl, Nat.le_of_ble_eq_true rfl⟩) rfl (Nat.le_of_ble_eq_true rfl) dX5_init_50 ⟨Nat.le_of_ble_eq_true rfl, Nat.le_of_ble_eq_true rfl⟩ ?_
  refine wb_putF (q := 14) (ci := 7) (kf := 5) (N := 12) (fs := [rf G 15, .int 0, .int 0, rf G 17, rf G 19, .null, .null, .int 0, .null, .int 0, .int 0, .int 0]) (C := RX5) (ref := RX5) (T := TX5) (ty := (.object "ScarecrowRegistry$Row")) X tyX5 tyX5_ok nmX5 (by decide) (by first | rfl | exact hF) rfl (by decide +kernel) (by decide) (by decide +kernel) (fun _ h => h) rfl hname rfl rfl rfl rfl (Nat.le_of_ble_eq_true rfl) dX5_init_53 ?_
  refine wb_aload_n X dX5_init_56 0 rfl ?_
  refine wb_new (ci := 6) (N := 1) (C := RX4) (T := TX4) (fs := [.null]) X (by decide +kernel) tyX4 tyX4_ok (by decide +kernel) (by decide +kernel) (by decide +kernel) rfl dfX4 (Nat.le_of_ble_eq_true rfl) (Nat.le_of_ble_eq_true rfl) dX5_init_57 ?_
  refine wb_dup X dX5_init_60 rfl ?_
  refine wb_bipush X (v := 20) dX5_init_61 (by decide) ?_
  refine wb_callI (q := 23) (As := [.int 20]) (st' := [rf G 23, rf G 14]) X (mtX4_init_20 (r := 23) (by first | rfl | exact hF)) (cwI 1 X.2.2.2.2.1 gX5_init_X4_init rfl rfl rfl (X.2.2.2.2.1 _ (by decide +kernel)) (X.2.2.2.2.1 _ (by decide +kernel)) (X.2.2.2.2.1 _ (by decide +kernel)) rfl (by decide +kernel) ⟨Nat.le_of_ble_eq_true rfl, Nat.le_of_ble_eq_true rfl⟩) rfl (Nat.le_of_ble_eq_true rfl) dX5_init_63 ⟨Nat.le_of_ble_eq_true rfl, Nat.le_of_ble_eq_true rfl⟩ ?_
  refine wb_putF (q := 14) (ci := 7) (kf := 6) (N := 12) (fs := [rf G 15, .int 0, .int 0, rf G 17, rf G 19, rf G 21, .null, .int 0, .null, .int 0, .int 0, .int 0]) (C := RX5) (ref := RX5) (T := TX5) (ty := (.object "ScarecrowRegistry$Row")) X tyX5 tyX5_ok nmX5 (by decide) (by first | rfl | exact hF) rfl (by decide +kernel) (by decide) (by decide +kernel) (fun _ h => h) rfl hname rfl rfl rfl rfl (Nat.le_of_ble_eq_true rfl) dX5_init_66 ?_
  refine wb_aload_n X dX5_init_69 0 rfl ?_
  refine wb_new (ci := 6) (N := 1) (C := RX4) (T := TX4) (fs := [.null]) X (by decide +kernel) tyX4 tyX4_ok (by decide +kernel) (by decide +kernel) (by decide +kernel) rfl dfX4 (Nat.le_of_ble_eq_true rfl) (Nat.le_of_ble_eq_true rfl) dX5_init_70 ?_
  refine wb_dup X dX5_init_73 rfl ?_
  refine wb_bipush X (v := 16) dX5_init_74 (by decide) ?_
  refine wb_callI (q := 25) (As := [.int 16]) (st' := [rf G 25, rf G 14]) X (mtX4_init_16 (r := 25) (by first | rfl | exact hF)) (cwI 1 X.2.2.2.2.1 gX5_init_X4_init rfl rfl rfl (X.2.2.2.2.1 _ (by decide +kernel)) (X.2.2.2.2.1 _ (by decide +kernel)) (X.2.2.2.2.1 _ (by decide +kernel)) rfl (by decide +kernel) ⟨Nat.le_of_ble_eq_true rfl, Nat.le_of_ble_eq_true rfl⟩) rfl (Nat.le_of_ble_eq_true rfl) dX5_init_76 ⟨Nat.le_of_ble_eq_true rfl, Nat.le_of_ble_eq_true rfl⟩ ?_
  refine wb_putF (q := 14) (ci := 7) (kf := 8) (N := 12) (fs := [rf G 15, .int 0, .int 0, rf G 17, rf G 19, rf G 21, rf G 23, .int 0, .null, .int 0, .int 0, .int 0]) (C := RX5) (ref := RX5) (T := TX5) (ty := (.object "ScarecrowRegistry$Row")) X tyX5 tyX5_ok nmX5 (by decide) (by first | rfl | exact hF) rfl (by decide +kernel) (by decide) (by decide +kernel) (fun _ h => h) rfl hname rfl rfl rfl rfl (Nat.le_of_ble_eq_true rfl) dX5_init_79 ?_
  refine wb_aload_n X dX5_init_82 0 rfl ?_
  refine wb_get (q := 14) (ci := 7) (kf := 8) (N := 12) (fs := [rf G 15, .int 0, .int 0, rf G 17, rf G 19, rf G 21, rf G 23, .int 0, rf G 25, .int 0, .int 0, .int 0]) (C := RX5) (ref := RX5) (T := TX5) X (by decide) (by first | rfl | exact hF) rfl (by decide +kernel) (by decide) (fun _ h => h) rfl (by decide +kernel) dX5_init_83 ?_
  refine wb_bipush X (v := 9) dX5_init_86 (by decide) ?_
  refine wb_callV (q := 25) (As := [.int 9]) (st' := []) X (mtX4_fill_b (r := 25) (by decide) (by first | rfl | exact hF) (by first | rfl | exact hF)) (cwV 1 X.2.2.2.2.1 gX5_init_X4_fill rfl rfl rfl (by decide +kernel) ⟨Nat.le_of_ble_eq_true rfl, Nat.le_of_ble_eq_true rfl⟩) (by decide) (by first | rfl | exact hF) rfl rfl (Nat.le_of_ble_eq_true rfl) dX5_init_88 ⟨Nat.le_of_ble_eq_true rfl, Nat.le_of_ble_eq_true rfl⟩ ?_
  refine wb_vret X dX5_init_91 (by decide) (by decide) ?_
  refine Prod.ext rfl (funext fun j => ?_)
  by_cases h : 14 ≤ j ∧ j ≤ 26
  · show (if 14 ≤ j ∧ j ≤ 26 then cel G (S0 G) j else F j) = _
    rw [if_pos h]
    have h2 : j = 14 ∨ j = 15 ∨ j = 16 ∨ j = 17 ∨ j = 18 ∨ j = 19 ∨ j = 20 ∨ j = 21 ∨ j = 22 ∨ j = 23 ∨ j = 24 ∨ j = 25 ∨ j = 26 := by omega
    rcases h2 with rfl | rfl | rfl | rfl | rfl | rfl | rfl | rfl | rfl | rfl | rfl | rfl | rfl <;> rfl
  · show (if 14 ≤ j ∧ j ≤ 26 then cel G (S0 G) j else F j) = _
    rw [if_neg h]
    symm
    repeat' (first | rfl | (refine (ue_ne (by omega)).trans ?_) | (refine (blF_ne (by omega)).trans ?_))
set_option maxHeartbeats 4000000 in
set_option maxRecDepth 100000 in
theorem mtX5_init_27 {l : Launch} {G : Gt}  {F : Nat → va_E} (hF : F 27 = .inr (7, [.null, .int 0, .int 0, .null, .null, .null, .null, .int 0, .null, .int 0, .int 0, .int 0])) : MB l yX5_init wsX5_init { frames := 2, cells := 12, slots := 112, locals := 36 } G (28, F) [rf G 27] (40, blF G 27 39 F) 12 112 := by
  refine MB_of (cc := cX5_init) (own := RX5) (maxL := 1) (ret := none) (by decide +kernel) rfl rfl (Nat.le_of_ble_eq_true rfl) ?_
  intro p e s m args below meth c X hname
  show VB G p l e _ s m args below meth c 1 _ 0 0 28 F 0 [(0, rf G 27)] []
  refine wb_aload_n X dX5_init_0 0 rfl ?_
  refine wb_obj X (by decide +kernel) (by decide +kernel) (by decide +kernel) (Nat.le_of_ble_eq_true rfl) (Nat.le_of_ble_eq_true rfl) dX5_init_1 ?_
  refine wb_aload_n X dX5_init_4 0 rfl ?_
  refine wb_new (ci := 6) (N := 1) (C := RX4) (T := TX4) (fs := [.null]) X (by decide +kernel) tyX4 tyX4_ok (by decide +kernel) (by decide +kernel) (by decide +kernel) rfl dfX4 (Nat.le_of_ble_eq_true rfl) (Nat.le_of_ble_eq_true rfl) dX5_init_5 ?_
  refine wb_dup X dX5_init_8 rfl ?_
  refine wb_bipush X (v := 10) dX5_init_9 (by decide) ?_
  refine wb_callI (q := 28) (As := [.int 10]) (st' := [rf G 28, rf G 27]) X (mtX4_init_10 (r := 28) (by first | rfl | exact hF)) (cwI 1 X.2.2.2.2.1 gX5_init_X4_init rfl rfl rfl (X.2.2.2.2.1 _ (by decide +kernel)) (X.2.2.2.2.1 _ (by decide +kernel)) (X.2.2.2.2.1 _ (by decide +kernel)) rfl (by decide +kernel) ⟨Nat.le_of_ble_eq_true rfl, Nat.le_of_ble_eq_true rfl⟩) rfl (Nat.le_of_ble_eq_true rfl) dX5_init_11 ⟨Nat.le_of_ble_eq_true rfl, Nat.le_of_ble_eq_true rfl⟩ ?_
  refine wb_putF (q := 27) (ci := 7) (kf := 0) (N := 12) (fs := [.null, .int 0, .int 0, .null, .null, .null, .null, .int 0, .null, .int 0, .int 0, .int 0]) (C := RX5) (ref := RX5) (T := TX5) (ty := (.object "ScarecrowRegistry$Row")) X tyX5 tyX5_ok nmX5 (by decide) (by first | rfl | exact hF) rfl (by decide +kernel) (by decide) (by decide +kernel) (fun _ h => h) rfl hname rfl rfl rfl rfl (Nat.le_of_ble_eq_true rfl) dX5_init_14 ?_
  refine wb_aload_n X dX5_init_17 0 rfl ?_
  refine wb_new (ci := 6) (N := 1) (C := RX4) (T := TX4) (fs := [.null]) X (by decide +kernel) tyX4 tyX4_ok (by decide +kernel) (by decide +kernel) (by decide +kernel) rfl dfX4 (Nat.le_of_ble_eq_true rfl) (Nat.le_of_ble_eq_true rfl) dX5_init_18 ?_
  refine wb_dup X dX5_init_21 rfl ?_
  refine wb_bipush X (v := 20) dX5_init_22 (by decide) ?_
  refine wb_callI (q := 30) (As := [.int 20]) (st' := [rf G 30, rf G 27]) X (mtX4_init_20 (r := 30) (by first | rfl | exact hF)) (cwI 1 X.2.2.2.2.1 gX5_init_X4_init rfl rfl rfl (X.2.2.2.2.1 _ (by decide +kernel)) (X.2.2.2.2.1 _ (by decide +kernel)) (X.2.2.2.2.1 _ (by decide +kernel)) rfl (by decide +kernel) ⟨Nat.le_of_ble_eq_true rfl, Nat.le_of_ble_eq_true rfl⟩) rfl (Nat.le_of_ble_eq_true rfl) dX5_init_24 ⟨Nat.le_of_ble_eq_true rfl, Nat.le_of_ble_eq_true rfl⟩ ?_
  refine wb_putF (q := 27) (ci := 7) (kf := 3) (N := 12) (fs := [rf G 28, .int 0, .int 0, .null, .null, .null, .null, .int 0, .null, .int 0, .int 0, .int 0]) (C := RX5) (ref := RX5) (T := TX5) (ty := (.object "ScarecrowRegistry$Row")) X tyX5 tyX5_ok nmX5 (by decide) (by first | rfl | exact hF) rfl (by decide +kernel) (by decide) (by decide +kernel) (fun _ h => h) rfl hname rfl rfl rfl rfl (Nat.le_of_ble_eq_true rfl) dX5_init_27 ?_
  refine wb_aload_n X dX5_init_30 0 rfl ?_
  refine wb_new (ci := 6) (N := 1) (C := RX4) (T := TX4) (fs := [.null]) X (by decide +kernel) tyX4 tyX4_ok (by decide +kernel) (by decide +kernel) (by decide +kernel) rfl dfX4 (Nat.le_of_ble_eq_true rfl) (Nat.le_of_ble_eq_true rfl) dX5_init_31 ?_
  refine wb_dup X dX5_init_34 rfl ?_
  refine wb_bipush X (v := 20) dX5_init_35 (by decide) ?_
  refine wb_callI (q := 32) (As := [.int 20]) (st' := [rf G 32, rf G 27]) X (mtX4_init_20 (r := 32) (by first | rfl | exact hF)) (cwI 1 X.2.2.2.2.1 gX5_init_X4_init rfl rfl rfl (X.2.2.2.2.1 _ (by decide +kernel)) (X.2.2.2.2.1 _ (by decide +kernel)) (X.2.2.2.2.1 _ (by decide +kernel)) rfl (by decide +kernel) ⟨Nat.le_of_ble_eq_true rfl, Nat.le_of_ble_eq_true rfl⟩) rfl (Nat.le_of_ble_eq_true rfl) dX5_init_37 ⟨Nat.le_of_ble_eq_true rfl, Nat.le_of_ble_eq_true rfl⟩ ?_
  refine wb_putF (q := 27) (ci := 7) (kf := 4) (N := 12) (fs := [rf G 28, .int 0, .int 0, rf G 30, .null, .null, .null, .int 0, .null, .int 0, .int 0, .int 0]) (C := RX5) (ref := RX5) (T := TX5) (ty := (.object "ScarecrowRegistry$Row")) X tyX5 tyX5_ok nmX5 (by decide) (by first | rfl | exact hF) rfl (by decide +kernel) (by decide) (by decide +kernel) (fun _ h => h) rfl hname rfl rfl rfl rfl (Nat.le_of_ble_eq_true rfl) dX5_init_40 ?_
  refine wb_aload_n X dX5_init_43 0 rfl ?_
  refine wb_new (ci := 6) (N := 1) (C := RX4) (T := TX4) (fs := [.null]) X (by decide +kernel) tyX4 tyX4_ok (by decide +kernel) (by decide +kernel) (by decide +kernel) rfl dfX4 (Nat.le_of_ble_eq_true rfl) (Nat.le_of_ble_eq_true rfl) dX5_init_44 ?_
  refine wb_dup X dX5_init_47 rfl ?_
  refine wb_bipush X (v := 20) dX5_init_48 (by decide) ?_
  refine wb_callI (q := 34) (As := [.int 20]) (st' := [rf G 34, rf G 27]) X (mtX4_init_20 (r := 34) (by first | rfl | exact hF)) (cwI 1 X.2.2.2.2.1 gX5_init_X4_init rfl rfl rfl (X.2.2.2.2.1 _ (by decide +kernel)) (X.2.2.2.2.1 _ (by decide +kernel)) (X.2.2.2.2.1 _ (by decide +kernel)) rfl (by decide +kernel) ⟨Nat.le_of_ble_eq_true rfl, Nat.le_of_ble_eq_true rfl⟩) rfl (Nat.le_of_ble_eq_true rfl) dX5_init_50 ⟨Nat.le_of_ble_eq_true rfl, Nat.le_of_ble_eq_true rfl⟩ ?_
  refine wb_putF (q := 27) (ci := 7) (kf := 5) (N := 12) (fs := [rf G 28, .int 0, .int 0, rf G 30, rf G 32, .null, .null, .int 0, .null, .int 0, .int 0, .int 0]) (C := RX5) (ref := RX5) (T := TX5) (ty := (.object "ScarecrowRegistry$Row")) X tyX5 tyX5_ok nmX5 (by decide) (by first | rfl | exact hF) rfl (by decide +kernel) (by decide) (by decide +kernel) (fun _ h => h) rfl hname rfl rfl rfl rfl (Nat.le_of_ble_eq_true rfl) dX5_init_53 ?_
  refine wb_aload_n X dX5_init_56 0 rfl ?_
  refine wb_new (ci := 6) (N := 1) (C := RX4) (T := TX4) (fs := [.null]) X (by decide +kernel) tyX4 tyX4_ok (by decide +kernel) (by decide +kernel) (by decide +kernel) rfl dfX4 (Nat.le_of_ble_eq_true rfl) (Nat.le_of_ble_eq_true rfl) dX5_init_57 ?_
  refine wb_dup X dX5_init_60 rfl ?_
  refine wb_bipush X (v := 20) dX5_init_61 (by decide) ?_
  refine wb_callI (q := 36) (As := [.int 20]) (st' := [rf G 36, rf G 27]) X (mtX4_init_20 (r := 36) (by first | rfl | exact hF)) (cwI 1 X.2.2.2.2.1 gX5_init_X4_init rfl rfl rfl (X.2.2.2.2.1 _ (by decide +kernel)) (X.2.2.2.2.1 _ (by decide +kernel)) (X.2.2.2.2.1 _ (by decide +kernel)) rfl (by decide +kernel) ⟨Nat.le_of_ble_eq_true rfl, Nat.le_of_ble_eq_true rfl⟩) rfl (Nat.le_of_ble_eq_true rfl) dX5_init_63 ⟨Nat.le_of_ble_eq_true rfl, Nat.le_of_ble_eq_true rfl⟩ ?_
  refine wb_putF (q := 27) (ci := 7) (kf := 6) (N := 12) (fs := [rf G 28, .int 0, .int 0, rf G 30, rf G 32, rf G 34, .null, .int 0, .null, .int 0, .int 0, .int 0]) (C := RX5) (ref := RX5) (T := TX5) (ty := (.object "ScarecrowRegistry$Row")) X tyX5 tyX5_ok nmX5 (by decide) (by first | rfl | exact hF) rfl (by decide +kernel) (by decide) (by decide +kernel) (fun _ h => h) rfl hname rfl rfl rfl rfl (Nat.le_of_ble_eq_true rfl) dX5_init_66 ?_
  refine wb_aload_n X dX5_init_69 0 rfl ?_
  refine wb_new (ci := 6) (N := 1) (C := RX4) (T := TX4) (fs := [.null]) X (by decide +kernel) tyX4 tyX4_ok (by decide +kernel) (by decide +kernel) (by decide +kernel) rfl dfX4 (Nat.le_of_ble_eq_true rfl) (Nat.le_of_ble_eq_true rfl) dX5_init_70 ?_
  refine wb_dup X dX5_init_73 rfl ?_
  refine wb_bipush X (v := 16) dX5_init_74 (by decide) ?_
  refine wb_callI (q := 38) (As := [.int 16]) (st' := [rf G 38, rf G 27]) X (mtX4_init_16 (r := 38) (by first | rfl | exact hF)) (cwI 1 X.2.2.2.2.1 gX5_init_X4_init rfl rfl rfl (X.2.2.2.2.1 _ (by decide +kernel)) (X.2.2.2.2.1 _ (by decide +kernel)) (X.2.2.2.2.1 _ (by decide +kernel)) rfl (by decide +kernel) ⟨Nat.le_of_ble_eq_true rfl, Nat.le_of_ble_eq_true rfl⟩) rfl (Nat.le_of_ble_eq_true rfl) dX5_init_76 ⟨Nat.le_of_ble_eq_true rfl, Nat.le_of_ble_eq_true rfl⟩ ?_
  refine wb_putF (q := 27) (ci := 7) (kf := 8) (N := 12) (fs := [rf G 28, .int 0, .int 0, rf G 30, rf G 32, rf G 34, rf G 36, .int 0, .null, .int 0, .int 0, .int 0]) (C := RX5) (ref := RX5) (T := TX5) (ty := (.object "ScarecrowRegistry$Row")) X tyX5 tyX5_ok nmX5 (by decide) (by first | rfl | exact hF) rfl (by decide +kernel) (by decide) (by decide +kernel) (fun _ h => h) rfl hname rfl rfl rfl rfl (Nat.le_of_ble_eq_true rfl) dX5_init_79 ?_
  refine wb_aload_n X dX5_init_82 0 rfl ?_
  refine wb_get (q := 27) (ci := 7) (kf := 8) (N := 12) (fs := [rf G 28, .int 0, .int 0, rf G 30, rf G 32, rf G 34, rf G 36, .int 0, rf G 38, .int 0, .int 0, .int 0]) (C := RX5) (ref := RX5) (T := TX5) X (by decide) (by first | rfl | exact hF) rfl (by decide +kernel) (by decide) (fun _ h => h) rfl (by decide +kernel) dX5_init_83 ?_
  refine wb_bipush X (v := 9) dX5_init_86 (by decide) ?_
  refine wb_callV (q := 38) (As := [.int 9]) (st' := []) X (mtX4_fill_b (r := 38) (by decide) (by first | rfl | exact hF) (by first | rfl | exact hF)) (cwV 1 X.2.2.2.2.1 gX5_init_X4_fill rfl rfl rfl (by decide +kernel) ⟨Nat.le_of_ble_eq_true rfl, Nat.le_of_ble_eq_true rfl⟩) (by decide) (by first | rfl | exact hF) rfl rfl (Nat.le_of_ble_eq_true rfl) dX5_init_88 ⟨Nat.le_of_ble_eq_true rfl, Nat.le_of_ble_eq_true rfl⟩ ?_
  refine wb_vret X dX5_init_91 (by decide) (by decide) ?_
  refine Prod.ext rfl (funext fun j => ?_)
  by_cases h : 27 ≤ j ∧ j ≤ 39
  · show (if 27 ≤ j ∧ j ≤ 39 then cel G (S0 G) j else F j) = _
    rw [if_pos h]
    have h2 : j = 27 ∨ j = 28 ∨ j = 29 ∨ j = 30 ∨ j = 31 ∨ j = 32 ∨ j = 33 ∨ j = 34 ∨ j = 35 ∨ j = 36 ∨ j = 37 ∨ j = 38 ∨ j = 39 := by omega
    rcases h2 with rfl | rfl | rfl | rfl | rfl | rfl | rfl | rfl | rfl | rfl | rfl | rfl | rfl <;> rfl
  · show (if 27 ≤ j ∧ j ≤ 39 then cel G (S0 G) j else F j) = _
    rw [if_neg h]
    symm
    repeat' (first | rfl | (refine (ue_ne (by omega)).trans ?_) | (refine (blF_ne (by omega)).trans ?_))
set_option maxHeartbeats 4000000 in
set_option maxRecDepth 100000 in
theorem mtX5_init_40 {l : Launch} {G : Gt}  {F : Nat → va_E} (hF : F 40 = .inr (7, [.null, .int 0, .int 0, .null, .null, .null, .null, .int 0, .null, .int 0, .int 0, .int 0])) : MB l yX5_init wsX5_init { frames := 2, cells := 12, slots := 112, locals := 36 } G (41, F) [rf G 40] (53, blF G 40 52 F) 12 112 := by
  refine MB_of (cc := cX5_init) (own := RX5) (maxL := 1) (ret := none) (by decide +kernel) rfl rfl (Nat.le_of_ble_eq_true rfl) ?_
  intro p e s m args below meth c X hname
  show VB G p l e _ s m args below meth c 1 _ 0 0 41 F 0 [(0, rf G 40)] []
  refine wb_aload_n X dX5_init_0 0 rfl ?_
  refine wb_obj X (by decide +kernel) (by decide +kernel) (by decide +kernel) (Nat.le_of_ble_eq_true rfl) (Nat.le_of_ble_eq_true rfl) dX5_init_1 ?_
  refine wb_aload_n X dX5_init_4 0 rfl ?_
  refine wb_new (ci := 6) (N := 1) (C := RX4) (T := TX4) (fs := [.null]) X (by decide +kernel) tyX4 tyX4_ok (by decide +kernel) (by decide +kernel) (by decide +kernel) rfl dfX4 (Nat.le_of_ble_eq_true rfl) (Nat.le_of_ble_eq_true rfl) dX5_init_5 ?_
  refine wb_dup X dX5_init_8 rfl ?_
  refine wb_bipush X (v := 10) dX5_init_9 (by decide) ?_
  refine wb_callI (q := 41) (As := [.int 10]) (st' := [rf G 41, rf G 40]) X (mtX4_init_10 (r := 41) (by first | rfl | exact hF)) (cwI 1 X.2.2.2.2.1 gX5_init_X4_init rfl rfl rfl (X.2.2.2.2.1 _ (by decide +kernel)) (X.2.2.2.2.1 _ (by decide +kernel)) (X.2.2.2.2.1 _ (by decide +kernel)) rfl (by decide +kernel) ⟨Nat.le_of_ble_eq_true rfl, Nat.le_of_ble_eq_true rfl⟩) rfl (Nat.le_of_ble_eq_true rfl) dX5_init_11 ⟨Nat.le_of_ble_eq_true rfl, Nat.le_of_ble_eq_true rfl⟩ ?_
  refine wb_putF (q := 40) (ci := 7) (kf := 0) (N := 12) (fs := [.null, .int 0, .int 0, .null, .null, .null, .null, .int 0, .null, .int 0, .int 0, .int 0]) (C := RX5) (ref := RX5) (T := TX5) (ty := (.object "ScarecrowRegistry$Row")) X tyX5 tyX5_ok nmX5 (by decide) (by first | rfl | exact hF) rfl (by decide +kernel) (by decide) (by decide +kernel) (fun _ h => h) rfl hname rfl rfl rfl rfl (Nat.le_of_ble_eq_true rfl) dX5_init_14 ?_
  refine wb_aload_n X dX5_init_17 0 rfl ?_
  refine wb_new (ci := 6) (N := 1) (C := RX4) (T := TX4) (fs := [.null]) X (by decide +kernel) tyX4 tyX4_ok (by decide +kernel) (by decide +kernel) (by decide +kernel) rfl dfX4 (Nat.le_of_ble_eq_true rfl) (Nat.le_of_ble_eq_true rfl) dX5_init_18 ?_
  refine wb_dup X dX5_init_21 rfl ?_
  refine wb_bipush X (v := 20) dX5_init_22 (by decide) ?_
  refine wb_callI (q := 43) (As := [.int 20]) (st' := [rf G 43, rf G 40]) X (mtX4_init_20 (r := 43) (by first | rfl | exact hF)) (cwI 1 X.2.2.2.2.1 gX5_init_X4_init rfl rfl rfl (X.2.2.2.2.1 _ (by decide +kernel)) (X.2.2.2.2.1 _ (by decide +kernel)) (X.2.2.2.2.1 _ (by decide +kernel)) rfl (by decide +kernel) ⟨Nat.le_of_ble_eq_true rfl, Nat.le_of_ble_eq_true rfl⟩) rfl (Nat.le_of_ble_eq_true rfl) dX5_init_24 ⟨Nat.le_of_ble_eq_true rfl, Nat.le_of_ble_eq_true rfl⟩ ?_
  refine wb_putF (q := 40) (ci := 7) (kf := 3) (N := 12) (fs := [rf G 41, .int 0, .int 0, .null, .null, .null, .null, .int 0, .null, .int 0, .int 0, .int 0]) (C := RX5) (ref := RX5) (T := TX5) (ty := (.object "ScarecrowRegistry$Row")) X tyX5 tyX5_ok nmX5 (by decide) (by first | rfl | exact hF) rfl (by decide +kernel) (by decide) (by decide +kernel) (fun _ h => h) rfl hname rfl rfl rfl rfl (Nat.le_of_ble_eq_true rfl) dX5_init_27 ?_
  refine wb_aload_n X dX5_init_30 0 rfl ?_
  refine wb_new (ci := 6) (N := 1) (C := RX4) (T := TX4) (fs := [.null]) X (by decide +kernel) tyX4 tyX4_ok (by decide +kernel) (by decide +kernel) (by decide +kernel) rfl dfX4 (Nat.le_of_ble_eq_true rfl) (Nat.le_of_ble_eq_true rfl) dX5_init_31 ?_
  refine wb_dup X dX5_init_34 rfl ?_
  refine wb_bipush X (v := 20) dX5_init_35 (by decide) ?_
  refine wb_callI (q := 45) (As := [.int 20]) (st' := [rf G 45, rf G 40]) X (mtX4_init_20 (r := 45) (by first | rfl | exact hF)) (cwI 1 X.2.2.2.2.1 gX5_init_X4_init rfl rfl rfl (X.2.2.2.2.1 _ (by decide +kernel)) (X.2.2.2.2.1 _ (by decide +kernel)) (X.2.2.2.2.1 _ (by decide +kernel)) rfl (by decide +kernel) ⟨Nat.le_of_ble_eq_true rfl, Nat.le_of_ble_eq_true rfl⟩) rfl (Nat.le_of_ble_eq_true rfl) dX5_init_37 ⟨Nat.le_of_ble_eq_true rfl, Nat.le_of_ble_eq_true rfl⟩ ?_
  refine wb_putF (q := 40) (ci := 7) (kf := 4) (N := 12) (fs := [rf G 41, .int 0, .int 0, rf G 43, .null, .null, .null, .int 0, .null, .int 0, .int 0, .int 0]) (C := RX5) (ref := RX5) (T := TX5) (ty := (.object "ScarecrowRegistry$Row")) X tyX5 tyX5_ok nmX5 (by decide) (by first | rfl | exact hF) rfl (by decide +kernel) (by decide) (by decide +kernel) (fun _ h => h) rfl hname rfl rfl rfl rfl (Nat.le_of_ble_eq_true rfl) dX5_init_40 ?_
  refine wb_aload_n X dX5_init_43 0 rfl ?_
  refine wb_new (ci := 6) (N := 1) (C := RX4) (T := TX4) (fs := [.null]) X (by decide +kernel) tyX4 tyX4_ok (by decide +kernel) (by decide +kernel) (by decide +kernel) rfl dfX4 (Nat.le_of_ble_eq_true rfl) (Nat.le_of_ble_eq_true rfl) dX5_init_44 ?_
  refine wb_dup X dX5_init_47 rfl ?_
  refine wb_bipush X (v := 20) dX5_init_48 (by decide) ?_
  refine wb_callI (q := 47) (As := [.int 20]) (st' := [rf G 47, rf G 40]) X (mtX4_init_20 (r := 47) (by first | rfl | exact hF)) (cwI 1 X.2.2.2.2.1 gX5_init_X4_init rfl rfl rfl (X.2.2.2.2.1 _ (by decide +kernel)) (X.2.2.2.2.1 _ (by decide +kernel)) (X.2.2.2.2.1 _ (by decide +kernel)) rfl (by decide +kernel) ⟨Nat.le_of_ble_eq_true rfl, Nat.le_of_ble_eq_true rfl⟩) rfl (Nat.le_of_ble_eq_true rfl) dX5_init_50 ⟨Nat.le_of_ble_eq_true rfl, Nat.le_of_ble_eq_true rfl⟩ ?_
  refine wb_putF (q := 40) (ci := 7) (kf := 5) (N := 12) (fs := [rf G 41, .int 0, .int 0, rf G 43, rf G 45, .null, .null, .int 0, .null, .int 0, .int 0, .int 0]) (C := RX5) (ref := RX5) (T := TX5) (ty := (.object "ScarecrowRegistry$Row")) X tyX5 tyX5_ok nmX5 (by decide) (by first | rfl | exact hF) rfl (by decide +kernel) (by decide) (by decide +kernel) (fun _ h => h) rfl hname rfl rfl rfl rfl (Nat.le_of_ble_eq_true rfl) dX5_init_53 ?_
  refine wb_aload_n X dX5_init_56 0 rfl ?_
  refine wb_new (ci := 6) (N := 1) (C := RX4) (T := TX4) (fs := [.null]) X (by decide +kernel) tyX4 tyX4_ok (by decide +kernel) (by decide +kernel) (by decide +kernel) rfl dfX4 (Nat.le_of_ble_eq_true rfl) (Nat.le_of_ble_eq_true rfl) dX5_init_57 ?_
  refine wb_dup X dX5_init_60 rfl ?_
  refine wb_bipush X (v := 20) dX5_init_61 (by decide) ?_
  refine wb_callI (q := 49) (As := [.int 20]) (st' := [rf G 49, rf G 40]) X (mtX4_init_20 (r := 49) (by first | rfl | exact hF)) (cwI 1 X.2.2.2.2.1 gX5_init_X4_init rfl rfl rfl (X.2.2.2.2.1 _ (by decide +kernel)) (X.2.2.2.2.1 _ (by decide +kernel)) (X.2.2.2.2.1 _ (by decide +kernel)) rfl (by decide +kernel) ⟨Nat.le_of_ble_eq_true rfl, Nat.le_of_ble_eq_true rfl⟩) rfl (Nat.le_of_ble_eq_true rfl) dX5_init_63 ⟨Nat.le_of_ble_eq_true rfl, Nat.le_of_ble_eq_true rfl⟩ ?_
  refine wb_putF (q := 40) (ci := 7) (kf := 6) (N := 12) (fs := [rf G 41, .int 0, .int 0, rf G 43, rf G 45, rf G 47, .null, .int 0, .null, .int 0, .int 0, .int 0]) (C := RX5) (ref := RX5) (T := TX5) (ty := (.object "ScarecrowRegistry$Row")) X tyX5 tyX5_ok nmX5 (by decide) (by first | rfl | exact hF) rfl (by decide +kernel) (by decide) (by decide +kernel) (fun _ h => h) rfl hname rfl rfl rfl rfl (Nat.le_of_ble_eq_true rfl) dX5_init_66 ?_
  refine wb_aload_n X dX5_init_69 0 rfl ?_
  refine wb_new (ci := 6) (N := 1) (C := RX4) (T := TX4) (fs := [.null]) X (by decide +kernel) tyX4 tyX4_ok (by decide +kernel) (by decide +kernel) (by decide +kernel) rfl dfX4 (Nat.le_of_ble_eq_true rfl) (Nat.le_of_ble_eq_true rfl) dX5_init_70 ?_
  refine wb_dup X dX5_init_73 rfl ?_
  refine wb_bipush X (v := 16) dX5_init_74 (by decide) ?_
  refine wb_callI (q := 51) (As := [.int 16]) (st' := [rf G 51, rf G 40]) X (mtX4_init_16 (r := 51) (by first | rfl | exact hF)) (cwI 1 X.2.2.2.2.1 gX5_init_X4_init rfl rfl rfl (X.2.2.2.2.1 _ (by decide +kernel)) (X.2.2.2.2.1 _ (by decide +kernel)) (X.2.2.2.2.1 _ (by decide +kernel)) rfl (by decide +kernel) ⟨Nat.le_of_ble_eq_true rfl, Nat.le_of_ble_eq_true rfl⟩) rfl (Nat.le_of_ble_eq_true rfl) dX5_init_76 ⟨Nat.le_of_ble_eq_true rfl, Nat.le_of_ble_eq_true rfl⟩ ?_
  refine wb_putF (q := 40) (ci := 7) (kf := 8) (N := 12) (fs := [rf G 41, .int 0, .int 0, rf G 43, rf G 45, rf G 47, rf G 49, .int 0, .null, .int 0, .int 0, .int 0]) (C := RX5) (ref := RX5) (T := TX5) (ty := (.object "ScarecrowRegistry$Row")) X tyX5 tyX5_ok nmX5 (by decide) (by first | rfl | exact hF) rfl (by decide +kernel) (by decide) (by decide +kernel) (fun _ h => h) rfl hname rfl rfl rfl rfl (Nat.le_of_ble_eq_true rfl) dX5_init_79 ?_
  refine wb_aload_n X dX5_init_82 0 rfl ?_
  refine wb_get (q := 40) (ci := 7) (kf := 8) (N := 12) (fs := [rf G 41, .int 0, .int 0, rf G 43, rf G 45, rf G 47, rf G 49, .int 0, rf G 51, .int 0, .int 0, .int 0]) (C := RX5) (ref := RX5) (T := TX5) X (by decide) (by first | rfl | exact hF) rfl (by decide +kernel) (by decide) (fun _ h => h) rfl (by decide +kernel) dX5_init_83 ?_
  refine wb_bipush X (v := 9) dX5_init_86 (by decide) ?_
  refine wb_callV (q := 51) (As := [.int 9]) (st' := []) X (mtX4_fill_b (r := 51) (by decide) (by first | rfl | exact hF) (by first | rfl | exact hF)) (cwV 1 X.2.2.2.2.1 gX5_init_X4_fill rfl rfl rfl (by decide +kernel) ⟨Nat.le_of_ble_eq_true rfl, Nat.le_of_ble_eq_true rfl⟩) (by decide) (by first | rfl | exact hF) rfl rfl (Nat.le_of_ble_eq_true rfl) dX5_init_88 ⟨Nat.le_of_ble_eq_true rfl, Nat.le_of_ble_eq_true rfl⟩ ?_
  refine wb_vret X dX5_init_91 (by decide) (by decide) ?_
  refine Prod.ext rfl (funext fun j => ?_)
  by_cases h : 40 ≤ j ∧ j ≤ 52
  · show (if 40 ≤ j ∧ j ≤ 52 then cel G (S0 G) j else F j) = _
    rw [if_pos h]
    have h2 : j = 40 ∨ j = 41 ∨ j = 42 ∨ j = 43 ∨ j = 44 ∨ j = 45 ∨ j = 46 ∨ j = 47 ∨ j = 48 ∨ j = 49 ∨ j = 50 ∨ j = 51 ∨ j = 52 := by omega
    rcases h2 with rfl | rfl | rfl | rfl | rfl | rfl | rfl | rfl | rfl | rfl | rfl | rfl | rfl <;> rfl
  · show (if 40 ≤ j ∧ j ≤ 52 then cel G (S0 G) j else F j) = _
    rw [if_neg h]
    symm
    repeat' (first | rfl | (refine (ue_ne (by omega)).trans ?_) | (refine (blF_ne (by omega)).trans ?_))
set_option maxHeartbeats 4000000 in
set_option maxRecDepth 100000 in
theorem mtX5_init_55 {l : Launch} {G : Gt}  {F : Nat → va_E} (hF : F 55 = .inr (7, [.null, .int 0, .int 0, .null, .null, .null, .null, .int 0, .null, .int 0, .int 0, .int 0])) : MB l yX5_init wsX5_init { frames := 2, cells := 12, slots := 112, locals := 36 } G (56, F) [rf G 55] (68, blF G 55 67 F) 12 112 := by
  refine MB_of (cc := cX5_init) (own := RX5) (maxL := 1) (ret := none) (by decide +kernel) rfl rfl (Nat.le_of_ble_eq_true rfl) ?_
  intro p e s m args below meth c X hname
  show VB G p l e _ s m args below meth c 1 _ 0 0 56 F 0 [(0, rf G 55)] []
  refine wb_aload_n X dX5_init_0 0 rfl ?_
  refine wb_obj X (by decide +kernel) (by decide +kernel) (by decide +kernel) (Nat.le_of_ble_eq_true rfl) (Nat.le_of_ble_eq_true rfl) dX5_init_1 ?_
  refine wb_aload_n X dX5_init_4 0 rfl ?_
  refine wb_new (ci := 6) (N := 1) (C := RX4) (T := TX4) (fs := [.null]) X (by decide +kernel) tyX4 tyX4_ok (by decide +kernel) (by decide +kernel) (by decide +kernel) rfl dfX4 (Nat.le_of_ble_eq_true rfl) (Nat.le_of_ble_eq_true rfl) dX5_init_5 ?_
  refine wb_dup X dX5_init_8 rfl ?_
  refine wb_bipush X (v := 10) dX5_init_9 (by decide) ?_
  refine wb_callI (q := 56) (As := [.int 10]) (st' := [rf G 56, rf G 55]) X (mtX4_init_10 (r := 56) (by first | rfl | exact hF)) (cwI 1 X.2.2.2.2.1 gX5_init_X4_init rfl rfl rfl (X.2.2.2.2.1 _ (by decide +kernel)) (X.2.2.2.2.1 _ (by decide +kernel)) (X.2.2.2.2.1 _ (by decide +kernel)) rfl (by decide +kernel) ⟨Nat.le_of_ble_eq_true rfl, Nat.le_of_ble_eq_true rfl⟩) rfl (Nat.le_of_ble_eq_true rfl) dX5_init_11 ⟨Nat.le_of_ble_eq_true rfl, Nat.le_of_ble_eq_true rfl⟩ ?_
  refine wb_putF (q := 55) (ci := 7) (kf := 0) (N := 12) (fs := [.null, .int 0, .int 0, .null, .null, .null, .null, .int 0, .null, .int 0, .int 0, .int 0]) (C := RX5) (ref := RX5) (T := TX5) (ty := (.object "ScarecrowRegistry$Row")) X tyX5 tyX5_ok nmX5 (by decide) (by first | rfl | exact hF) rfl (by decide +kernel) (by decide) (by decide +kernel) (fun _ h => h) rfl hname rfl rfl rfl rfl (Nat.le_of_ble_eq_true rfl) dX5_init_14 ?_
  refine wb_aload_n X dX5_init_17 0 rfl ?_
  refine wb_new (ci := 6) (N := 1) (C := RX4) (T := TX4) (fs := [.null]) X (by decide +kernel) tyX4 tyX4_ok (by decide +kernel) (by decide +kernel) (by decide +kernel) rfl dfX4 (Nat.le_of_ble_eq_true rfl) (Nat.le_of_ble_eq_true rfl) dX5_init_18 ?_
  refine wb_dup X dX5_init_21 rfl ?_
  refine wb_bipush X (v := 20) dX5_init_22 (by decide) ?_
  refine wb_callI (q := 58) (As := [.int 20]) (st' := [rf G 58, rf G 55]) X (mtX4_init_20 (r := 58) (by first | rfl | exact hF)) (cwI 1 X.2.2.2.2.1 gX5_init_X4_init rfl rfl rfl (X.2.2.2.2.1 _ (by decide +kernel)) (X.2.2.2.2.1 _ (by decide +kernel)) (X.2.2.2.2.1 _ (by decide +kernel)) rfl (by decide +kernel) ⟨Nat.le_of_ble_eq_true rfl, Nat.le_of_ble_eq_true rfl⟩) rfl (Nat.le_of_ble_eq_true rfl) dX5_init_24 ⟨Nat.le_of_ble_eq_true rfl, Nat.le_of_ble_eq_true rfl⟩ ?_
  refine wb_putF (q := 55) (ci := 7) (kf := 3) (N := 12) (fs := [rf G 56, .int 0, .int 0, .null, .null, .null, .null, .int 0, .null, .int 0, .int 0, .int 0]) (C := RX5) (ref := RX5) (T := TX5) (ty := (.object "ScarecrowRegistry$Row")) X tyX5 tyX5_ok nmX5 (by decide) (by first | rfl | exact hF) rfl (by decide +kernel) (by decide) (by decide +kernel) (fun _ h => h) rfl hname rfl rfl rfl rfl (Nat.le_of_ble_eq_true rfl) dX5_init_27 ?_
  refine wb_aload_n X dX5_init_30 0 rfl ?_
  refine wb_new (ci := 6) (N := 1) (C := RX4) (T := TX4) (fs := [.null]) X (by decide +kernel) tyX4 tyX4_ok (by decide +kernel) (by decide +kernel) (by decide +kernel) rfl dfX4 (Nat.le_of_ble_eq_true rfl) (Nat.le_of_ble_eq_true rfl) dX5_init_31 ?_
  refine wb_dup X dX5_init_34 rfl ?_
  refine wb_bipush X (v := 20) dX5_init_35 (by decide) ?_
  refine wb_callI (q := 60) (As := [.int 20]) (st' := [rf G 60, rf G 55]) X (mtX4_init_20 (r := 60) (by first | rfl | exact hF)) (cwI 1 X.2.2.2.2.1 gX5_init_X4_init rfl rfl rfl (X.2.2.2.2.1 _ (by decide +kernel)) (X.2.2.2.2.1 _ (by decide +kernel)) (X.2.2.2.2.1 _ (by decide +kernel)) rfl (by decide +kernel) ⟨Nat.le_of_ble_eq_true rfl, Nat.le_of_ble_eq_true rfl⟩) rfl (Nat.le_of_ble_eq_true rfl) dX5_init_37 ⟨Nat.le_of_ble_eq_true rfl, Nat.le_of_ble_eq_true rfl⟩ ?_
  refine wb_putF (q := 55) (ci := 7) (kf := 4) (N := 12) (fs := [rf G 56, .int 0, .int 0, rf G 58, .null, .null, .null, .int 0, .null, .int 0, .int 0, .int 0]) (C := RX5) (ref := RX5) (T := TX5) (ty := (.object "ScarecrowRegistry$Row")) X tyX5 tyX5_ok nmX5 (by decide) (by first | rfl | exact hF) rfl (by decide +kernel) (by decide) (by decide +kernel) (fun _ h => h) rfl hname rfl rfl rfl rfl (Nat.le_of_ble_eq_true rfl) dX5_init_40 ?_
  refine wb_aload_n X dX5_init_43 0 rfl ?_
  refine wb_new (ci := 6) (N := 1) (C := RX4) (T := TX4) (fs := [.null]) X (by decide +kernel) tyX4 tyX4_ok (by decide +kernel) (by decide +kernel) (by decide +kernel) rfl dfX4 (Nat.le_of_ble_eq_true rfl) (Nat.le_of_ble_eq_true rfl) dX5_init_44 ?_
  refine wb_dup X dX5_init_47 rfl ?_
  refine wb_bipush X (v := 20) dX5_init_48 (by decide) ?_
  refine wb_callI (q := 62) (As := [.int 20]) (st' := [rf G 62, rf G 55]) X (mtX4_init_20 (r := 62) (by first | rfl | exact hF)) (cwI 1 X.2.2.2.2.1 gX5_init_X4_init rfl rfl rfl (X.2.2.2.2.1 _ (by decide +kernel)) (X.2.2.2.2.1 _ (by decide +kernel)) (X.2.2.2.2.1 _ (by decide +kernel)) rfl (by decide +kernel) ⟨Nat.le_of_ble_eq_true rfl, Nat.le_of_ble_eq_true rfl⟩) rfl (Nat.le_of_ble_eq_true rfl) dX5_init_50 ⟨Nat.le_of_ble_eq_true rfl, Nat.le_of_ble_eq_true rfl⟩ ?_
  refine wb_putF (q := 55) (ci := 7) (kf := 5) (N := 12) (fs := [rf G 56, .int 0, .int 0, rf G 58, rf G 60, .null, .null, .int 0, .null, .int 0, .int 0, .int 0]) (C := RX5) (ref := RX5) (T := TX5) (ty := (.object "ScarecrowRegistry$Row")) X tyX5 tyX5_ok nmX5 (by decide) (by first | rfl | exact hF) rfl (by decide +kernel) (by decide) (by decide +kernel) (fun _ h => h) rfl hname rfl rfl rfl rfl (Nat.le_of_ble_eq_true rfl) dX5_init_53 ?_
  refine wb_aload_n X dX5_init_56 0 rfl ?_
  refine wb_new (ci := 6) (N := 1) (C := RX4) (T := TX4) (fs := [.null]) X (by decide +kernel) tyX4 tyX4_ok (by decide +kernel) (by decide +kernel) (by decide +kernel) rfl dfX4 (Nat.le_of_ble_eq_true rfl) (Nat.le_of_ble_eq_true rfl) dX5_init_57 ?_
  refine wb_dup X dX5_init_60 rfl ?_
  refine wb_bipush X (v := 20) dX5_init_61 (by decide) ?_
  refine wb_callI (q := 64) (As := [.int 20]) (st' := [rf G 64, rf G 55]) X (mtX4_init_20 (r := 64) (by first | rfl | exact hF)) (cwI 1 X.2.2.2.2.1 gX5_init_X4_init rfl rfl rfl (X.2.2.2.2.1 _ (by decide +kernel)) (X.2.2.2.2.1 _ (by decide +kernel)) (X.2.2.2.2.1 _ (by decide +kernel)) rfl (by decide +kernel) ⟨Nat.le_of_ble_eq_true rfl, Nat.le_of_ble_eq_true rfl⟩) rfl (Nat.le_of_ble_eq_true rfl) dX5_init_63 ⟨Nat.le_of_ble_eq_true rfl, Nat.le_of_ble_eq_true rfl⟩ ?_
  refine wb_putF (q := 55) (ci := 7) (kf := 6) (N := 12) (fs := [rf G 56, .int 0, .int 0, rf G 58, rf G 60, rf G 62, .null, .int 0, .null, .int 0, .int 0, .int 0]) (C := RX5) (ref := RX5) (T := TX5) (ty := (.object "ScarecrowRegistry$Row")) X tyX5 tyX5_ok nmX5 (by decide) (by first | rfl | exact hF) rfl (by decide +kernel) (by decide) (by decide +kernel) (fun _ h => h) rfl hname rfl rfl rfl rfl (Nat.le_of_ble_eq_true rfl) dX5_init_66 ?_
  refine wb_aload_n X dX5_init_69 0 rfl ?_
  refine wb_new (ci := 6) (N := 1) (C := RX4) (T := TX4) (fs := [.null]) X (by decide +kernel) tyX4 tyX4_ok (by decide +kernel) (by decide +kernel) (by decide +kernel) rfl dfX4 (Nat.le_of_ble_eq_true rfl) (Nat.le_of_ble_eq_true rfl) dX5_init_70 ?_
  refine wb_dup X dX5_init_73 rfl ?_
  refine wb_bipush X (v := 16) dX5_init_74 (by decide) ?_
  refine wb_callI (q := 66) (As := [.int 16]) (st' := [rf G 66, rf G 55]) X (mtX4_init_16 (r := 66) (by first | rfl | exact hF)) (cwI 1 X.2.2.2.2.1 gX5_init_X4_init rfl rfl rfl (X.2.2.2.2.1 _ (by decide +kernel)) (X.2.2.2.2.1 _ (by decide +kernel)) (X.2.2.2.2.1 _ (by decide +kernel)) rfl (by decide +kernel) ⟨Nat.le_of_ble_eq_true rfl, Nat.le_of_ble_eq_true rfl⟩) rfl (Nat.le_of_ble_eq_true rfl) dX5_init_76 ⟨Nat.le_of_ble_eq_true rfl, Nat.le_of_ble_eq_true rfl⟩ ?_
  refine wb_putF (q := 55) (ci := 7) (kf := 8) (N := 12) (fs := [rf G 56, .int 0, .int 0, rf G 58, rf G 60, rf G 62, rf G 64, .int 0, .null, .int 0, .int 0, .int 0]) (C := RX5) (ref := RX5) (T := TX5) (ty := (.object "ScarecrowRegistry$Row")) X tyX5 tyX5_ok nmX5 (by decide) (by first | rfl | exact hF) rfl (by decide +kernel) (by decide) (by decide +kernel) (fun _ h => h) rfl hname rfl rfl rfl rfl (Nat.le_of_ble_eq_true rfl) dX5_init_79 ?_
  refine wb_aload_n X dX5_init_82 0 rfl ?_
  refine wb_get (q := 55) (ci := 7) (kf := 8) (N := 12) (fs := [rf G 56, .int 0, .int 0, rf G 58, rf G 60, rf G 62, rf G 64, .int 0, rf G 66, .int 0, .int 0, .int 0]) (C := RX5) (ref := RX5) (T := TX5) X (by decide) (by first | rfl | exact hF) rfl (by decide +kernel) (by decide) (fun _ h => h) rfl (by decide +kernel) dX5_init_83 ?_
  refine wb_bipush X (v := 9) dX5_init_86 (by decide) ?_
  refine wb_callV (q := 66) (As := [.int 9]) (st' := []) X (mtX4_fill_b (r := 66) (by decide) (by first | rfl | exact hF) (by first | rfl | exact hF)) (cwV 1 X.2.2.2.2.1 gX5_init_X4_fill rfl rfl rfl (by decide +kernel) ⟨Nat.le_of_ble_eq_true rfl, Nat.le_of_ble_eq_true rfl⟩) (by decide) (by first | rfl | exact hF) rfl rfl (Nat.le_of_ble_eq_true rfl) dX5_init_88 ⟨Nat.le_of_ble_eq_true rfl, Nat.le_of_ble_eq_true rfl⟩ ?_
  refine wb_vret X dX5_init_91 (by decide) (by decide) ?_
  refine Prod.ext rfl (funext fun j => ?_)
  by_cases h : 55 ≤ j ∧ j ≤ 67
  · show (if 55 ≤ j ∧ j ≤ 67 then cel G (S0 G) j else F j) = _
    rw [if_pos h]
    have h2 : j = 55 ∨ j = 56 ∨ j = 57 ∨ j = 58 ∨ j = 59 ∨ j = 60 ∨ j = 61 ∨ j = 62 ∨ j = 63 ∨ j = 64 ∨ j = 65 ∨ j = 66 ∨ j = 67 := by omega
    rcases h2 with rfl | rfl | rfl | rfl | rfl | rfl | rfl | rfl | rfl | rfl | rfl | rfl | rfl <;> rfl
  · show (if 55 ≤ j ∧ j ≤ 67 then cel G (S0 G) j else F j) = _
    rw [if_neg h]
    symm
    repeat' (first | rfl | (refine (ue_ne (by omega)).trans ?_) | (refine (blF_ne (by omega)).trans ?_))
set_option maxHeartbeats 4000000 in
set_option maxRecDepth 100000 in
theorem mtX5_init_68 {l : Launch} {G : Gt}  {F : Nat → va_E} (hF : F 68 = .inr (7, [.null, .int 0, .int 0, .null, .null, .null, .null, .int 0, .null, .int 0, .int 0, .int 0])) : MB l yX5_init wsX5_init { frames := 2, cells := 12, slots := 112, locals := 36 } G (69, F) [rf G 68] (81, blF G 68 80 F) 12 112 := by
  refine MB_of (cc := cX5_init) (own := RX5) (maxL := 1) (ret := none) (by decide +kernel) rfl rfl (Nat.le_of_ble_eq_true rfl) ?_
  intro p e s m args below meth c X hname
  show VB G p l e _ s m args below meth c 1 _ 0 0 69 F 0 [(0, rf G 68)] []
  refine wb_aload_n X dX5_init_0 0 rfl ?_
  refine wb_obj X (by decide +kernel) (by decide +kernel) (by decide +kernel) (Nat.le_of_ble_eq_true rfl) (Nat.le_of_ble_eq_true rfl) dX5_init_1 ?_
  refine wb_aload_n X dX5_init_4 0 rfl ?_
  refine wb_new (ci := 6) (N := 1) (C := RX4) (T := TX4) (fs := [.null]) X (by decide +kernel) tyX4 tyX4_ok (by decide +kernel) (by decide +kernel) (by decide +kernel) rfl dfX4 (Nat.le_of_ble_eq_true rfl) (Nat.le_of_ble_eq_true rfl) dX5_init_5 ?_
  refine wb_dup X dX5_init_8 rfl ?_
  refine wb_bipush X (v := 10) dX5_init_9 (by decide) ?_
  refine wb_callI (q := 69) (As := [.int 10]) (st' := [rf G 69, rf G 68]) X (mtX4_init_10 (r := 69) (by first | rfl | exact hF)) (cwI 1 X.2.2.2.2.1 gX5_init_X4_init rfl rfl rfl (X.2.2.2.2.1 _ (by decide +kernel)) (X.2.2.2.2.1 _ (by decide +kernel)) (X.2.2.2.2.1 _ (by decide +kernel)) rfl (by decide +kernel) ⟨Nat.le_of_ble_eq_true rfl, Nat.le_of_ble_eq_true rfl⟩) rfl (Nat.le_of_ble_eq_true rfl) dX5_init_11 ⟨Nat.le_of_ble_eq_true rfl, Nat.le_of_ble_eq_true rfl⟩ ?_
  refine wb_putF (q := 68) (ci := 7) (kf := 0) (N := 12) (fs := [.null, .int 0, .int 0, .null, .null, .null, .null, .int 0, .null, .int 0, .int 0, .int 0]) (C := RX5) (ref := RX5) (T := TX5) (ty := (.object "ScarecrowRegistry$Row")) X tyX5 tyX5_ok nmX5 (by decide) (by first | rfl | exact hF) rfl (by decide +kernel) (by decide) (by decide +kernel) (fun _ h => h) rfl hname rfl rfl rfl rfl (Nat.le_of_ble_eq_true rfl) dX5_init_14 ?_
  refine wb_aload_n X dX5_init_17 0 rfl ?_
  refine wb_new (ci := 6) (N := 1) (C := RX4) (T := TX4) (fs := [.null]) X (by decide +kernel) tyX4 tyX4_ok (by decide +kernel) (by decide +kernel) (by decide +kernel) rfl dfX4 (Nat.le_of_ble_eq_true rfl) (Nat.le_of_ble_eq_true rfl) dX5_init_18 ?_
  refine wb_dup X dX5_init_21 rfl ?_
  refine wb_bipush X (v := 20) dX5_init_22 (by decide) ?_
  refine wb_callI (q := 71) (As := [.int 20]) (st' := [rf G 71, rf G 68]) X (mtX4_init_20 (r := 71) (by first | rfl | exact hF)) (cwI 1 X.2.2.2.2.1 gX5_init_X4_init rfl rfl rfl (X.2.2.2.2.1 _ (by decide +kernel)) (X.2.2.2.2.1 _ (by decide +kernel)) (X.2.2.2.2.1 _ (by decide +kernel)) rfl (by decide +kernel) ⟨Nat.le_of_ble_eq_true rfl, Nat.le_of_ble_eq_true rfl⟩) rfl (Nat.le_of_ble_eq_true rfl) dX5_init_24 ⟨Nat.le_of_ble_eq_true rfl, Nat.le_of_ble_eq_true rfl⟩ ?_
  refine wb_putF (q := 68) (ci := 7) (kf := 3) (N := 12) (fs := [rf G 69, .int 0, .int 0, .null, .null, .null, .null, .int 0, .null, .int 0, .int 0, .int 0]) (C := RX5) (ref := RX5) (T := TX5) (ty := (.object "ScarecrowRegistry$Row")) X tyX5 tyX5_ok nmX5 (by decide) (by first | rfl | exact hF) rfl (by decide +kernel) (by decide) (by decide +kernel) (fun _ h => h) rfl hname rfl rfl rfl rfl (Nat.le_of_ble_eq_true rfl) dX5_init_27 ?_
  refine wb_aload_n X dX5_init_30 0 rfl ?_
  refine wb_new (ci := 6) (N := 1) (C := RX4) (T := TX4) (fs := [.null]) X (by decide +kernel) tyX4 tyX4_ok (by decide +kernel) (by decide +kernel) (by decide +kernel) rfl dfX4 (Nat.le_of_ble_eq_true rfl) (Nat.le_of_ble_eq_true rfl) dX5_init_31 ?_
  refine wb_dup X dX5_init_34 rfl ?_
  refine wb_bipush X (v := 20) dX5_init_35 (by decide) ?_
  refine wb_callI (q := 73) (As := [.int 20]) (st' := [rf G 73, rf G 68]) X (mtX4_init_20 (r := 73) (by first | rfl | exact hF)) (cwI 1 X.2.2.2.2.1 gX5_init_X4_init rfl rfl rfl (X.2.2.2.2.1 _ (by decide +kernel)) (X.2.2.2.2.1 _ (by decide +kernel)) (X.2.2.2.2.1 _ (by decide +kernel)) rfl (by decide +kernel) ⟨Nat.le_of_ble_eq_true rfl, Nat.le_of_ble_eq_true rfl⟩) rfl (Nat.le_of_ble_eq_true rfl) dX5_init_37 ⟨Nat.le_of_ble_eq_true rfl, Nat.le_of_ble_eq_true rfl⟩ ?_
  refine wb_putF (q := 68) (ci := 7) (kf := 4) (N := 12) (fs := [rf G 69, .int 0, .int 0, rf G 71, .null, .null, .null, .int 0, .null, .int 0, .int 0, .int 0]) (C := RX5) (ref := RX5) (T := TX5) (ty := (.object "ScarecrowRegistry$Row")) X tyX5 tyX5_ok nmX5 (by decide) (by first | rfl | exact hF) rfl (by decide +kernel) (by decide) (by decide +kernel) (fun _ h => h) rfl hname rfl rfl rfl rfl (Nat.le_of_ble_eq_true rfl) dX5_init_40 ?_
  refine wb_aload_n X dX5_init_43 0 rfl ?_
  refine wb_new (ci := 6) (N := 1) (C := RX4) (T := TX4) (fs := [.null]) X (by decide +kernel) tyX4 tyX4_ok (by decide +kernel) (by decide +kernel) (by decide +kernel) rfl dfX4 (Nat.le_of_ble_eq_true rfl) (Nat.le_of_ble_eq_true rfl) dX5_init_44 ?_
  refine wb_dup X dX5_init_47 rfl ?_
  refine wb_bipush X (v := 20) dX5_init_48 (by decide) ?_
  refine wb_callI (q := 75) (As := [.int 20]) (st' := [rf G 75, rf G 68]) X (mtX4_init_20 (r := 75) (by first | rfl | exact hF)) (cwI 1 X.2.2.2.2.1 gX5_init_X4_init rfl rfl rfl (X.2.2.2.2.1 _ (by decide +kernel)) (X.2.2.2.2.1 _ (by decide +kernel)) (X.2.2.2.2.1 _ (by decide +kernel)) rfl (by decide +kernel) ⟨Nat.le_of_ble_eq_true rfl, Nat.le_of_ble_eq_true rfl⟩) rfl (Nat.le_of_ble_eq_true rfl) dX5_init_50 ⟨Nat.le_of_ble_eq_true rfl, Nat.le_of_ble_eq_true rfl⟩ ?_
  refine wb_putF (q := 68) (ci := 7) (kf := 5) (N := 12) (fs := [rf G 69, .int 0, .int 0, rf G 71, rf G 73, .null, .null, .int 0, .null, .int 0, .int 0, .int 0]) (C := RX5) (ref := RX5) (T := TX5) (ty := (.object "ScarecrowRegistry$Row")) X tyX5 tyX5_ok nmX5 (by decide) (by first | rfl | exact hF) rfl (by decide +kernel) (by decide) (by decide +kernel) (fun _ h => h) rfl hname rfl rfl rfl rfl (Nat.le_of_ble_eq_true rfl) dX5_init_53 ?_
  refine wb_aload_n X dX5_init_56 0 rfl ?_
  refine wb_new (ci := 6) (N := 1) (C := RX4) (T := TX4) (fs := [.null]) X (by decide +kernel) tyX4 tyX4_ok (by decide +kernel) (by decide +kernel) (by decide +kernel) rfl dfX4 (Nat.le_of_ble_eq_true rfl) (Nat.le_of_ble_eq_true rfl) dX5_init_57 ?_
  refine wb_dup X dX5_init_60 rfl ?_
  refine wb_bipush X (v := 20) dX5_init_61 (by decide) ?_
  refine wb_callI (q := 77) (As := [.int 20]) (st' := [rf G 77, rf G 68]) X (mtX4_init_20 (r := 77) (by first | rfl | exact hF)) (cwI 1 X.2.2.2.2.1 gX5_init_X4_init rfl rfl rfl (X.2.2.2.2.1 _ (by decide +kernel)) (X.2.2.2.2.1 _ (by decide +kernel)) (X.2.2.2.2.1 _ (by decide +kernel)) rfl (by decide +kernel) ⟨Nat.le_of_ble_eq_true rfl, Nat.le_of_ble_eq_true rfl⟩) rfl (Nat.le_of_ble_eq_true rfl) dX5_init_63 ⟨Nat.le_of_ble_eq_true rfl, Nat.le_of_ble_eq_true rfl⟩ ?_
  refine wb_putF (q := 68) (ci := 7) (kf := 6) (N := 12) (fs := [rf G 69, .int 0, .int 0, rf G 71, rf G 73, rf G 75, .null, .int 0, .null, .int 0, .int 0, .int 0]) (C := RX5) (ref := RX5) (T := TX5) (ty := (.object "ScarecrowRegistry$Row")) X tyX5 tyX5_ok nmX5 (by decide) (by first | rfl | exact hF) rfl (by decide +kernel) (by decide) (by decide +kernel) (fun _ h => h) rfl hname rfl rfl rfl rfl (Nat.le_of_ble_eq_true rfl) dX5_init_66 ?_
  refine wb_aload_n X dX5_init_69 0 rfl ?_
  refine wb_new (ci := 6) (N := 1) (C := RX4) (T := TX4) (fs := [.null]) X (by decide +kernel) tyX4 tyX4_ok (by decide +kernel) (by decide +kernel) (by decide +kernel) rfl dfX4 (Nat.le_of_ble_eq_true rfl) (Nat.le_of_ble_eq_true rfl) dX5_init_70 ?_
  refine wb_dup X dX5_init_73 rfl ?_
  refine wb_bipush X (v := 16) dX5_init_74 (by decide) ?_
  refine wb_callI (q := 79) (As := [.int 16]) (st' := [rf G 79, rf G 68]) X (mtX4_init_16 (r := 79) (by first | rfl | exact hF)) (cwI 1 X.2.2.2.2.1 gX5_init_X4_init rfl rfl rfl (X.2.2.2.2.1 _ (by decide +kernel)) (X.2.2.2.2.1 _ (by decide +kernel)) (X.2.2.2.2.1 _ (by decide +kernel)) rfl (by decide +kernel) ⟨Nat.le_of_ble_eq_true rfl, Nat.le_of_ble_eq_true rfl⟩) rfl (Nat.le_of_ble_eq_true rfl) dX5_init_76 ⟨Nat.le_of_ble_eq_true rfl, Nat.le_of_ble_eq_true rfl⟩ ?_
  refine wb_putF (q := 68) (ci := 7) (kf := 8) (N := 12) (fs := [rf G 69, .int 0, .int 0, rf G 71, rf G 73, rf G 75, rf G 77, .int 0, .null, .int 0, .int 0, .int 0]) (C := RX5) (ref := RX5) (T := TX5) (ty := (.object "ScarecrowRegistry$Row")) X tyX5 tyX5_ok nmX5 (by decide) (by first | rfl | exact hF) rfl (by decide +kernel) (by decide) (by decide +kernel) (fun _ h => h) rfl hname rfl rfl rfl rfl (Nat.le_of_ble_eq_true rfl) dX5_init_79 ?_
  refine wb_aload_n X dX5_init_82 0 rfl ?_
  refine wb_get (q := 68) (ci := 7) (kf := 8) (N := 12) (fs := [rf G 69, .int 0, .int 0, rf G 71, rf G 73, rf G 75, rf G 77, .int 0, rf G 79, .int 0, .int 0, .int 0]) (C := RX5) (ref := RX5) (T := TX5) X (by decide) (by first | rfl | exact hF) rfl (by decide +kernel) (by decide) (fun _ h => h) rfl (by decide +kernel) dX5_init_83 ?_
  refine wb_bipush X (v := 9) dX5_init_86 (by decide) ?_
  refine wb_callV (q := 79) (As := [.int 9]) (st' := []) X (mtX4_fill_b (r := 79) (by decide) (by first | rfl | exact hF) (by first | rfl | exact hF)) (cwV 1 X.2.2.2.2.1 gX5_init_X4_fill rfl rfl rfl (by decide +kernel) ⟨Nat.le_of_ble_eq_true rfl, Nat.le_of_ble_eq_true rfl⟩) (by decide) (by first | rfl | exact hF) rfl rfl (Nat.le_of_ble_eq_true rfl) dX5_init_88 ⟨Nat.le_of_ble_eq_true rfl, Nat.le_of_ble_eq_true rfl⟩ ?_
  refine wb_vret X dX5_init_91 (by decide) (by decide) ?_
  refine Prod.ext rfl (funext fun j => ?_)
  by_cases h : 68 ≤ j ∧ j ≤ 80
  · show (if 68 ≤ j ∧ j ≤ 80 then cel G (S0 G) j else F j) = _
    rw [if_pos h]
    have h2 : j = 68 ∨ j = 69 ∨ j = 70 ∨ j = 71 ∨ j = 72 ∨ j = 73 ∨ j = 74 ∨ j = 75 ∨ j = 76 ∨ j = 77 ∨ j = 78 ∨ j = 79 ∨ j = 80 := by omega
    rcases h2 with rfl | rfl | rfl | rfl | rfl | rfl | rfl | rfl | rfl | rfl | rfl | rfl | rfl <;> rfl
  · show (if 68 ≤ j ∧ j ≤ 80 then cel G (S0 G) j else F j) = _
    rw [if_neg h]
    symm
    repeat' (first | rfl | (refine (ue_ne (by omega)).trans ?_) | (refine (blF_ne (by omega)).trans ?_))
set_option maxHeartbeats 4000000 in
set_option maxRecDepth 100000 in
theorem mtX5_init_81 {l : Launch} {G : Gt}  {F : Nat → va_E} (hF : F 81 = .inr (7, [.null, .int 0, .int 0, .null, .null, .null, .null, .int 0, .null, .int 0, .int 0, .int 0])) : MB l yX5_init wsX5_init { frames := 2, cells := 12, slots := 112, locals := 36 } G (82, F) [rf G 81] (94, blF G 81 93 F) 12 112 := by
  refine MB_of (cc := cX5_init) (own := RX5) (maxL := 1) (ret := none) (by decide +kernel) rfl rfl (Nat.le_of_ble_eq_true rfl) ?_
  intro p e s m args below meth c X hname
  show VB G p l e _ s m args below meth c 1 _ 0 0 82 F 0 [(0, rf G 81)] []
  refine wb_aload_n X dX5_init_0 0 rfl ?_
  refine wb_obj X (by decide +kernel) (by decide +kernel) (by decide +kernel) (Nat.le_of_ble_eq_true rfl) (Nat.le_of_ble_eq_true rfl) dX5_init_1 ?_
  refine wb_aload_n X dX5_init_4 0 rfl ?_
  refine wb_new (ci := 6) (N := 1) (C := RX4) (T := TX4) (fs := [.null]) X (by decide +kernel) tyX4 tyX4_ok (by decide +kernel) (by decide +kernel) (by decide +kernel) rfl dfX4 (Nat.le_of_ble_eq_true rfl) (Nat.le_of_ble_eq_true rfl) dX5_init_5 ?_
  refine wb_dup X dX5_init_8 rfl ?_
  refine wb_bipush X (v := 10) dX5_init_9 (by decide) ?_
  refine wb_callI (q := 82) (As := [.int 10]) (st' := [rf G 82, rf G 81]) X (mtX4_init_10 (r := 82) (by first | rfl | exact hF)) (cwI 1 X.2.2.2.2.1 gX5_init_X4_init rfl rfl rfl (X.2.2.2.2.1 _ (by decide +kernel)) (X.2.2.2.2.1 _ (by decide +kernel)) (X.2.2.2.2.1 _ (by decide +kernel)) rfl (by decide +kernel) ⟨Nat.le_of_ble_eq_true rfl, Nat.le_of_ble_eq_true rfl⟩) rfl (Nat.le_of_ble_eq_true rfl) dX5_init_11 ⟨Nat.le_of_ble_eq_true rfl, Nat.le_of_ble_eq_true rfl⟩ ?_
  refine wb_putF (q := 81) (ci := 7) (kf := 0) (N := 12) (fs := [.null, .int 0, .int 0, .null, .null, .null, .null, .int 0, .null, .int 0, .int 0, .int 0]) (C := RX5) (ref := RX5) (T := TX5) (ty := (.object "ScarecrowRegistry$Row")) X tyX5 tyX5_ok nmX5 (by decide) (by first | rfl | exact hF) rfl (by decide +kernel) (by decide) (by decide +kernel) (fun _ h => h) rfl hname rfl rfl rfl rfl (Nat.le_of_ble_eq_true rfl) dX5_init_14 ?_
  refine wb_aload_n X dX5_init_17 0 rfl ?_
  refine wb_new (ci := 6) (N := 1) (C := RX4) (T := TX4) (fs := [.null]) X (by decide +kernel) tyX4 tyX4_ok (by decide +kernel) (by decide +kernel) (by decide +kernel) rfl dfX4 (Nat.le_of_ble_eq_true rfl) (Nat.le_of_ble_eq_true rfl) dX5_init_18 ?_
  refine wb_dup X dX5_init_21 rfl ?_
  refine wb_bipush X (v := 20) dX5_init_22 (by decide) ?_
  refine wb_callI (q := 84) (As := [.int 20]) (st' := [rf G 84, rf G 81]) X (mtX4_init_20 (r := 84) (by first | rfl | exact hF)) (cwI 1 X.2.2.2.2.1 gX5_init_X4_init rfl rfl rfl (X.2.2.2.2.1 _ (by decide +kernel)) (X.2.2.2.2.1 _ (by decide +kernel)) (X.2.2.2.2.1 _ (by decide +kernel)) rfl (by decide +kernel) ⟨Nat.le_of_ble_eq_true rfl, Nat.le_of_ble_eq_true rfl⟩) rfl (Nat.le_of_ble_eq_true rfl) dX5_init_24 ⟨Nat.le_of_ble_eq_true rfl, Nat.le_of_ble_eq_true rfl⟩ ?_
  refine wb_putF (q := 81) (ci := 7) (kf := 3) (N := 12) (fs := [rf G 82, .int 0, .int 0, .null, .null, .null, .null, .int 0, .null, .int 0, .int 0, .int 0]) (C := RX5) (ref := RX5) (T := TX5) (ty := (.object "ScarecrowRegistry$Row")) X tyX5 tyX5_ok nmX5 (by decide) (by first | rfl | exact hF) rfl (by decide +kernel) (by decide) (by decide +kernel) (fun _ h => h) rfl hname rfl rfl rfl rfl (Nat.le_of_ble_eq_true rfl) dX5_init_27 ?_
  refine wb_aload_n X dX5_init_30 0 rfl ?_
  refine wb_new (ci := 6) (N := 1) (C := RX4) (T := TX4) (fs := [.null]) X (by decide +kernel) tyX4 tyX4_ok (by decide +kernel) (by decide +kernel) (by decide +kernel) rfl dfX4 (Nat.le_of_ble_eq_true rfl) (Nat.le_of_ble_eq_true rfl) dX5_init_31 ?_
  refine wb_dup X dX5_init_34 rfl ?_
  refine wb_bipush X (v := 20) dX5_init_35 (by decide) ?_
  refine wb_callI (q := 86) (As := [.int 20]) (st' := [rf G 86, rf G 81]) X (mtX4_init_20 (r := 86) (by first | rfl | exact hF)) (cwI 1 X.2.2.2.2.1 gX5_init_X4_init rfl rfl rfl (X.2.2.2.2.1 _ (by decide +kernel)) (X.2.2.2.2.1 _ (by decide +kernel)) (X.2.2.2.2.1 _ (by decide +kernel)) rfl (by decide +kernel) ⟨Nat.le_of_ble_eq_true rfl, Nat.le_of_ble_eq_true rfl⟩) rfl (Nat.le_of_ble_eq_true rfl) dX5_init_37 ⟨Nat.le_of_ble_eq_true rfl, Nat.le_of_ble_eq_true rfl⟩ ?_
  refine wb_putF (q := 81) (ci := 7) (kf := 4) (N := 12) (fs := [rf G 82, .int 0, .int 0, rf G 84, .null, .null, .null, .int 0, .null, .int 0, .int 0, .int 0]) (C := RX5) (ref := RX5) (T := TX5) (ty := (.object "ScarecrowRegistry$Row")) X tyX5 tyX5_ok nmX5 (by decide) (by first | rfl | exact hF) rfl (by decide +kernel) (by decide) (by decide +kernel) (fun _ h => h) rfl hname rfl rfl rfl rfl (Nat.le_of_ble_eq_true rfl) dX5_init_40 ?_
  refine wb_aload_n X dX5_init_43 0 rfl ?_
  refine wb_new (ci := 6) (N := 1) (C := RX4) (T := TX4) (fs := [.null]) X (by decide +kernel) tyX4 tyX4_ok (by decide +kernel) (by decide +kernel) (by decide +kernel) rfl dfX4 (Nat.le_of_ble_eq_true rfl) (Nat.le_of_ble_eq_true rfl) dX5_init_44 ?_
  refine wb_dup X dX5_init_47 rfl ?_
  refine wb_bipush X (v := 20) dX5_init_48 (by decide) ?_
  refine wb_callI (q := 88) (As := [.int 20]) (st' := [rf G 88, rf G 81]) X (mtX4_init_20 (r := 88) (by first | rfl | exact hF)) (cwI 1 X.2.2.2.2.1 gX5_init_X4_init rfl rfl rfl (X.2.2.2.2.1 _ (by decide +kernel)) (X.2.2.2.2.1 _ (by decide +kernel)) (X.2.2.2.2.1 _ (by decide +kernel)) rfl (by decide +kernel) ⟨Nat.le_of_ble_eq_true rfl, Nat.le_of_ble_eq_true rfl⟩) rfl (Nat.le_of_ble_eq_true rfl) dX5_init_50 ⟨Nat.le_of_ble_eq_true rfl, Nat.le_of_ble_eq_true rfl⟩ ?_
  refine wb_putF (q := 81) (ci := 7) (kf := 5) (N := 12) (fs := [rf G 82, .int 0, .int 0, rf G 84, rf G 86, .null, .null, .int 0, .null, .int 0, .int 0, .int 0]) (C := RX5) (ref := RX5) (T := TX5) (ty := (.object "ScarecrowRegistry$Row")) X tyX5 tyX5_ok nmX5 (by decide) (by first | rfl | exact hF) rfl (by decide +kernel) (by decide) (by decide +kernel) (fun _ h => h) rfl hname rfl rfl rfl rfl (Nat.le_of_ble_eq_true rfl) dX5_init_53 ?_
  refine wb_aload_n X dX5_init_56 0 rfl ?_
  refine wb_new (ci := 6) (N := 1) (C := RX4) (T := TX4) (fs := [.null]) X (by decide +kernel) tyX4 tyX4_ok (by decide +kernel) (by decide +kernel) (by decide +kernel) rfl dfX4 (Nat.le_of_ble_eq_true rfl) (Nat.le_of_ble_eq_true rfl) dX5_init_57 ?_
  refine wb_dup X dX5_init_60 rfl ?_
  refine wb_bipush X (v := 20) dX5_init_61 (by decide) ?_
  refine wb_callI (q := 90) (As := [.int 20]) (st' := [rf G 90, rf G 81]) X (mtX4_init_20 (r := 90) (by first | rfl | exact hF)) (cwI 1 X.2.2.2.2.1 gX5_init_X4_init rfl rfl rfl (X.2.2.2.2.1 _ (by decide +kernel)) (X.2.2.2.2.1 _ (by decide +kernel)) (X.2.2.2.2.1 _ (by decide +kernel)) rfl (by decide +kernel) ⟨Nat.le_of_ble_eq_true rfl, Nat.le_of_ble_eq_true rfl⟩) rfl (Nat.le_of_ble_eq_true rfl) dX5_init_63 ⟨Nat.le_of_ble_eq_true rfl, Nat.le_of_ble_eq_true rfl⟩ ?_
  refine wb_putF (q := 81) (ci := 7) (kf := 6) (N := 12) (fs := [rf G 82, .int 0, .int 0, rf G 84, rf G 86, rf G 88, .null, .int 0, .null, .int 0, .int 0, .int 0]) (C := RX5) (ref := RX5) (T := TX5) (ty := (.object "ScarecrowRegistry$Row")) X tyX5 tyX5_ok nmX5 (by decide) (by first | rfl | exact hF) rfl (by decide +kernel) (by decide) (by decide +kernel) (fun _ h => h) rfl hname rfl rfl rfl rfl (Nat.le_of_ble_eq_true rfl) dX5_init_66 ?_
  refine wb_aload_n X dX5_init_69 0 rfl ?_
  refine wb_new (ci := 6) (N := 1) (C := RX4) (T := TX4) (fs := [.null]) X (by decide +kernel) tyX4 tyX4_ok (by decide +kernel) (by decide +kernel) (by decide +kernel) rfl dfX4 (Nat.le_of_ble_eq_true rfl) (Nat.le_of_ble_eq_true rfl) dX5_init_70 ?_
  refine wb_dup X dX5_init_73 rfl ?_
  refine wb_bipush X (v := 16) dX5_init_74 (by decide) ?_
  refine wb_callI (q := 92) (As := [.int 16]) (st' := [rf G 92, rf G 81]) X (mtX4_init_16 (r := 92) (by first | rfl | exact hF)) (cwI 1 X.2.2.2.2.1 gX5_init_X4_init rfl rfl rfl (X.2.2.2.2.1 _ (by decide +kernel)) (X.2.2.2.2.1 _ (by decide +kernel)) (X.2.2.2.2.1 _ (by decide +kernel)) rfl (by decide +kernel) ⟨Nat.le_of_ble_eq_true rfl, Nat.le_of_ble_eq_true rfl⟩) rfl (Nat.le_of_ble_eq_true rfl) dX5_init_76 ⟨Nat.le_of_ble_eq_true rfl, Nat.le_of_ble_eq_true rfl⟩ ?_
  refine wb_putF (q := 81) (ci := 7) (kf := 8) (N := 12) (fs := [rf G 82, .int 0, .int 0, rf G 84, rf G 86, rf G 88, rf G 90, .int 0, .null, .int 0, .int 0, .int 0]) (C := RX5) (ref := RX5) (T := TX5) (ty := (.object "ScarecrowRegistry$Row")) X tyX5 tyX5_ok nmX5 (by decide) (by first | rfl | exact hF) rfl (by decide +kernel) (by decide) (by decide +kernel) (fun _ h => h) rfl hname rfl rfl rfl rfl (Nat.le_of_ble_eq_true rfl) dX5_init_79 ?_
  refine wb_aload_n X dX5_init_82 0 rfl ?_
  refine wb_get (q := 81) (ci := 7) (kf := 8) (N := 12) (fs := [rf G 82, .int 0, .int 0, rf G 84, rf G 86, rf G 88, rf G 90, .int 0, rf G 92, .int 0, .int 0, .int 0]) (C := RX5) (ref := RX5) (T := TX5) X (by decide) (by first | rfl | exact hF) rfl (by decide +kernel) (by decide) (fun _ h => h) rfl (by decide +kernel) dX5_init_83 ?_
  refine wb_bipush X (v := 9) dX5_init_86 (by decide) ?_
  refine wb_callV (q := 92) (As := [.int 9]) (st' := []) X (mtX4_fill_b (r := 92) (by decide) (by first | rfl | exact hF) (by first | rfl | exact hF)) (cwV 1 X.2.2.2.2.1 gX5_init_X4_fill rfl rfl rfl (by decide +kernel) ⟨Nat.le_of_ble_eq_true rfl, Nat.le_of_ble_eq_true rfl⟩) (by decide) (by first | rfl | exact hF) rfl rfl (Nat.le_of_ble_eq_true rfl) dX5_init_88 ⟨Nat.le_of_ble_eq_true rfl, Nat.le_of_ble_eq_true rfl⟩ ?_
  refine wb_vret X dX5_init_91 (by decide) (by decide) ?_
  refine Prod.ext rfl (funext fun j => ?_)
  by_cases h : 81 ≤ j ∧ j ≤ 93
  · show (if 81 ≤ j ∧ j ≤ 93 then cel G (S0 G) j else F j) = _
    rw [if_pos h]
    have h2 : j = 81 ∨ j = 82 ∨ j = 83 ∨ j = 84 ∨ j = 85 ∨ j = 86 ∨ j = 87 ∨ j = 88 ∨ j = 89 ∨ j = 90 ∨ j = 91 ∨ j = 92 ∨ j = 93 := by omega
    rcases h2 with rfl | rfl | rfl | rfl | rfl | rfl | rfl | rfl | rfl | rfl | rfl | rfl | rfl <;> rfl
  · show (if 81 ≤ j ∧ j ≤ 93 then cel G (S0 G) j else F j) = _
    rw [if_neg h]
    symm
    repeat' (first | rfl | (refine (ue_ne (by omega)).trans ?_) | (refine (blF_ne (by omega)).trans ?_))
set_option maxHeartbeats 4000000 in
set_option maxRecDepth 100000 in
theorem mtX5_init_94 {l : Launch} {G : Gt}  {F : Nat → va_E} (hF : F 94 = .inr (7, [.null, .int 0, .int 0, .null, .null, .null, .null, .int 0, .null, .int 0, .int 0, .int 0])) : MB l yX5_init wsX5_init { frames := 2, cells := 12, slots := 112, locals := 36 } G (95, F) [rf G 94] (107, blF G 94 106 F) 12 112 := by
  refine MB_of (cc := cX5_init) (own := RX5) (maxL := 1) (ret := none) (by decide +kernel) rfl rfl (Nat.le_of_ble_eq_true rfl) ?_
  intro p e s m args below meth c X hname
  show VB G p l e _ s m args below meth c 1 _ 0 0 95 F 0 [(0, rf G 94)] []
  refine wb_aload_n X dX5_init_0 0 rfl ?_
  refine wb_obj X (by decide +kernel) (by decide +kernel) (by decide +kernel) (Nat.le_of_ble_eq_true rfl) (Nat.le_of_ble_eq_true rfl) dX5_init_1 ?_
  refine wb_aload_n X dX5_init_4 0 rfl ?_
  refine wb_new (ci := 6) (N := 1) (C := RX4) (T := TX4) (fs := [.null]) X (by decide +kernel) tyX4 tyX4_ok (by decide +kernel) (by decide +kernel) (by decide +kernel) rfl dfX4 (Nat.le_of_ble_eq_true rfl) (Nat.le_of_ble_eq_true rfl) dX5_init_5 ?_
  refine wb_dup X dX5_init_8 rfl ?_
  refine wb_bipush X (v := 10) dX5_init_9 (by decide) ?_
  refine wb_callI (q := 95) (As := [.int 10]) (st' := [rf G 95, rf G 94]) X (mtX4_init_10 (r := 95) (by first | rfl | exact hF)) (cwI 1 X.2.2.2.2.1 gX5_init_X4_init rfl rfl rfl (X.2.2.2.2.1 _ (by decide +kernel)) (X.2.2.2.2.1 _ (by decide +kernel)) (X.2.2.2.2.1 _ (by decide +kernel)) rfl (by decide +kernel) ⟨Nat.le_of_ble_eq_true rfl, Nat.le_of_ble_eq_true rfl⟩) rfl (Nat.le_of_ble_eq_true rfl) dX5_init_11 ⟨Nat.le_of_ble_eq_true rfl, Nat.le_of_ble_eq_true rfl⟩ ?_
  refine wb_putF (q := 94) (ci := 7) (kf := 0) (N := 12) (fs := [.null, .int 0, .int 0, .null, .null, .null, .null, .int 0, .null, .int 0, .int 0, .int 0]) (C := RX5) (ref := RX5) (T := TX5) (ty := (.object "ScarecrowRegistry$Row")) X tyX5 tyX5_ok nmX5 (by decide) (by first | rfl | exact hF) rfl (by decide +kernel) (by decide) (by decide +kernel) (fun _ h => h) rfl hname rfl rfl rfl rfl (Nat.le_of_ble_eq_true rfl) dX5_init_14 ?_
  refine wb_aload_n X dX5_init_17 0 rfl ?_
  refine wb_new (ci := 6) (N := 1) (C := RX4) (T := TX4) (fs := [.null]) X (by decide +kernel) tyX4 tyX4_ok (by decide +kernel) (by decide +kernel) (by decide +kernel) rfl dfX4 (Nat.le_of_ble_eq_true rfl) (Nat.le_of_ble_eq_true rfl) dX5_init_18 ?_
  refine wb_dup X dX5_init_21 rfl ?_
  refine wb_bipush X (v := 20) dX5_init_22 (by decide) ?_
  refine wb_callI (q := 97) (As := [.int 20]) (st' := [rf G 97, rf G 94]) X (mtX4_init_20 (r := 97) (by first | rfl | exact hF)) (cwI 1 X.2.2.2.2.1 gX5_init_X4_init rfl rfl rfl (X.2.2.2.2.1 _ (by decide +kernel)) (X.2.2.2.2.1 _ (by decide +kernel)) (X.2.2.2.2.1 _ (by decide +kernel)) rfl (by decide +kernel) ⟨Nat.le_of_ble_eq_true rfl, Nat.le_of_ble_eq_true rfl⟩) rfl (Nat.le_of_ble_eq_true rfl) dX5_init_24 ⟨Nat.le_of_ble_eq_true rfl, Nat.le_of_ble_eq_true rfl⟩ ?_
  refine wb_putF (q := 94) (ci := 7) (kf := 3) (N := 12) (fs := [rf G 95, .int 0, .int 0, .null, .null, .null, .null, .int 0, .null, .int 0, .int 0, .int 0]) (C := RX5) (ref := RX5) (T := TX5) (ty := (.object "ScarecrowRegistry$Row")) X tyX5 tyX5_ok nmX5 (by decide) (by first | rfl | exact hF) rfl (by decide +kernel) (by decide) (by decide +kernel) (fun _ h => h) rfl hname rfl rfl rfl rfl (Nat.le_of_ble_eq_true rfl) dX5_init_27 ?_
  refine wb_aload_n X dX5_init_30 0 rfl ?_
  refine wb_new (ci := 6) (N := 1) (C := RX4) (T := TX4) (fs := [.null]) X (by decide +kernel) tyX4 tyX4_ok (by decide +kernel) (by decide +kernel) (by decide +kernel) rfl dfX4 (Nat.le_of_ble_eq_true rfl) (Nat.le_of_ble_eq_true rfl) dX5_init_31 ?_
  refine wb_dup X dX5_init_34 rfl ?_
  refine wb_bipush X (v := 20) dX5_init_35 (by decide) ?_
  refine wb_callI (q := 99) (As := [.int 20]) (st' := [rf G 99, rf G 94]) X (mtX4_init_20 (r := 99) (by first | rfl | exact hF)) (cwI 1 X.2.2.2.2.1 gX5_init_X4_init rfl rfl rfl (X.2.2.2.2.1 _ (by decide +kernel)) (X.2.2.2.2.1 _ (by decide +kernel)) (X.2.2.2.2.1 _ (by decide +kernel)) rfl (by decide +kernel) ⟨Nat.le_of_ble_eq_true rfl, Nat.le_of_ble_eq_true rfl⟩) rfl (Nat.le_of_ble_eq_true rfl) dX5_init_37 ⟨Nat.le_of_ble_eq_true rfl, Nat.le_of_ble_eq_true rfl⟩ ?_
  refine wb_putF (q := 94) (ci := 7) (kf := 4) (N := 12) (fs := [rf G 95, .int 0, .int 0, rf G 97, .null, .null, .null, .int 0, .null, .int 0, .int 0, .int 0]) (C := RX5) (ref := RX5) (T := TX5) (ty := (.object "ScarecrowRegistry$Row")) X tyX5 tyX5_ok nmX5 (by decide) (by first | rfl | exact hF) rfl (by decide +kernel) (by decide) (by decide +kernel) (fun _ h => h) rfl hname rfl rfl rfl rfl (Nat.le_of_ble_eq_true rfl) dX5_init_40 ?_
  refine wb_aload_n X dX5_init_43 0 rfl ?_
  refine wb_new (ci := 6) (N := 1) (C := RX4) (T := TX4) (fs := [.null]) X (by decide +kernel) tyX4 tyX4_ok (by decide +kernel) (by decide +kernel) (by decide +kernel) rfl dfX4 (Nat.le_of_ble_eq_true rfl) (Nat.le_of_ble_eq_true rfl) dX5_init_44 ?_
  refine wb_dup X dX5_init_47 rfl ?_
  refine wb_bipush X (v := 20) dX5_init_48 (by decide) ?_
  refine wb_callI (q := 101) (As := [.int 20]) (st' := [rf G 101, rf G 94]) X (mtX4_init_20 (r := 101) (by first | rfl | exact hF)) (cwI 1 X.2.2.2.2.1 gX5_init_X4_init rfl rfl rfl (X.2.2.2.2.1 _ (by decide +kernel)) (X.2.2.2.2.1 _ (by decide +kernel)) (X.2.2.2.2.1 _ (by decide +kernel)) rfl (by decide +kernel) ⟨Nat.le_of_ble_eq_true rfl, Nat.le_of_ble_eq_true rfl⟩) rfl (Nat.le_of_ble_eq_true rfl) dX5_init_50 ⟨Nat.le_of_ble_eq_true rfl, Nat.le_of_ble_eq_true rfl⟩ ?_
  refine wb_putF (q := 94) (ci := 7) (kf := 5) (N := 12) (fs := [rf G 95, .int 0, .int 0, rf G 97, rf G 99, .null, .null, .int 0, .null, .int 0, .int 0, .int 0]) (C := RX5) (ref := RX5) (T := TX5) (ty := (.object "ScarecrowRegistry$Row")) X tyX5 tyX5_ok nmX5 (by decide) (by first | rfl | exact hF) rfl (by decide +kernel) (by decide) (by decide +kernel) (fun _ h => h) rfl hname rfl rfl rfl rfl (Nat.le_of_ble_eq_true rfl) dX5_init_53 ?_
  refine wb_aload_n X dX5_init_56 0 rfl ?_
  refine wb_new (ci := 6) (N := 1) (C := RX4) (T := TX4) (fs := [.null]) X (by decide +kernel) tyX4 tyX4_ok (by decide +kernel) (by decide +kernel) (by decide +kernel) rfl dfX4 (Nat.le_of_ble_eq_true rfl) (Nat.le_of_ble_eq_true rfl) dX5_init_57 ?_
  refine wb_dup X dX5_init_60 rfl ?_
  refine wb_bipush X (v := 20) dX5_init_61 (by decide) ?_
  refine wb_callI (q := 103) (As := [.int 20]) (st' := [rf G 103, rf G 94]) X (mtX4_init_20 (r := 103) (by first | rfl | exact hF)) (cwI 1 X.2.2.2.2.1 gX5_init_X4_init rfl rfl rfl (X.2.2.2.2.1 _ (by decide +kernel)) (X.2.2.2.2.1 _ (by decide +kernel)) (X.2.2.2.2.1 _ (by decide +kernel)) rfl (by decide +kernel) ⟨Nat.le_of_ble_eq_true rfl, Nat.le_of_ble_eq_true rfl⟩) rfl (Nat.le_of_ble_eq_true rfl) dX5_init_63 ⟨Nat.le_of_ble_eq_true rfl, Nat.le_of_ble_eq_true rfl⟩ ?_
  refine wb_putF (q := 94) (ci := 7) (kf := 6) (N := 12) (fs := [rf G 95, .int 0, .int 0, rf G 97, rf G 99, rf G 101, .null, .int 0, .null, .int 0, .int 0, .int 0]) (C := RX5) (ref := RX5) (T := TX5) (ty := (.object "ScarecrowRegistry$Row")) X tyX5 tyX5_ok nmX5 (by decide) (by first | rfl | exact hF) rfl (by decide +kernel) (by decide) (by decide +kernel) (fun _ h => h) rfl hname rfl rfl rfl rfl (Nat.le_of_ble_eq_true rfl) dX5_init_66 ?_
  refine wb_aload_n X dX5_init_69 0 rfl ?_
  refine wb_new (ci := 6) (N := 1) (C := RX4) (T := TX4) (fs := [.null]) X (by decide +kernel) tyX4 tyX4_ok (by decide +kernel) (by decide +kernel) (by decide +kernel) rfl dfX4 (Nat.le_of_ble_eq_true rfl) (Nat.le_of_ble_eq_true rfl) dX5_init_70 ?_
  refine wb_dup X dX5_init_73 rfl ?_
  refine wb_bipush X (v := 16) dX5_init_74 (by decide) ?_
  refine wb_callI (q := 105) (As := [.int 16]) (st' := [rf G 105, rf G 94]) X (mtX4_init_16 (r := 105) (by first | rfl | exact hF)) (cwI 1 X.2.2.2.2.1 gX5_init_X4_init rfl rfl rfl (X.2.2.2.2.1 _ (by decide +kernel)) (X.2.2.2.2.1 _ (by decide +kernel)) (X.2.2.2.2.1 _ (by decide +kernel)) rfl (by decide +kernel) ⟨Nat.le_of_ble_eq_true rfl, Nat.le_of_ble_eq_true rfl⟩) rfl (Nat.le_of_ble_eq_true rfl) dX5_init_76 ⟨Nat.le_of_ble_eq_true rfl, Nat.le_of_ble_eq_true rfl⟩ ?_
  refine wb_putF (q := 94) (ci := 7) (kf := 8) (N := 12) (fs := [rf G 95, .int 0, .int 0, rf G 97, rf G 99, rf G 101, rf G 103, .int 0, .null, .int 0, .int 0, .int 0]) (C := RX5) (ref := RX5) (T := TX5) (ty := (.object "ScarecrowRegistry$Row")) X tyX5 tyX5_ok nmX5 (by decide) (by first | rfl | exact hF) rfl (by decide +kernel) (by decide) (by decide +kernel) (fun _ h => h) rfl hname rfl rfl rfl rfl (Nat.le_of_ble_eq_true rfl) dX5_init_79 ?_
  refine wb_aload_n X dX5_init_82 0 rfl ?_
  refine wb_get (q := 94) (ci := 7) (kf := 8) (N := 12) (fs := [rf G 95, .int 0, .int 0, rf G 97, rf G 99, rf G 101, rf G 103, .int 0, rf G 105, .int 0, .int 0, .int 0]) (C := RX5) (ref := RX5) (T := TX5) X (by decide) (by first | rfl | exact hF) rfl (by decide +kernel) (by decide) (fun _ h => h) rfl (by decide +kernel) dX5_init_83 ?_
  refine wb_bipush X (v := 9) dX5_init_86 (by decide) ?_
  refine wb_callV (q := 105) (As := [.int 9]) (st' := []) X (mtX4_fill_b (r := 105) (by decide) (by first | rfl | exact hF) (by first | rfl | exact hF)) (cwV 1 X.2.2.2.2.1 gX5_init_X4_fill rfl rfl rfl (by decide +kernel) ⟨Nat.le_of_ble_eq_true rfl, Nat.le_of_ble_eq_true rfl⟩) (by decide) (by first | rfl | exact hF) rfl rfl (Nat.le_of_ble_eq_true rfl) dX5_init_88 ⟨Nat.le_of_ble_eq_true rfl, Nat.le_of_ble_eq_true rfl⟩ ?_
  refine wb_vret X dX5_init_91 (by decide) (by decide) ?_
  refine Prod.ext rfl (funext fun j => ?_)
  by_cases h : 94 ≤ j ∧ j ≤ 106
  · show (if 94 ≤ j ∧ j ≤ 106 then cel G (S0 G) j else F j) = _
    rw [if_pos h]
    have h2 : j = 94 ∨ j = 95 ∨ j = 96 ∨ j = 97 ∨ j = 98 ∨ j = 99 ∨ j = 100 ∨ j = 101 ∨ j = 102 ∨ j = 103 ∨ j = 104 ∨ j = 105 ∨ j = 106 := by omega
    rcases h2 with rfl | rfl | rfl | rfl | rfl | rfl | rfl | rfl | rfl | rfl | rfl | rfl | rfl <;> rfl
  · show (if 94 ≤ j ∧ j ≤ 106 then cel G (S0 G) j else F j) = _
    rw [if_neg h]
    symm
    repeat' (first | rfl | (refine (ue_ne (by omega)).trans ?_) | (refine (blF_ne (by omega)).trans ?_))
set_option maxHeartbeats 4000000 in
set_option maxRecDepth 100000 in
theorem mtX5_init_107 {l : Launch} {G : Gt}  {F : Nat → va_E} (hF : F 107 = .inr (7, [.null, .int 0, .int 0, .null, .null, .null, .null, .int 0, .null, .int 0, .int 0, .int 0])) : MB l yX5_init wsX5_init { frames := 2, cells := 12, slots := 112, locals := 36 } G (108, F) [rf G 107] (120, blF G 107 119 F) 12 112 := by
  refine MB_of (cc := cX5_init) (own := RX5) (maxL := 1) (ret := none) (by decide +kernel) rfl rfl (Nat.le_of_ble_eq_true rfl) ?_
  intro p e s m args below meth c X hname
  show VB G p l e _ s m args below meth c 1 _ 0 0 108 F 0 [(0, rf G 107)] []
  refine wb_aload_n X dX5_init_0 0 rfl ?_
  refine wb_obj X (by decide +kernel) (by decide +kernel) (by decide +kernel) (Nat.le_of_ble_eq_true rfl) (Nat.le_of_ble_eq_true rfl) dX5_init_1 ?_
  refine wb_aload_n X dX5_init_4 0 rfl ?_
  refine wb_new (ci := 6) (N := 1) (C := RX4) (T := TX4) (fs := [.null]) X (by decide +kernel) tyX4 tyX4_ok (by decide +kernel) (by decide +kernel) (by decide +kernel) rfl dfX4 (Nat.le_of_ble_eq_true rfl) (Nat.le_of_ble_eq_true rfl) dX5_init_5 ?_
  refine wb_dup X dX5_init_8 rfl ?_
  refine wb_bipush X (v := 10) dX5_init_9 (by decide) ?_
  refine wb_callI (q := 108) (As := [.int 10]) (st' := [rf G 108, rf G 107]) X (mtX4_init_10 (r := 108) (by first | rfl | exact hF)) (cwI 1 X.2.2.2.2.1 gX5_init_X4_init rfl rfl rfl (X.2.2.2.2.1 _ (by decide +kernel)) (X.2.2.2.2.1 _ (by decide +kernel)) (X.2.2.2.2.1 _ (by decide +kernel)) rfl (by decide +kernel) ⟨Nat.le_of_ble_eq_true rfl, Nat.le_of_ble_eq_true rfl⟩) rfl (Nat.le_of_ble_eq_true rfl) dX5_init_11 ⟨Nat.le_of_ble_eq_true rfl, Nat.le_of_ble_eq_true rfl⟩ ?_
  refine wb_putF (q := 107) (ci := 7) (kf := 0) (N := 12) (fs := [.null, .int 0, .int 0, .null, .null, .null, .null, .int 0, .null, .int 0, .int 0, .int 0]) (C := RX5) (ref := RX5) (T := TX5) (ty := (.object "ScarecrowRegistry$Row")) X tyX5 tyX5_ok nmX5 (by decide) (by first | rfl | exact hF) rfl (by decide +kernel) (by decide) (by decide +kernel) (fun _ h => h) rfl hname rfl rfl rfl rfl (Nat.le_of_ble_eq_true rfl) dX5_init_14 ?_
  refine wb_aload_n X dX5_init_17 0 rfl ?_
  refine wb_new (ci := 6) (N := 1) (C := RX4) (T := TX4) (fs := [.null]) X (by decide +kernel) tyX4 tyX4_ok (by decide +kernel) (by decide +kernel) (by decide +kernel) rfl dfX4 (Nat.le_of_ble_eq_true rfl) (Nat.le_of_ble_eq_true rfl) dX5_init_18 ?_
  refine wb_dup X dX5_init_21 rfl ?_
  refine wb_bipush X (v := 20) dX5_init_22 (by decide) ?_
  refine wb_callI (q := 110) (As := [.int 20]) (st' := [rf G 110, rf G 107]) X (mtX4_init_20 (r := 110) (by first | rfl | exact hF)) (cwI 1 X.2.2.2.2.1 gX5_init_X4_init rfl rfl rfl (X.2.2.2.2.1 _ (by decide +kernel)) (X.2.2.2.2.1 _ (by decide +kernel)) (X.2.2.2.2.1 _ (by decide +kernel)) rfl (by decide +kernel) ⟨Nat.le_of_ble_eq_true rfl, Nat.le_of_ble_eq_true rfl⟩) rfl (Nat.le_of_ble_eq_true rfl) dX5_init_24 ⟨Nat.le_of_ble_eq_true rfl, Nat.le_of_ble_eq_true rfl⟩ ?_
  refine wb_putF (q := 107) (ci := 7) (kf := 3) (N := 12) (fs := [rf G 108, .int 0, .int 0, .null, .null, .null, .null, .int 0, .null, .int 0, .int 0, .int 0]) (C := RX5) (ref := RX5) (T := TX5) (ty := (.object "ScarecrowRegistry$Row")) X tyX5 tyX5_ok nmX5 (by decide) (by first | rfl | exact hF) rfl (by decide +kernel) (by decide) (by decide +kernel) (fun _ h => h) rfl hname rfl rfl rfl rfl (Nat.le_of_ble_eq_true rfl) dX5_init_27 ?_
  refine wb_aload_n X dX5_init_30 0 rfl ?_
  refine wb_new (ci := 6) (N := 1) (C := RX4) (T := TX4) (fs := [.null]) X (by decide +kernel) tyX4 tyX4_ok (by decide +kernel) (by decide +kernel) (by decide +kernel) rfl dfX4 (Nat.le_of_ble_eq_true rfl) (Nat.le_of_ble_eq_true rfl) dX5_init_31 ?_
  refine wb_dup X dX5_init_34 rfl ?_
  refine wb_bipush X (v := 20) dX5_init_35 (by decide) ?_
  refine wb_callI (q := 112) (As := [.int 20]) (st' := [rf G 112, rf G 107]) X (mtX4_init_20 (r := 112) (by first | rfl | exact hF)) (cwI 1 X.2.2.2.2.1 gX5_init_X4_init rfl rfl rfl (X.2.2.2.2.1 _ (by decide +kernel)) (X.2.2.2.2.1 _ (by decide +kernel)) (X.2.2.2.2.1 _ (by decide +kernel)) rfl (by decide +kernel) ⟨Nat.le_of_ble_eq_true rfl, Nat.le_of_ble_eq_true rfl⟩) rfl (Nat.le_of_ble_eq_true rfl) dX5_init_37 ⟨Nat.le_of_ble_eq_true rfl, Nat.le_of_ble_eq_true rfl⟩ ?_
  refine wb_putF (q := 107) (ci := 7) (kf := 4) (N := 12) (fs := [rf G 108, .int 0, .int 0, rf G 110, .null, .null, .null, .int 0, .null, .int 0, .int 0, .int 0]) (C := RX5) (ref := RX5) (T := TX5) (ty := (.object "ScarecrowRegistry$Row")) X tyX5 tyX5_ok nmX5 (by decide) (by first | rfl | exact hF) rfl (by decide +kernel) (by decide) (by decide +kernel) (fun _ h => h) rfl hname rfl rfl rfl rfl (Nat.le_of_ble_eq_true rfl) dX5_init_40 ?_
  refine wb_aload_n X dX5_init_43 0 rfl ?_
  refine wb_new (ci := 6) (N := 1) (C := RX4) (T := TX4) (fs := [.null]) X (by decide +kernel) tyX4 tyX4_ok (by decide +kernel) (by decide +kernel) (by decide +kernel) rfl dfX4 (Nat.le_of_ble_eq_true rfl) (Nat.le_of_ble_eq_true rfl) dX5_init_44 ?_
  refine wb_dup X dX5_init_47 rfl ?_
  refine wb_bipush X (v := 20) dX5_init_48 (by decide) ?_
  refine wb_callI (q := 114) (As := [.int 20]) (st' := [rf G 114, rf G 107]) X (mtX4_init_20 (r := 114) (by first | rfl | exact hF)) (cwI 1 X.2.2.2.2.1 gX5_init_X4_init rfl rfl rfl (X.2.2.2.2.1 _ (by decide +kernel)) (X.2.2.2.2.1 _ (by decide +kernel)) (X.2.2.2.2.1 _ (by decide +kernel)) rfl (by decide +kernel) ⟨Nat.le_of_ble_eq_true rfl, Nat.le_of_ble_eq_true rfl⟩) rfl (Nat.le_of_ble_eq_true rfl) dX5_init_50 ⟨Nat.le_of_ble_eq_true rfl, Nat.le_of_ble_eq_true rfl⟩ ?_
  refine wb_putF (q := 107) (ci := 7) (kf := 5) (N := 12) (fs := [rf G 108, .int 0, .int 0, rf G 110, rf G 112, .null, .null, .int 0, .null, .int 0, .int 0, .int 0]) (C := RX5) (ref := RX5) (T := TX5) (ty := (.object "ScarecrowRegistry$Row")) X tyX5 tyX5_ok nmX5 (by decide) (by first | rfl | exact hF) rfl (by decide +kernel) (by decide) (by decide +kernel) (fun _ h => h) rfl hname rfl rfl rfl rfl (Nat.le_of_ble_eq_true rfl) dX5_init_53 ?_
  refine wb_aload_n X dX5_init_56 0 rfl ?_
  refine wb_new (ci := 6) (N := 1) (C := RX4) (T := TX4) (fs := [.null]) X (by decide +kernel) tyX4 tyX4_ok (by decide +kernel) (by decide +kernel) (by decide +kernel) rfl dfX4 (Nat.le_of_ble_eq_true rfl) (Nat.le_of_ble_eq_true rfl) dX5_init_57 ?_
  refine wb_dup X dX5_init_60 rfl ?_
  refine wb_bipush X (v := 20) dX5_init_61 (by decide) ?_
  refine wb_callI (q := 116) (As := [.int 20]) (st' := [rf G 116, rf G 107]) X (mtX4_init_20 (r := 116) (by first | rfl | exact hF)) (cwI 1 X.2.2.2.2.1 gX5_init_X4_init rfl rfl rfl (X.2.2.2.2.1 _ (by decide +kernel)) (X.2.2.2.2.1 _ (by decide +kernel)) (X.2.2.2.2.1 _ (by decide +kernel)) rfl (by decide +kernel) ⟨Nat.le_of_ble_eq_true rfl, Nat.le_of_ble_eq_true rfl⟩) rfl (Nat.le_of_ble_eq_true rfl) dX5_init_63 ⟨Nat.le_of_ble_eq_true rfl, Nat.le_of_ble_eq_true rfl⟩ ?_
  refine wb_putF (q := 107) (ci := 7) (kf := 6) (N := 12) (fs := [rf G 108, .int 0, .int 0, rf G 110, rf G 112, rf G 114, .null, .int 0, .null, .int 0, .int 0, .int 0]) (C := RX5) (ref := RX5) (T := TX5) (ty := (.object "ScarecrowRegistry$Row")) X tyX5 tyX5_ok nmX5 (by decide) (by first | rfl | exact hF) rfl (by decide +kernel) (by decide) (by decide +kernel) (fun _ h => h) rfl hname rfl rfl rfl rfl (Nat.le_of_ble_eq_true rfl) dX5_init_66 ?_
  refine wb_aload_n X dX5_init_69 0 rfl ?_
  refine wb_new (ci := 6) (N := 1) (C := RX4) (T := TX4) (fs := [.null]) X (by decide +kernel) tyX4 tyX4_ok (by decide +kernel) (by decide +kernel) (by decide +kernel) rfl dfX4 (Nat.le_of_ble_eq_true rfl) (Nat.le_of_ble_eq_true rfl) dX5_init_70 ?_
  refine wb_dup X dX5_init_73 rfl ?_
  refine wb_bipush X (v := 16) dX5_init_74 (by decide) ?_
  refine wb_callI (q := 118) (As := [.int 16]) (st' := [rf G 118, rf G 107]) X (mtX4_init_16 (r := 118) (by first | rfl | exact hF)) (cwI 1 X.2.2.2.2.1 gX5_init_X4_init rfl rfl rfl (X.2.2.2.2.1 _ (by decide +kernel)) (X.2.2.2.2.1 _ (by decide +kernel)) (X.2.2.2.2.1 _ (by decide +kernel)) rfl (by decide +kernel) ⟨Nat.le_of_ble_eq_true rfl, Nat.le_of_ble_eq_true rfl⟩) rfl (Nat.le_of_ble_eq_true rfl) dX5_init_76 ⟨Nat.le_of_ble_eq_true rfl, Nat.le_of_ble_eq_true rfl⟩ ?_
  refine wb_putF (q := 107) (ci := 7) (kf := 8) (N := 12) (fs := [rf G 108, .int 0, .int 0, rf G 110, rf G 112, rf G 114, rf G 116, .int 0, .null, .int 0, .int 0, .int 0]) (C := RX5) (ref := RX5) (T := TX5) (ty := (.object "ScarecrowRegistry$Row")) X tyX5 tyX5_ok nmX5 (by decide) (by first | rfl | exact hF) rfl (by decide +kernel) (by decide) (by decide +kernel) (fun _ h => h) rfl hname rfl rfl rfl rfl (Nat.le_of_ble_eq_true rfl) dX5_init_79 ?_
  refine wb_aload_n X dX5_init_82 0 rfl ?_
  refine wb_get (q := 107) (ci := 7) (kf := 8) (N := 12) (fs := [rf G 108, .int 0, .int 0, rf G 110, rf G 112, rf G 114, rf G 116, .int 0, rf G 118, .int 0, .int 0, .int 0]) (C := RX5) (ref := RX5) (T := TX5) X (by decide) (by first | rfl | exact hF) rfl (by decide +kernel) (by decide) (fun _ h => h) rfl (by decide +kernel) dX5_init_83 ?_
  refine wb_bipush X (v := 9) dX5_init_86 (by decide) ?_
  refine wb_callV (q := 118) (As := [.int 9]) (st' := []) X (mtX4_fill_b (r := 118) (by decide) (by first | rfl | exact hF) (by first | rfl | exact hF)) (cwV 1 X.2.2.2.2.1 gX5_init_X4_fill rfl rfl rfl (by decide +kernel) ⟨Nat.le_of_ble_eq_true rfl, Nat.le_of_ble_eq_true rfl⟩) (by decide) (by first | rfl | exact hF) rfl rfl (Nat.le_of_ble_eq_true rfl) dX5_init_88 ⟨Nat.le_of_ble_eq_true rfl, Nat.le_of_ble_eq_true rfl⟩ ?_
  refine wb_vret X dX5_init_91 (by decide) (by decide) ?_
  refine Prod.ext rfl (funext fun j => ?_)
  by_cases h : 107 ≤ j ∧ j ≤ 119
  · show (if 107 ≤ j ∧ j ≤ 119 then cel G (S0 G) j else F j) = _
    rw [if_pos h]
    have h2 : j = 107 ∨ j = 108 ∨ j = 109 ∨ j = 110 ∨ j = 111 ∨ j = 112 ∨ j = 113 ∨ j = 114 ∨ j = 115 ∨ j = 116 ∨ j = 117 ∨ j = 118 ∨ j = 119 := by omega
    rcases h2 with rfl | rfl | rfl | rfl | rfl | rfl | rfl | rfl | rfl | rfl | rfl | rfl | rfl <;> rfl
  · show (if 107 ≤ j ∧ j ≤ 119 then cel G (S0 G) j else F j) = _
    rw [if_neg h]
    symm
    repeat' (first | rfl | (refine (ue_ne (by omega)).trans ?_) | (refine (blF_ne (by omega)).trans ?_))
set_option maxHeartbeats 4000000 in
set_option maxRecDepth 100000 in
theorem mtX5_init_120 {l : Launch} {G : Gt}  {F : Nat → va_E} (hF : F 120 = .inr (7, [.null, .int 0, .int 0, .null, .null, .null, .null, .int 0, .null, .int 0, .int 0, .int 0])) : MB l yX5_init wsX5_init { frames := 2, cells := 12, slots := 112, locals := 36 } G (121, F) [rf G 120] (133, blF G 120 132 F) 12 112 := by
  refine MB_of (cc := cX5_init) (own := RX5) (maxL := 1) (ret := none) (by decide +kernel) rfl rfl (Nat.le_of_ble_eq_true rfl) ?_
  intro p e s m args below meth c X hname
  show VB G p l e _ s m args below meth c 1 _ 0 0 121 F 0 [(0, rf G 120)] []
  refine wb_aload_n X dX5_init_0 0 rfl ?_
  refine wb_obj X (by decide +kernel) (by decide +kernel) (by decide +kernel) (Nat.le_of_ble_eq_true rfl) (Nat.le_of_ble_eq_true rfl) dX5_init_1 ?_
  refine wb_aload_n X dX5_init_4 0 rfl ?_
  refine wb_new (ci := 6) (N := 1) (C := RX4) (T := TX4) (fs := [.null]) X (by decide +kernel) tyX4 tyX4_ok (by decide +kernel) (by decide +kernel) (by decide +kernel) rfl dfX4 (Nat.le_of_ble_eq_true rfl) (Nat.le_of_ble_eq_true rfl) dX5_init_5 ?_
  refine wb_dup X dX5_init_8 rfl ?_
  refine wb_bipush X (v := 10) dX5_init_9 (by decide) ?_
  refine wb_callI (q := 121) (As := [.int 10]) (st' := [rf G 121, rf G 120]) X (mtX4_init_10 (r := 121) (by first | rfl | exact hF)) (cwI 1 X.2.2.2.2.1 gX5_init_X4_init rfl rfl rfl (X.2.2.2.2.1 _ (by decide +kernel)) (X.2.2.2.2.1 _ (by decide +kernel)) (X.2.2.2.2.1 _ (by decide +kernel)) rfl (by decide +kernel) ⟨Nat.le_of_ble_eq_true rfl, Nat.le_of_ble_eq_true rfl⟩) rfl (Nat.le_of_ble_eq_true rfl) dX5_init_11 ⟨Nat.le_of_ble_eq_true rfl, Nat.le_of_ble_eq_true rfl⟩ ?_
  refine wb_putF (q := 120) (ci := 7) (kf := 0) (N := 12) (fs := [.null, .int 0, .int 0, .null, .null, .null, .null, .int 0, .null, .int 0, .int 0, .int 0]) (C := RX5) (ref := RX5) (T := TX5) (ty := (.object "ScarecrowRegistry$Row")) X tyX5 tyX5_ok nmX5 (by decide) (by first | rfl | exact hF) rfl (by decide +kernel) (by decide) (by decide +kernel) (fun _ h => h) rfl hname rfl rfl rfl rfl (Nat.le_of_ble_eq_true rfl) dX5_init_14 ?_
  refine wb_aload_n X dX5_init_17 0 rfl ?_
  refine wb_new (ci := 6) (N := 1) (C := RX4) (T := TX4) (fs := [.null]) X (by decide +kernel) tyX4 tyX4_ok (by decide +kernel) (by decide +kernel) (by decide +kernel) rfl dfX4 (Nat.le_of_ble_eq_true rfl) (Nat.le_of_ble_eq_true rfl) dX5_init_18 ?_
  refine wb_dup X dX5_init_21 rfl ?_
  refine wb_bipush X (v := 20) dX5_init_22 (by decide) ?_
  refine wb_callI (q := 123) (As := [.int 20]) (st' := [rf G 123, rf G 120]) X (mtX4_init_20 (r := 123) (by first | rfl | exact hF)) (cwI 1 X.2.2.2.2.1 gX5_init_X4_init rfl rfl rfl (X.2.2.2.2.1 _ (by decide +kernel)) (X.2.2.2.2.1 _ (by decide +kernel)) (X.2.2.2.2.1 _ (by decide +kernel)) rfl (by decide +kernel) ⟨Nat.le_of_ble_eq_true rfl, Nat.le_of_ble_eq_true rfl⟩) rfl (Nat.le_of_ble_eq_true rfl) dX5_init_24 ⟨Nat.le_of_ble_eq_true rfl, Nat.le_of_ble_eq_true rfl⟩ ?_
  refine wb_putF (q := 120) (ci := 7) (kf := 3) (N := 12) (fs := [rf G 121, .int 0, .int 0, .null, .null, .null, .null, .int 0, .null, .int 0, .int 0, .int 0]) (C := RX5) (ref := RX5) (T := TX5) (ty := (.object "ScarecrowRegistry$Row")) X tyX5 tyX5_ok nmX5 (by decide) (by first | rfl | exact hF) rfl (by decide +kernel) (by decide) (by decide +kernel) (fun _ h => h) rfl hname rfl rfl rfl rfl (Nat.le_of_ble_eq_true rfl) dX5_init_27 ?_
  refine wb_aload_n X dX5_init_30 0 rfl ?_
  refine wb_new (ci := 6) (N := 1) (C := RX4) (T := TX4) (fs := [.null]) X (by decide +kernel) tyX4 tyX4_ok (by decide +kernel) (by decide +kernel) (by decide +kernel) rfl dfX4 (Nat.le_of_ble_eq_true rfl) (Nat.le_of_ble_eq_true rfl) dX5_init_31 ?_
  refine wb_dup X dX5_init_34 rfl ?_
  refine wb_bipush X (v := 20) dX5_init_35 (by decide) ?_
  refine wb_callI (q := 125) (As := [.int 20]) (st' := [rf G 125, rf G 120]) X (mtX4_init_20 (r := 125) (by first | rfl | exact hF)) (cwI 1 X.2.2.2.2.1 gX5_init_X4_init rfl rfl rfl (X.2.2.2.2.1 _ (by decide +kernel)) (X.2.2.2.2.1 _ (by decide +kernel)) (X.2.2.2.2.1 _ (by decide +kernel)) rfl (by decide +kernel) ⟨Nat.le_of_ble_eq_true rfl, Nat.le_of_ble_eq_true rfl⟩) rfl (Nat.le_of_ble_eq_true rfl) dX5_init_37 ⟨Nat.le_of_ble_eq_true rfl, Nat.le_of_ble_eq_true rfl⟩ ?_
  refine wb_putF (q := 120) (ci := 7) (kf := 4) (N := 12) (fs := [rf G 121, .int 0, .int 0, rf G 123, .null, .null, .null, .int 0, .null, .int 0, .int 0, .int 0]) (C := RX5) (ref := RX5) (T := TX5) (ty := (.object "ScarecrowRegistry$Row")) X tyX5 tyX5_ok nmX5 (by decide) (by first | rfl | exact hF) rfl (by decide +kernel) (by decide) (by decide +kernel) (fun _ h => h) rfl hname rfl rfl rfl rfl (Nat.le_of_ble_eq_true rfl) dX5_init_40 ?_
  refine wb_aload_n X dX5_init_43 0 rfl ?_
  refine wb_new (ci := 6) (N := 1) (C := RX4) (T := TX4) (fs := [.null]) X (by decide +kernel) tyX4 tyX4_ok (by decide +kernel) (by decide +kernel) (by decide +kernel) rfl dfX4 (Nat.le_of_ble_eq_true rfl) (Nat.le_of_ble_eq_true rfl) dX5_init_44 ?_
  refine wb_dup X dX5_init_47 rfl ?_
  refine wb_bipush X (v := 20) dX5_init_48 (by decide) ?_
  refine wb_callI (q := 127) (As := [.int 20]) (st' := [rf G 127, rf G 120]) X (mtX4_init_20 (r := 127) (by first | rfl | exact hF)) (cwI 1 X.2.2.2.2.1 gX5_init_X4_init rfl rfl rfl (X.2.2.2.2.1 _ (by decide +kernel)) (X.2.2.2.2.1 _ (by decide +kernel)) (X.2.2.2.2.1 _ (by decide +kernel)) rfl (by decide +kernel) ⟨Nat.le_of_ble_eq_true rfl, Nat.le_of_ble_eq_true rfl⟩) rfl (Nat.le_of_ble_eq_true rfl) dX5_init_50 ⟨Nat.le_of_ble_eq_true rfl, Nat.le_of_ble_eq_true rfl⟩ ?_
  refine wb_putF (q := 120) (ci := 7) (kf := 5) (N := 12) (fs := [rf G 121, .int 0, .int 0, rf G 123, rf G 125, .null, .null, .int 0, .null, .int 0, .int 0, .int 0]) (C := RX5) (ref := RX5) (T := TX5) (ty := (.object "ScarecrowRegistry$Row")) X tyX5 tyX5_ok nmX5 (by decide) (by first | rfl | exact hF) rfl (by decide +kernel) (by decide) (by decide +kernel) (fun _ h => h) rfl hname rfl rfl rfl rfl (Nat.le_of_ble_eq_true rfl) dX5_init_53 ?_
  refine wb_aload_n X dX5_init_56 0 rfl ?_
  refine wb_new (ci := 6) (N := 1) (C := RX4) (T := TX4) (fs := [.null]) X (by decide +kernel) tyX4 tyX4_ok (by decide +kernel) (by decide +kernel) (by decide +kernel) rfl dfX4 (Nat.le_of_ble_eq_true rfl) (Nat.le_of_ble_eq_true rfl) dX5_init_57 ?_
  refine wb_dup X dX5_init_60 rfl ?_
  refine wb_bipush X (v := 20) dX5_init_61 (by decide) ?_
  refine wb_callI (q := 129) (As := [.int 20]) (st' := [rf G 129, rf G 120]) X (mtX4_init_20 (r := 129) (by first | rfl | exact hF)) (cwI 1 X.2.2.2.2.1 gX5_init_X4_init rfl rfl rfl (X.2.2.2.2.1 _ (by decide +kernel)) (X.2.2.2.2.1 _ (by decide +kernel)) (X.2.2.2.2.1 _ (by decide +kernel)) rfl (by decide +kernel) ⟨Nat.le_of_ble_eq_true rfl, Nat.le_of_ble_eq_true rfl⟩) rfl (Nat.le_of_ble_eq_true rfl) dX5_init_63 ⟨Nat.le_of_ble_eq_true rfl, Nat.le_of_ble_eq_true rfl⟩ ?_
  refine wb_putF (q := 120) (ci := 7) (kf := 6) (N := 12) (fs := [rf G 121, .int 0, .int 0, rf G 123, rf G 125, rf G 127, .null, .int 0, .null, .int 0, .int 0, .int 0]) (C := RX5) (ref := RX5) (T := TX5) (ty := (.object "ScarecrowRegistry$Row")) X tyX5 tyX5_ok nmX5 (by decide) (by first | rfl | exact hF) rfl (by decide +kernel) (by decide) (by decide +kernel) (fun _ h => h) rfl hname rfl rfl rfl rfl (Nat.le_of_ble_eq_true rfl) dX5_init_66 ?_
  refine wb_aload_n X dX5_init_69 0 rfl ?_
  refine wb_new (ci := 6) (N := 1) (C := RX4) (T := TX4) (fs := [.null]) X (by decide +kernel) tyX4 tyX4_ok (by decide +kernel) (by decide +kernel) (by decide +kernel) rfl dfX4 (Nat.le_of_ble_eq_true rfl) (Nat.le_of_ble_eq_true rfl) dX5_init_70 ?_
  refine wb_dup X dX5_init_73 rfl ?_
  refine wb_bipush X (v := 16) dX5_init_74 (by decide) ?_
  refine wb_callI (q := 131) (As := [.int 16]) (st' := [rf G 131, rf G 120]) X (mtX4_init_16 (r := 131) (by first | rfl | exact hF)) (cwI 1 X.2.2.2.2.1 gX5_init_X4_init rfl rfl rfl (X.2.2.2.2.1 _ (by decide +kernel)) (X.2.2.2.2.1 _ (by decide +kernel)) (X.2.2.2.2.1 _ (by decide +kernel)) rfl (by decide +kernel) ⟨Nat.le_of_ble_eq_true rfl, Nat.le_of_ble_eq_true rfl⟩) rfl (Nat.le_of_ble_eq_true rfl) dX5_init_76 ⟨Nat.le_of_ble_eq_true rfl, Nat.le_of_ble_eq_true rfl⟩ ?_
  refine wb_putF (q := 120) (ci := 7) (kf := 8) (N := 12) (fs := [rf G 121, .int 0, .int 0, rf G 123, rf G 125, rf G 127, rf G 129, .int 0, .null, .int 0, .int 0, .int 0]) (C := RX5) (ref := RX5) (T := TX5) (ty := (.object "ScarecrowRegistry$Row")) X tyX5 tyX5_ok nmX5 (by decide) (by first | rfl | exact hF) rfl (by decide +kernel) (by decide) (by decide +kernel) (fun _ h => h) rfl hname rfl rfl rfl rfl (Nat.le_of_ble_eq_true rfl) dX5_init_79 ?_
  refine wb_aload_n X dX5_init_82 0 rfl ?_
  refine wb_get (q := 120) (ci := 7) (kf := 8) (N := 12) (fs := [rf G 121, .int 0, .int 0, rf G 123, rf G 125, rf G 127, rf G 129, .int 0, rf G 131, .int 0, .int 0, .int 0]) (C := RX5) (ref := RX5) (T := TX5) X (by decide) (by first | rfl | exact hF) rfl (by decide +kernel) (by decide) (fun _ h => h) rfl (by decide +kernel) dX5_init_83 ?_
  refine wb_bipush X (v := 9) dX5_init_86 (by decide) ?_
  refine wb_callV (q := 131) (As := [.int 9]) (st' := []) X (mtX4_fill_b (r := 131) (by decide) (by first | rfl | exact hF) (by first | rfl | exact hF)) (cwV 1 X.2.2.2.2.1 gX5_init_X4_fill rfl rfl rfl (by decide +kernel) ⟨Nat.le_of_ble_eq_true rfl, Nat.le_of_ble_eq_true rfl⟩) (by decide) (by first | rfl | exact hF) rfl rfl (Nat.le_of_ble_eq_true rfl) dX5_init_88 ⟨Nat.le_of_ble_eq_true rfl, Nat.le_of_ble_eq_true rfl⟩ ?_
  refine wb_vret X dX5_init_91 (by decide) (by decide) ?_
  refine Prod.ext rfl (funext fun j => ?_)
  by_cases h : 120 ≤ j ∧ j ≤ 132
  · show (if 120 ≤ j ∧ j ≤ 132 then cel G (S0 G) j else F j) = _
    rw [if_pos h]
    have h2 : j = 120 ∨ j = 121 ∨ j = 122 ∨ j = 123 ∨ j = 124 ∨ j = 125 ∨ j = 126 ∨ j = 127 ∨ j = 128 ∨ j = 129 ∨ j = 130 ∨ j = 131 ∨ j = 132 := by omega
    rcases h2 with rfl | rfl | rfl | rfl | rfl | rfl | rfl | rfl | rfl | rfl | rfl | rfl | rfl <;> rfl
  · show (if 120 ≤ j ∧ j ≤ 132 then cel G (S0 G) j else F j) = _
    rw [if_neg h]
    symm
    repeat' (first | rfl | (refine (ue_ne (by omega)).trans ?_) | (refine (blF_ne (by omega)).trans ?_))
set_option maxHeartbeats 4000000 in
set_option maxRecDepth 100000 in
theorem mtX5_init_133 {l : Launch} {G : Gt}  {F : Nat → va_E} (hF : F 133 = .inr (7, [.null, .int 0, .int 0, .null, .null, .null, .null, .int 0, .null, .int 0, .int 0, .int 0])) : MB l yX5_init wsX5_init { frames := 2, cells := 12, slots := 112, locals := 36 } G (134, F) [rf G 133] (146, blF G 133 145 F) 12 112 := by
  refine MB_of (cc := cX5_init) (own := RX5) (maxL := 1) (ret := none) (by decide +kernel) rfl rfl (Nat.le_of_ble_eq_true rfl) ?_
  intro p e s m args below meth c X hname
  show VB G p l e _ s m args below meth c 1 _ 0 0 134 F 0 [(0, rf G 133)] []
  refine wb_aload_n X dX5_init_0 0 rfl ?_
  refine wb_obj X (by decide +kernel) (by decide +kernel) (by decide +kernel) (Nat.le_of_ble_eq_true rfl) (Nat.le_of_ble_eq_true rfl) dX5_init_1 ?_
  refine wb_aload_n X dX5_init_4 0 rfl ?_
  refine wb_new (ci := 6) (N := 1) (C := RX4) (T := TX4) (fs := [.null]) X (by decide +kernel) tyX4 tyX4_ok (by decide +kernel) (by decide +kernel) (by decide +kernel) rfl dfX4 (Nat.le_of_ble_eq_true rfl) (Nat.le_of_ble_eq_true rfl) dX5_init_5 ?_
  refine wb_dup X dX5_init_8 rfl ?_
  refine wb_bipush X (v := 10) dX5_init_9 (by decide) ?_
  refine wb_callI (q := 134) (As := [.int 10]) (st' := [rf G 134, rf G 133]) X (mtX4_init_10 (r := 134) (by first | rfl | exact hF)) (cwI 1 X.2.2.2.2.1 gX5_init_X4_init rfl rfl rfl (X.2.2.2.2.1 _ (by decide +kernel)) (X.2.2.2.2.1 _ (by decide +kernel)) (X.2.2.2.2.1 _ (by decide +kernel)) rfl (by decide +kernel) ⟨Nat.le_of_ble_eq_true rfl, Nat.le_of_ble_eq_true rfl⟩) rfl (Nat.le_of_ble_eq_true rfl) dX5_init_11 ⟨Nat.le_of_ble_eq_true rfl, Nat.le_of_ble_eq_true rfl⟩ ?_
  refine wb_putF (q := 133) (ci := 7) (kf := 0) (N := 12) (fs := [.null, .int 0, .int 0, .null, .null, .null, .null, .int 0, .null, .int 0, .int 0, .int 0]) (C := RX5) (ref := RX5) (T := TX5) (ty := (.object "ScarecrowRegistry$Row")) X tyX5 tyX5_ok nmX5 (by decide) (by first | rfl | exact hF) rfl (by decide +kernel) (by decide) (by decide +kernel) (fun _ h => h) rfl hname rfl rfl rfl rfl (Nat.le_of_ble_eq_true rfl) dX5_init_14 ?_
  refine wb_aload_n X dX5_init_17 0 rfl ?_
  refine wb_new (ci := 6) (N := 1) (C := RX4) (T := TX4) (fs := [.null]) X (by decide +kernel) tyX4 tyX4_ok (by decide +kernel) (by decide +kernel) (by decide +kernel) rfl dfX4 (Nat.le_of_ble_eq_true rfl) (Nat.le_of_ble_eq_true rfl) dX5_init_18 ?_
  refine wb_dup X dX5_init_21 rfl ?_
  refine wb_bipush X (v := 20) dX5_init_22 (by decide) ?_
  refine wb_callI (q := 136) (As := [.int 20]) (st' := [rf G 136, rf G 133]) X (mtX4_init_20 (r := 136) (by first | rfl | exact hF)) (cwI 1 X.2.2.2.2.1 gX5_init_X4_init rfl rfl rfl (X.2.2.2.2.1 _ (by decide +kernel)) (X.2.2.2.2.1 _ (by decide +kernel)) (X.2.2.2.2.1 _ (by decide +kernel)) rfl (by decide +kernel) ⟨Nat.le_of_ble_eq_true rfl, Nat.le_of_ble_eq_true rfl⟩) rfl (Nat.le_of_ble_eq_true rfl) dX5_init_24 ⟨Nat.le_of_ble_eq_true rfl, Nat.le_of_ble_eq_true rfl⟩ ?_
  refine wb_putF (q := 133) (ci := 7) (kf := 3) (N := 12) (fs := [rf G 134, .int 0, .int 0, .null, .null, .null, .null, .int 0, .null, .int 0, .int 0, .int 0]) (C := RX5) (ref := RX5) (T := TX5) (ty := (.object "ScarecrowRegistry$Row")) X tyX5 tyX5_ok nmX5 (by decide) (by first | rfl | exact hF) rfl (by decide +kernel) (by decide) (by decide +kernel) (fun _ h => h) rfl hname rfl rfl rfl rfl (Nat.le_of_ble_eq_true rfl) dX5_init_27 ?_
  refine wb_aload_n X dX5_init_30 0 rfl ?_
  refine wb_new (ci := 6) (N := 1) (C := RX4) (T := TX4) (fs := [.null]) X (by decide +kernel) tyX4 tyX4_ok (by decide +kernel) (by decide +kernel) (by decide +kernel) rfl dfX4 (Nat.le_of_ble_eq_true rfl) (Nat.le_of_ble_eq_true rfl) dX5_init_31 ?_
  refine wb_dup X dX5_init_34 rfl ?_
  refine wb_bipush X (v := 20) dX5_init_35 (by decide) ?_
  refine wb_callI (q := 138) (As := [.int 20]) (st' := [rf G 138, rf G 133]) X (mtX4_init_20 (r := 138) (by first | rfl | exact hF)) (cwI 1 X.2.2.2.2.1 gX5_init_X4_init rfl rfl rfl (X.2.2.2.2.1 _ (by decide +kernel)) (X.2.2.2.2.1 _ (by decide +kernel)) (X.2.2.2.2.1 _ (by decide +kernel)) rfl (by decide +kernel) ⟨Nat.le_of_ble_eq_true rfl, Nat.le_of_ble_eq_true rfl⟩) rfl (Nat.le_of_ble_eq_true rfl) dX5_init_37 ⟨Nat.le_of_ble_eq_true rfl, Nat.le_of_ble_eq_true rfl⟩ ?_
  refine wb_putF (q := 133) (ci := 7) (kf := 4) (N := 12) (fs := [rf G 134, .int 0, .int 0, rf G 136, .null, .null, .null, .int 0, .null, .int 0, .int 0, .int 0]) (C := RX5) (ref := RX5) (T := TX5) (ty := (.object "ScarecrowRegistry$Row")) X tyX5 tyX5_ok nmX5 (by decide) (by first | rfl | exact hF) rfl (by decide +kernel) (by decide) (by decide +kernel) (fun _ h => h) rfl hname rfl rfl rfl rfl (Nat.le_of_ble_eq_true rfl) dX5_init_40 ?_
  refine wb_aload_n X dX5_init_43 0 rfl ?_
  refine wb_new (ci := 6) (N := 1) (C := RX4) (T := TX4) (fs := [.null]) X (by decide +kernel) tyX4 tyX4_ok (by decide +kernel) (by decide +kernel) (by decide +kernel) rfl dfX4 (Nat.le_of_ble_eq_true rfl) (Nat.le_of_ble_eq_true rfl) dX5_init_44 ?_
  refine wb_dup X dX5_init_47 rfl ?_
  refine wb_bipush X (v := 20) dX5_init_48 (by decide) ?_
  refine wb_callI (q := 140) (As := [.int 20]) (st' := [rf G 140, rf G 133]) X (mtX4_init_20 (r := 140) (by first | rfl | exact hF)) (cwI 1 X.2.2.2.2.1 gX5_init_X4_init rfl rfl rfl (X.2.2.2.2.1 _ (by decide +kernel)) (X.2.2.2.2.1 _ (by decide +kernel)) (X.2.2.2.2.1 _ (by decide +kernel)) rfl (by decide +kernel) ⟨Nat.le_of_ble_eq_true rfl, Nat.le_of_ble_eq_true rfl⟩) rfl (Nat.le_of_ble_eq_true rfl) dX5_init_50 ⟨Nat.le_of_ble_eq_true rfl, Nat.le_of_ble_eq_true rfl⟩ ?_
  refine wb_putF (q := 133) (ci := 7) (kf := 5) (N := 12) (fs := [rf G 134, .int 0, .int 0, rf G 136, rf G 138, .null, .null, .int 0, .null, .int 0, .int 0, .int 0]) (C := RX5) (ref := RX5) (T := TX5) (ty := (.object "ScarecrowRegistry$Row")) X tyX5 tyX5_ok nmX5 (by decide) (by first | rfl | exact hF) rfl (by decide +kernel) (by decide) (by decide +kernel) (fun _ h => h) rfl hname rfl rfl rfl rfl (Nat.le_of_ble_eq_true rfl) dX5_init_53 ?_
  refine wb_aload_n X dX5_init_56 0 rfl ?_
  refine wb_new (ci := 6) (N := 1) (C := RX4) (T := TX4) (fs := [.null]) X (by decide +kernel) tyX4 tyX4_ok (by decide +kernel) (by decide +kernel) (by decide +kernel) rfl dfX4 (Nat.le_of_ble_eq_true rfl) (Nat.le_of_ble_eq_true rfl) dX5_init_57 ?_
  refine wb_dup X dX5_init_60 rfl ?_
  refine wb_bipush X (v := 20) dX5_init_61 (by decide) ?_
  refine wb_callI (q := 142) (As := [.int 20]) (st' := [rf G 142, rf G 133]) X (mtX4_init_20 (r := 142) (by first | rfl | exact hF)) (cwI 1 X.2.2.2.2.1 gX5_init_X4_init rfl rfl rfl (X.2.2.2.2.1 _ (by decide +kernel)) (X.2.2.2.2.1 _ (by decide +kernel)) (X.2.2.2.2.1 _ (by decide +kernel)) rfl (by decide +kernel) ⟨Nat.le_of_ble_eq_true rfl, Nat.le_of_ble_eq_true rfl⟩) rfl (Nat.le_of_ble_eq_true rfl) dX5_init_63 ⟨Nat.le_of_ble_eq_true rfl, Nat.le_of_ble_eq_true rfl⟩ ?_
  refine wb_putF (q := 133) (ci := 7) (kf := 6) (N := 12) (fs := [rf G 134, .int 0, .int 0, rf G 136, rf G 138, rf G 140, .null, .int 0, .null, .int 0, .int 0, .int 0]) (C := RX5) (ref := RX5) (T := TX5) (ty := (.object "ScarecrowRegistry$Row")) X tyX5 tyX5_ok nmX5 (by decide) (by first | rfl | exact hF) rfl (by decide +kernel) (by decide) (by decide +kernel) (fun _ h => h) rfl hname rfl rfl rfl rfl (Nat.le_of_ble_eq_true rfl) dX5_init_66 ?_
  refine wb_aload_n X dX5_init_69 0 rfl ?_
  refine wb_new (ci := 6) (N := 1) (C := RX4) (T := TX4) (fs := [.null]) X (by decide +kernel) tyX4 tyX4_ok (by decide +kernel) (by decide +kernel) (by decide +kernel) rfl dfX4 (Nat.le_of_ble_eq_true rfl) (Nat.le_of_ble_eq_true rfl) dX5_init_70 ?_
  refine wb_dup X dX5_init_73 rfl ?_
  refine wb_bipush X (v := 16) dX5_init_74 (by decide) ?_
  refine wb_callI (q := 144) (As := [.int 16]) (st' := [rf G 144, rf G 133]) X (mtX4_init_16 (r := 144) (by first | rfl | exact hF)) (cwI 1 X.2.2.2.2.1 gX5_init_X4_init rfl rfl rfl (X.2.2.2.2.1 _ (by decide +kernel)) (X.2.2.2.2.1 _ (by decide +kernel)) (X.2.2.2.2.1 _ (by decide +kernel)) rfl (by decide +kernel) ⟨Nat.le_of_ble_eq_true rfl, Nat.le_of_ble_eq_true rfl⟩) rfl (Nat.le_of_ble_eq_true rfl) dX5_init_76 ⟨Nat.le_of_ble_eq_true rfl, Nat.le_of_ble_eq_true rfl⟩ ?_
  refine wb_putF (q := 133) (ci := 7) (kf := 8) (N := 12) (fs := [rf G 134, .int 0, .int 0, rf G 136, rf G 138, rf G 140, rf G 142, .int 0, .null, .int 0, .int 0, .int 0]) (C := RX5) (ref := RX5) (T := TX5) (ty := (.object "ScarecrowRegistry$Row")) X tyX5 tyX5_ok nmX5 (by decide) (by first | rfl | exact hF) rfl (by decide +kernel) (by decide) (by decide +kernel) (fun _ h => h) rfl hname rfl rfl rfl rfl (Nat.le_of_ble_eq_true rfl) dX5_init_79 ?_
  refine wb_aload_n X dX5_init_82 0 rfl ?_
  refine wb_get (q := 133) (ci := 7) (kf := 8) (N := 12) (fs := [rf G 134, .int 0, .int 0, rf G 136, rf G 138, rf G 140, rf G 142, .int 0, rf G 144, .int 0, .int 0, .int 0]) (C := RX5) (ref := RX5) (T := TX5) X (by decide) (by first | rfl | exact hF) rfl (by decide +kernel) (by decide) (fun _ h => h) rfl (by decide +kernel) dX5_init_83 ?_
  refine wb_bipush X (v := 9) dX5_init_86 (by decide) ?_
  refine wb_callV (q := 144) (As := [.int 9]) (st' := []) X (mtX4_fill_b (r := 144) (by decide) (by first | rfl | exact hF) (by first | rfl | exact hF)) (cwV 1 X.2.2.2.2.1 gX5_init_X4_fill rfl rfl rfl (by decide +kernel) ⟨Nat.le_of_ble_eq_true rfl, Nat.le_of_ble_eq_true rfl⟩) (by decide) (by first | rfl | exact hF) rfl rfl (Nat.le_of_ble_eq_true rfl) dX5_init_88 ⟨Nat.le_of_ble_eq_true rfl, Nat.le_of_ble_eq_true rfl⟩ ?_
  refine wb_vret X dX5_init_91 (by decide) (by decide) ?_
  refine Prod.ext rfl (funext fun j => ?_)
  by_cases h : 133 ≤ j ∧ j ≤ 145
  · show (if 133 ≤ j ∧ j ≤ 145 then cel G (S0 G) j else F j) = _
    rw [if_pos h]
    have h2 : j = 133 ∨ j = 134 ∨ j = 135 ∨ j = 136 ∨ j = 137 ∨ j = 138 ∨ j = 139 ∨ j = 140 ∨ j = 141 ∨ j = 142 ∨ j = 143 ∨ j = 144 ∨ j = 145 := by omega
    rcases h2 with rfl | rfl | rfl | rfl | rfl | rfl | rfl | rfl | rfl | rfl | rfl | rfl | rfl <;> rfl
  · show (if 133 ≤ j ∧ j ≤ 145 then cel G (S0 G) j else F j) = _
    rw [if_neg h]
    symm
    repeat' (first | rfl | (refine (ue_ne (by omega)).trans ?_) | (refine (blF_ne (by omega)).trans ?_))
set_option maxHeartbeats 4000000 in
set_option maxRecDepth 100000 in
theorem mtX5_init_146 {l : Launch} {G : Gt}  {F : Nat → va_E} (hF : F 146 = .inr (7, [.null, .int 0, .int 0, .null, .null, .null, .null, .int 0, .null, .int 0, .int 0, .int 0])) : MB l yX5_init wsX5_init { frames := 2, cells := 12, slots := 112, locals := 36 } G (147, F) [rf G 146] (159, blF G 146 158 F) 12 112 := by
  refine MB_of (cc := cX5_init) (own := RX5) (maxL := 1) (ret := none) (by decide +kernel) rfl rfl (Nat.le_of_ble_eq_true rfl) ?_
  intro p e s m args below meth c X hname
  show VB G p l e _ s m args below meth c 1 _ 0 0 147 F 0 [(0, rf G 146)] []
  refine wb_aload_n X dX5_init_0 0 rfl ?_
  refine wb_obj X (by decide +kernel) (by decide +kernel) (by decide +kernel) (Nat.le_of_ble_eq_true rfl) (Nat.le_of_ble_eq_true rfl) dX5_init_1 ?_
  refine wb_aload_n X dX5_init_4 0 rfl ?_
  refine wb_new (ci := 6) (N := 1) (C := RX4) (T := TX4) (fs := [.null]) X (by decide +kernel) tyX4 tyX4_ok (by decide +kernel) (by decide +kernel) (by decide +kernel) rfl dfX4 (Nat.le_of_ble_eq_true rfl) (Nat.le_of_ble_eq_true rfl) dX5_init_5 ?_
  refine wb_dup X dX5_init_8 rfl ?_
  refine wb_bipush X (v := 10) dX5_init_9 (by decide) ?_
  refine wb_callI (q := 147) (As := [.int 10]) (st' := [rf G 147, rf G 146]) X (mtX4_init_10 (r := 147) (by first | rfl | exact hF)) (cwI 1 X.2.2.2.2.1 gX5_init_X4_init rfl rfl rfl (X.2.2.2.2.1 _ (by decide +kernel)) (X.2.2.2.2.1 _ (by decide +kernel)) (X.2.2.2.2.1 _ (by decide +kernel)) rfl (by decide +kernel) ⟨Nat.le_of_ble_eq_true rfl, Nat.le_of_ble_eq_true rfl⟩) rfl (Nat.le_of_ble_eq_true rfl) dX5_init_11 ⟨Nat.le_of_ble_eq_true rfl, Nat.le_of_ble_eq_true rfl⟩ ?_
  refine wb_putF (q := 146) (ci := 7) (kf := 0) (N := 12) (fs := [.null, .int 0, .int 0, .null, .null, .null, .null, .int 0, .null, .int 0, .int 0, .int 0]) (C := RX5) (ref := RX5) (T := TX5) (ty := (.object "ScarecrowRegistry$Row")) X tyX5 tyX5_ok nmX5 (by decide) (by first | rfl | exact hF) rfl (by decide +kernel) (by decide) (by decide +kernel) (fun _ h => h) rfl hname rfl rfl rfl rfl (Nat.le_of_ble_eq_true rfl) dX5_init_14 ?_
  refine wb_aload_n X dX5_init_17 0 rfl ?_
  refine wb_new (ci := 6) (N := 1) (C := RX4) (T := TX4) (fs := [.null]) X (by decide +kernel) tyX4 tyX4_ok (by decide +kernel) (by decide +kernel) (by decide +kernel) rfl dfX4 (Nat.le_of_ble_eq_true rfl) (Nat.le_of_ble_eq_true rfl) dX5_init_18 ?_
  refine wb_dup X dX5_init_21 rfl ?_
  refine wb_bipush X (v := 20) dX5_init_22 (by decide) ?_
  refine wb_callI (q := 149) (As := [.int 20]) (st' := [rf G 149, rf G 146]) X (mtX4_init_20 (r := 149) (by first | rfl | exact hF)) (cwI 1 X.2.2.2.2.1 gX5_init_X4_init rfl rfl rfl (X.2.2.2.2.1 _ (by decide +kernel)) (X.2.2.2.2.1 _ (by decide +kernel)) (X.2.2.2.2.1 _ (by decide +kernel)) rfl (by decide +kernel) ⟨Nat.le_of_ble_eq_true rfl, Nat.le_of_ble_eq_true rfl⟩) rfl (Nat.le_of_ble_eq_true rfl) dX5_init_24 ⟨Nat.le_of_ble_eq_true rfl, Nat.le_of_ble_eq_true rfl⟩ ?_
  refine wb_putF (q := 146) (ci := 7) (kf := 3) (N := 12) (fs := [rf G 147, .int 0, .int 0, .null, .null, .null, .null, .int 0, .null, .int 0, .int 0, .int 0]) (C := RX5) (ref := RX5) (T := TX5) (ty := (.object "ScarecrowRegistry$Row")) X tyX5 tyX5_ok nmX5 (by decide) (by first | rfl | exact hF) rfl (by decide +kernel) (by decide) (by decide +kernel) (fun _ h => h) rfl hname rfl rfl rfl rfl (Nat.le_of_ble_eq_true rfl) dX5_init_27 ?_
  refine wb_aload_n X dX5_init_30 0 rfl ?_
  refine wb_new (ci := 6) (N := 1) (C := RX4) (T := TX4) (fs := [.null]) X (by decide +kernel) tyX4 tyX4_ok (by decide +kernel) (by decide +kernel) (by decide +kernel) rfl dfX4 (Nat.le_of_ble_eq_true rfl) (Nat.le_of_ble_eq_true rfl) dX5_init_31 ?_
  refine wb_dup X dX5_init_34 rfl ?_
  refine wb_bipush X (v := 20) dX5_init_35 (by decide) ?_
  refine wb_callI (q := 151) (As := [.int 20]) (st' := [rf G 151, rf G 146]) X (mtX4_init_20 (r := 151) (by first | rfl | exact hF)) (cwI 1 X.2.2.2.2.1 gX5_init_X4_init rfl rfl rfl (X.2.2.2.2.1 _ (by decide +kernel)) (X.2.2.2.2.1 _ (by decide +kernel)) (X.2.2.2.2.1 _ (by decide +kernel)) rfl (by decide +kernel) ⟨Nat.le_of_ble_eq_true rfl, Nat.le_of_ble_eq_true rfl⟩) rfl (Nat.le_of_ble_eq_true rfl) dX5_init_37 ⟨Nat.le_of_ble_eq_true rfl, Nat.le_of_ble_eq_true rfl⟩ ?_
  refine wb_putF (q := 146) (ci := 7) (kf := 4) (N := 12) (fs := [rf G 147, .int 0, .int 0, rf G 149, .null, .null, .null, .int 0, .null, .int 0, .int 0, .int 0]) (C := RX5) (ref := RX5) (T := TX5) (ty := (.object "ScarecrowRegistry$Row")) X tyX5 tyX5_ok nmX5 (by decide) (by first | rfl | exact hF) rfl (by decide +kernel) (by decide) (by decide +kernel) (fun _ h => h) rfl hname rfl rfl rfl rfl (Nat.le_of_ble_eq_true rfl) dX5_init_40 ?_
  refine wb_aload_n X dX5_init_43 0 rfl ?_
  refine wb_new (ci := 6) (N := 1) (C := RX4) (T := TX4) (fs := [.null]) X (by decide +kernel) tyX4 tyX4_ok (by decide +kernel) (by decide +kernel) (by decide +kernel) rfl dfX4 (Nat.le_of_ble_eq_true rfl) (Nat.le_of_ble_eq_true rfl) dX5_init_44 ?_
  refine wb_dup X dX5_init_47 rfl ?_
  refine wb_bipush X (v := 20) dX5_init_48 (by decide) ?_
  refine wb_callI (q := 153) (As := [.int 20]) (st' := [rf G 153, rf G 146]) X (mtX4_init_20 (r := 153) (by first | rfl | exact hF)) (cwI 1 X.2.2.2.2.1 gX5_init_X4_init rfl rfl rfl (X.2.2.2.2.1 _ (by decide +kernel)) (X.2.2.2.2.1 _ (by decide +kernel)) (X.2.2.2.2.1 _ (by decide +kernel)) rfl (by decide +kernel) ⟨Nat.le_of_ble_eq_true rfl, Nat.le_of_ble_eq_true rfl⟩) rfl (Nat.le_of_ble_eq_true rfl) dX5_init_50 ⟨Nat.le_of_ble_eq_true rfl, Nat.le_of_ble_eq_true rfl⟩ ?_
  refine wb_putF (q := 146) (ci := 7) (kf := 5) (N := 12) (fs := [rf G 147, .int 0, .int 0, rf G 149, rf G 151, .null, .null, .int 0, .null, .int 0, .int 0, .int 0]) (C := RX5) (ref := RX5) (T := TX5) (ty := (.object "ScarecrowRegistry$Row")) X tyX5 tyX5_ok nmX5 (by decide) (by first | rfl | exact hF) rfl (by decide +kernel) (by decide) (by decide +kernel) (fun _ h => h) rfl hname rfl rfl rfl rfl (Nat.le_of_ble_eq_true rfl) dX5_init_53 ?_
  refine wb_aload_n X dX5_init_56 0 rfl ?_
  refine wb_new (ci := 6) (N := 1) (C := RX4) (T := TX4) (fs := [.null]) X (by decide +kernel) tyX4 tyX4_ok (by decide +kernel) (by decide +kernel) (by decide +kernel) rfl dfX4 (Nat.le_of_ble_eq_true rfl) (Nat.le_of_ble_eq_true rfl) dX5_init_57 ?_
  refine wb_dup X dX5_init_60 rfl ?_
  refine wb_bipush X (v := 20) dX5_init_61 (by decide) ?_
  refine wb_callI (q := 155) (As := [.int 20]) (st' := [rf G 155, rf G 146]) X (mtX4_init_20 (r := 155) (by first | rfl | exact hF)) (cwI 1 X.2.2.2.2.1 gX5_init_X4_init rfl rfl rfl (X.2.2.2.2.1 _ (by decide +kernel)) (X.2.2.2.2.1 _ (by decide +kernel)) (X.2.2.2.2.1 _ (by decide +kernel)) rfl (by decide +kernel) ⟨Nat.le_of_ble_eq_true rfl, Nat.le_of_ble_eq_true rfl⟩) rfl (Nat.le_of_ble_eq_true rfl) dX5_init_63 ⟨Nat.le_of_ble_eq_true rfl, Nat.le_of_ble_eq_true rfl⟩ ?_
  refine wb_putF (q := 146) (ci := 7) (kf := 6) (N := 12) (fs := [rf G 147, .int 0, .int 0, rf G 149, rf G 151, rf G 153, .null, .int 0, .null, .int 0, .int 0, .int 0]) (C := RX5) (ref := RX5) (T := TX5) (ty := (.object "ScarecrowRegistry$Row")) X tyX5 tyX5_ok nmX5 (by decide) (by first | rfl | exact hF) rfl (by decide +kernel) (by decide) (by decide +kernel) (fun _ h => h) rfl hname rfl rfl rfl rfl (Nat.le_of_ble_eq_true rfl) dX5_init_66 ?_
  refine wb_aload_n X dX5_init_69 0 rfl ?_
  refine wb_new (ci := 6) (N := 1) (C := RX4) (T := TX4) (fs := [.null]) X (by decide +kernel) tyX4 tyX4_ok (by decide +kernel) (by decide +kernel) (by decide +kernel) rfl dfX4 (Nat.le_of_ble_eq_true rfl) (Nat.le_of_ble_eq_true rfl) dX5_init_70 ?_
  refine wb_dup X dX5_init_73 rfl ?_
  refine wb_bipush X (v := 16) dX5_init_74 (by decide) ?_
  refine wb_callI (q := 157) (As := [.int 16]) (st' := [rf G 157, rf G 146]) X (mtX4_init_16 (r := 157) (by first | rfl | exact hF)) (cwI 1 X.2.2.2.2.1 gX5_init_X4_init rfl rfl rfl (X.2.2.2.2.1 _ (by decide +kernel)) (X.2.2.2.2.1 _ (by decide +kernel)) (X.2.2.2.2.1 _ (by decide +kernel)) rfl (by decide +kernel) ⟨Nat.le_of_ble_eq_true rfl, Nat.le_of_ble_eq_true rfl⟩) rfl (Nat.le_of_ble_eq_true rfl) dX5_init_76 ⟨Nat.le_of_ble_eq_true rfl, Nat.le_of_ble_eq_true rfl⟩ ?_
  refine wb_putF (q := 146) (ci := 7) (kf := 8) (N := 12) (fs := [rf G 147, .int 0, .int 0, rf G 149, rf G 151, rf G 153, rf G 155, .int 0, .null, .int 0, .int 0, .int 0]) (C := RX5) (ref := RX5) (T := TX5) (ty := (.object "ScarecrowRegistry$Row")) X tyX5 tyX5_ok nmX5 (by decide) (by first | rfl | exact hF) rfl (by decide +kernel) (by decide) (by decide +kernel) (fun _ h => h) rfl hname rfl rfl rfl rfl (Nat.le_of_ble_eq_true rfl) dX5_init_79 ?_
  refine wb_aload_n X dX5_init_82 0 rfl ?_
  refine wb_get (q := 146) (ci := 7) (kf := 8) (N := 12) (fs := [rf G 147, .int 0, .int 0, rf G 149, rf G 151, rf G 153, rf G 155, .int 0, rf G 157, .int 0, .int 0, .int 0]) (C := RX5) (ref := RX5) (T := TX5) X (by decide) (by first | rfl | exact hF) rfl (by decide +kernel) (by decide) (fun _ h => h) rfl (by decide +kernel) dX5_init_83 ?_
  refine wb_bipush X (v := 9) dX5_init_86 (by decide) ?_
  refine wb_callV (q := 157) (As := [.int 9]) (st' := []) X (mtX4_fill_b (r := 157) (by decide) (by first | rfl | exact hF) (by first | rfl | exact hF)) (cwV 1 X.2.2.2.2.1 gX5_init_X4_fill rfl rfl rfl (by decide +kernel) ⟨Nat.le_of_ble_eq_true rfl, Nat.le_of_ble_eq_true rfl⟩) (by decide) (by first | rfl | exact hF) rfl rfl (Nat.le_of_ble_eq_true rfl) dX5_init_88 ⟨Nat.le_of_ble_eq_true rfl, Nat.le_of_ble_eq_true rfl⟩ ?_
  refine wb_vret X dX5_init_91 (by decide) (by decide) ?_
  refine Prod.ext rfl (funext fun j => ?_)
  by_cases h : 146 ≤ j ∧ j ≤ 158
  · show (if 146 ≤ j ∧ j ≤ 158 then cel G (S0 G) j else F j) = _
    rw [if_pos h]
    have h2 : j = 146 ∨ j = 147 ∨ j = 148 ∨ j = 149 ∨ j = 150 ∨ j = 151 ∨ j = 152 ∨ j = 153 ∨ j = 154 ∨ j = 155 ∨ j = 156 ∨ j = 157 ∨ j = 158 := by omega
    rcases h2 with rfl | rfl | rfl | rfl | rfl | rfl | rfl | rfl | rfl | rfl | rfl | rfl | rfl <;> rfl
  · show (if 146 ≤ j ∧ j ≤ 158 then cel G (S0 G) j else F j) = _
    rw [if_neg h]
    symm
    repeat' (first | rfl | (refine (ue_ne (by omega)).trans ?_) | (refine (blF_ne (by omega)).trans ?_))

theorem sl8 {G : Gt} : ∀ j, j < 8 → (va_up (va_up (va_up (va_up (va_up (va_up (va_up (va_up (fun _ => none) (ix 0) (some (gB G + 55))) (ix 1) (some (gB G + 68))) (ix 2) (some (gB G + 81))) (ix 3) (some (gB G + 94))) (ix 4) (some (gB G + 107))) (ix 5) (some (gB G + 120))) (ix 6) (some (gB G + 133))) (ix 7) (some (gB G + 146))) j = (fun j => some (gB G + (55 + 13 * j))) j := by
  intro j hj
  have h : j = 0 ∨ j = 1 ∨ j = 2 ∨ j = 3 ∨ j = 4 ∨ j = 5 ∨ j = 6 ∨ j = 7 := by omega
  rcases h with rfl | rfl | rfl | rfl | rfl | rfl | rfl | rfl <;> rfl
set_option maxHeartbeats 4000000 in
set_option maxRecDepth 100000 in
theorem mtX2_init_53 {l : Launch} {G : Gt}  {F : Nat → va_E} (hF : F 53 = .inr (5, [.null, .int 0, .int 0])) : MB l yX2_init wsX2_init { frames := 3, cells := 105, slots := 1000, locals := 56 } G (54, F) [rf G 53] (159, blF G 53 158 F) 105 1000 := by
  refine MB_of (cc := cX2_init) (own := RX2) (maxL := 2) (ret := none) (by decide +kernel) rfl rfl (Nat.le_of_ble_eq_true rfl) ?_
  intro p e s m args below meth c X hname
  show VB G p l e _ s m args below meth c 2 _ 0 0 54 F 0 [(0, rf G 53)] []
  refine wb_aload_n X dX2_init_0 0 rfl ?_
  refine wb_obj X (by decide +kernel) (by decide +kernel) (by decide +kernel) (Nat.le_of_ble_eq_true rfl) (Nat.le_of_ble_eq_true rfl) dX2_init_1 ?_
  refine wb_aload_n X dX2_init_4 0 rfl ?_
  refine wb_bipush X (v := 8) dX2_init_5 (by decide) ?_
  refine wb_anewa (N := 8) X (by decide +kernel) (by decide) (by decide) (by decide) (Nat.le_of_ble_eq_true rfl) (Nat.le_of_ble_eq_true rfl) dX2_init_7 ?_
  refine wb_putF (q := 53) (ci := 5) (kf := 0) (N := 3) (fs := [.null, .int 0, .int 0]) (C := RX2) (ref := RX2) (T := TX2) (ty := (.array (.object "ScarecrowRegistry$State"))) X tyX2 tyX2_ok nmX2 (by decide) (by first | rfl | exact hF) rfl (by decide +kernel) (by decide) (by decide +kernel) (fun _ h => h) rfl hname rfl rfl rfl rfl (Nat.le_of_ble_eq_true rfl) dX2_init_10 ?_
  refine wb_iconst X (v := 0) dX2_init_13 (by decide) ?_
  refine wb_istore_n X (lv' := [(1, .int 0), (0, rf G 53)]) dX2_init_14 (by decide) rfl ?_
  refine wb_iload_n X dX2_init_15 0 rfl ?_
  refine wb_aload_n X dX2_init_16 1 rfl ?_
  refine wb_get (q := 53) (ci := 5) (kf := 0) (N := 3) (fs := [rf G 54, .int 0, .int 0]) (C := RX2) (ref := RX2) (T := TX2) X (by decide) (by first | rfl | exact hF) rfl (by decide +kernel) (by decide) (fun _ h => h) rfl (by decide +kernel) dX2_init_17 ?_
  refine wb_alen (q := 54) (t := 3) (x := (8, .inr (.inr (.inr (.inr (fun _ => none)))))) (v := 8) X (by decide) (by first | rfl | exact hF) rfl rfl dX2_init_20 ?_
  refine wb_icmp_ge X (tgt := 43) dX2_init_21 (by decide) (fun h => absurd h (by decide)) (fun _ => ?_)
  refine wb_aload_n X dX2_init_24 1 rfl ?_
  refine wb_get (q := 53) (ci := 5) (kf := 0) (N := 3) (fs := [rf G 54, .int 0, .int 0]) (C := RX2) (ref := RX2) (T := TX2) X (by decide) (by first | rfl | exact hF) rfl (by decide +kernel) (by decide) (fun _ h => h) rfl (by decide +kernel) dX2_init_25 ?_
  refine wb_iload_n X dX2_init_28 0 rfl ?_
  refine wb_new (ci := 7) (N := 12) (C := RX5) (T := TX5) (fs := [.null, .int 0, .int 0, .null, .null, .null, .null, .int 0, .null, .int 0, .int 0, .int 0]) X (by decide +kernel) tyX5 tyX5_ok (by decide +kernel) (by decide +kernel) (by decide +kernel) rfl dfX5 (Nat.le_of_ble_eq_true rfl) (Nat.le_of_ble_eq_true rfl) dX2_init_29 ?_
  refine wb_dup X dX2_init_32 rfl ?_
  refine wb_callI (q := 55) (As := []) (st' := [rf G 55, .int 0, rf G 54]) X (mtX5_init_55 (by first | rfl | exact hF)) (cwI 0 X.2.2.2.2.1 gX2_init_X5_init rfl rfl rfl (X.2.2.2.2.1 _ (by decide +kernel)) (X.2.2.2.2.1 _ (by decide +kernel)) (X.2.2.2.2.1 _ (by decide +kernel)) rfl (by decide +kernel) ⟨Nat.le_of_ble_eq_true rfl, Nat.le_of_ble_eq_true rfl⟩) rfl (Nat.le_of_ble_eq_true rfl) dX2_init_33 ⟨Nat.le_of_ble_eq_true rfl, Nat.le_of_ble_eq_true rfl⟩ ?_
  refine wb_aast (q := 54) (qk := 55) (N := 8) (f := (fun _ => none)) (vs := [rf G 56, .int 0, .int 0, rf G 58, rf G 60, rf G 62, rf G 64, .int 0, rf G 66, .int 0, .int 0, .int 0]) X (by decide) (by first | rfl | exact hF) (by decide) (by first | rfl | exact hF) (inb_in.mp (by decide)) dX2_init_36 ?_
  refine wb_iinc X (v := 1) (lv' := [(1, .int 1), (0, rf G 53)]) dX2_init_37 0 rfl (by decide) (by decide) rfl ?_
  refine wb_goto X (tgt := 15) dX2_init_40 (by decide) ?_
  refine wb_iload_n X dX2_init_15 0 rfl ?_
  refine wb_aload_n X dX2_init_16 1 rfl ?_
  refine wb_get (q := 53) (ci := 5) (kf := 0) (N := 3) (fs := [rf G 54, .int 0, .int 0]) (C := RX2) (ref := RX2) (T := TX2) X (by decide) (by first | rfl | exact hF) rfl (by decide +kernel) (by decide) (fun _ h => h) rfl (by decide +kernel) dX2_init_17 ?_
  refine wb_alen (q := 54) (t := 3) (x := (8, .inr (.inr (.inr (.inr (va_up (fun _ => none) (ix 0) (some (gB G + 55)))))))) (v := 8) X (by decide) (by first | rfl | exact hF) rfl rfl dX2_init_20 ?_
  refine wb_icmp_ge X (tgt := 43) dX2_init_21 (by decide) (fun h => absurd h (by decide)) (fun _ => ?_)
  refine wb_aload_n X dX2_init_24 1 rfl ?_
  refine wb_get (q := 53) (ci := 5) (kf := 0) (N := 3) (fs := [rf G 54, .int 0, .int 0]) (C := RX2) (ref := RX2) (T := TX2) X (by decide) (by first | rfl | exact hF) rfl (by decide +kernel) (by decide) (fun _ h => h) rfl (by decide +kernel) dX2_init_25 ?_
  refine wb_iload_n X dX2_init_28 0 rfl ?_
  refine wb_new (ci := 7) (N := 12) (C := RX5) (T := TX5) (fs := [.null, .int 0, .int 0, .null, .null, .null, .null, .int 0, .null, .int 0, .int 0, .int 0]) X (by decide +kernel) tyX5 tyX5_ok (by decide +kernel) (by decide +kernel) (by decide +kernel) rfl dfX5 (Nat.le_of_ble_eq_true rfl) (Nat.le_of_ble_eq_true rfl) dX2_init_29 ?_
  refine wb_dup X dX2_init_32 rfl ?_
  refine wb_callI (q := 68) (As := []) (st' := [rf G 68, .int 1, rf G 54]) X (mtX5_init_68 (by first | rfl | exact hF)) (cwI 0 X.2.2.2.2.1 gX2_init_X5_init rfl rfl rfl (X.2.2.2.2.1 _ (by decide +kernel)) (X.2.2.2.2.1 _ (by decide +kernel)) (X.2.2.2.2.1 _ (by decide +kernel)) rfl (by decide +kernel) ⟨Nat.le_of_ble_eq_true rfl, Nat.le_of_ble_eq_true rfl⟩) rfl (Nat.le_of_ble_eq_true rfl) dX2_init_33 ⟨Nat.le_of_ble_eq_true rfl, Nat.le_of_ble_eq_true rfl⟩ ?_
  refine wb_aast (q := 54) (qk := 68) (N := 8) (f := (va_up (fun _ => none) (ix 0) (some (gB G + 55)))) (vs := [rf G 69, .int 0, .int 0, rf G 71, rf G 73, rf G 75, rf G 77, .int 0, rf G 79, .int 0, .int 0, .int 0]) X (by decide) (by first | rfl | exact hF) (by decide) (by first | rfl | exact hF) (inb_in.mp (by decide)) dX2_init_36 ?_
  refine wb_iinc X (v := 2) (lv' := [(1, .int 2), (0, rf G 53)]) dX2_init_37 0 rfl (by decide) (by decide) rfl ?_
  refine wb_goto X (tgt := 15) dX2_init_40 (by decide) ?_
  refine wb_iload_n X dX2_init_15 0 rfl ?_
  refine wb_aload_n X dX2_init_16 1 rfl ?_
  refine wb_get (q := 53) (ci := 5) (kf := 0) (N := 3) (fs := [rf G 54, .int 0, .int 0]) (C := RX2) (ref := RX2) (T := TX2) X (by decide) (by first | rfl | exact hF) rfl (by decide +kernel) (by decide) (fun _ h => h) rfl (by decide +kernel) dX2_init_17 ?_
  refine wb_alen (q := 54) (t := 3) (x := (8, .inr (.inr (.inr (.inr (va_up (va_up (fun _ => none) (ix 0) (some (gB G + 55))) (ix 1) (some (gB G + 68)))))))) (v := 8) X (by decide) (by first | rfl | exact hF) rfl rfl dX2_init_20 ?_
  refine wb_icmp_ge X (tgt := 43) dX2_init_21 (by decide) (fun h => absurd h (by decide)) (fun _ => ?_)
  refine wb_aload_n X dX2_init_24 1 rfl ?_
  refine wb_get (q := 53) (ci := 5) (kf := 0) (N := 3) (fs := [rf G 54, .int 0, .int 0]) (C := RX2) (ref := RX2) (T := TX2) X (by decide) (by first | rfl | exact hF) rfl (by decide +kernel) (by decide) (fun _ h => h) rfl (by decide +kernel) dX2_init_25 ?_
  refine wb_iload_n X dX2_init_28 0 rfl ?_
  refine wb_new (ci := 7) (N := 12) (C := RX5) (T := TX5) (fs := [.null, .int 0, .int 0, .null, .null, .null, .null, .int 0, .null, .int 0, .int 0, .int 0]) X (by decide +kernel) tyX5 tyX5_ok (by decide +kernel) (by decide +kernel) (by decide +kernel) rfl dfX5 (Nat.le_of_ble_eq_true rfl) (Nat.le_of_ble_eq_true rfl) dX2_init_29 ?_
  refine wb_dup X dX2_init_32 rfl ?_
  refine wb_callI (q := 81) (As := []) (st' := [rf G 81, .int 2, rf G 54]) X (mtX5_init_81 (by first | rfl | exact hF)) (cwI 0 X.2.2.2.2.1 gX2_init_X5_init rfl rfl rfl (X.2.2.2.2.1 _ (by decide +kernel)) (X.2.2.2.2.1 _ (by decide +kernel)) (X.2.2.2.2.1 _ (by decide +kernel)) rfl (by decide +kernel) ⟨Nat.le_of_ble_eq_true rfl, Nat.le_of_ble_eq_true rfl⟩) rfl (Nat.le_of_ble_eq_true rfl) dX2_init_33 ⟨Nat.le_of_ble_eq_true rfl, Nat.le_of_ble_eq_true rfl⟩ ?_
  refine wb_aast (q := 54) (qk := 81) (N := 8) (f := (va_up (va_up (fun _ => none) (ix 0) (some (gB G + 55))) (ix 1) (some (gB G + 68)))) (vs := [rf G 82, .int 0, .int 0, rf G 84, rf G 86, rf G 88, rf G 90, .int 0, rf G 92, .int 0, .int 0, .int 0]) X (by decide) (by first | rfl | exact hF) (by decide) (by first | rfl | exact hF) (inb_in.mp (by decide)) dX2_init_36 ?_
  refine wb_iinc X (v := 3) (lv' := [(1, .int 3), (0, rf G 53)]) dX2_init_37 0 rfl (by decide) (by decide) rfl ?_
  refine wb_goto X (tgt := 15) dX2_init_40 (by decide) ?_
  refine wb_iload_n X dX2_init_15 0 rfl ?_
  refine wb_aload_n X dX2_init_16 1 rfl ?_
  refine wb_get (q := 53) (ci := 5) (kf := 0) (N := 3) (fs := [rf G 54, .int 0, .int 0]) (C := RX2) (ref := RX2) (T := TX2) X (by decide) (by first | rfl | exact hF) rfl (by decide +kernel) (by decide) (fun _ h => h) rfl (by decide +kernel) dX2_init_17 ?_
  refine wb_alen (q := 54) (t := 3) (x := (8, .inr (.inr (.inr (.inr (va_up (va_up (va_up (fun _ => none) (ix 0) (some (gB G + 55))) (ix 1) (some (gB G + 68))) (ix 2) (some (gB G + 81)))))))) (v := 8) X (by decide) (by first | rfl | exact hF) rfl rfl dX2_init_20 ?_
  refine wb_icmp_ge X (tgt := 43) dX2_init_21 (by decide) (fun h => absurd h (by decide)) (fun _ => ?_)
  refine wb_aload_n X dX2_init_24 1 rfl ?_
  refine wb_get (q := 53) (ci := 5) (kf := 0) (N := 3) (fs := [rf G 54, .int 0, .int 0]) (C := RX2) (ref := RX2) (T := TX2) X (by decide) (by first | rfl | exact hF) rfl (by decide +kernel) (by decide) (fun _ h => h) rfl (by decide +kernel) dX2_init_25 ?_
  refine wb_iload_n X dX2_init_28 0 rfl ?_
  refine wb_new (ci := 7) (N := 12) (C := RX5) (T := TX5) (fs := [.null, .int 0, .int 0, .null, .null, .null, .null, .int 0, .null, .int 0, .int 0, .int 0]) X (by decide +kernel) tyX5 tyX5_ok (by decide +kernel) (by decide +kernel) (by decide +kernel) rfl dfX5 (Nat.le_of_ble_eq_true rfl) (Nat.le_of_ble_eq_true rfl) dX2_init_29 ?_
  refine wb_dup X dX2_init_32 rfl ?_
  refine wb_callI (q := 94) (As := []) (st' := [rf G 94, .int 3, rf G 54]) X (mtX5_init_94 (by first | rfl | exact hF)) (cwI 0 X.2.2.2.2.1 gX2_init_X5_init rfl rfl rfl (X.2.2.2.2.1 _ (by decide +kernel)) (X.2.2.2.2.1 _ (by decide +kernel)) (X.2.2.2.2.1 _ (by decide +kernel)) rfl (by decide +kernel) ⟨Nat.le_of_ble_eq_true rfl, Nat.le_of_ble_eq_true rfl⟩) rfl (Nat.le_of_ble_eq_true rfl) dX2_init_33 ⟨Nat.le_of_ble_eq_true rfl, Nat.le_of_ble_eq_true rfl⟩ ?_
  refine wb_aast (q := 54) (qk := 94) (N := 8) (f := (va_up (va_up (va_up (fun _ => none) (ix 0) (some (gB G + 55))) (ix 1) (some (gB G + 68))) (ix 2) (some (gB G + 81)))) (vs := [rf G 95, .int 0, .int 0, rf G 97, rf G 99, rf G 101, rf G 103, .int 0, rf G 105, .int 0, .int 0, .int 0]) X (by decide) (by first | rfl | exact hF) (by decide) (by first | rfl | exact hF) (inb_in.mp (by decide)) dX2_init_36 ?_
  refine wb_iinc X (v := 4) (lv' := [(1, .int 4), (0, rf G 53)]) dX2_init_37 0 rfl (by decide) (by decide) rfl ?_
  refine wb_goto X (tgt := 15) dX2_init_40 (by decide) ?_
  refine wb_iload_n X dX2_init_15 0 rfl ?_
  refine wb_aload_n X dX2_init_16 1 rfl ?_
  refine wb_get (q := 53) (ci := 5) (kf := 0) (N := 3) (fs := [rf G 54, .int 0, .int 0]) (C := RX2) (ref := RX2) (T := TX2) X (by decide) (by first | rfl | exact hF) rfl (by decide +kernel) (by decide) (fun _ h => h) rfl (by decide +kernel) dX2_init_17 ?_
  refine wb_alen (q := 54) (t := 3) (x := (8, .inr (.inr (.inr (.inr (va_up (va_up (va_up (va_up (fun _ => none) (ix 0) (some (gB G + 55))) (ix 1) (some (gB G + 68))) (ix 2) (some (gB G + 81))) (ix 3) (some (gB G + 94)))))))) (v := 8) X (by decide) (by first | rfl | exact hF) rfl rfl dX2_init_20 ?_
  refine wb_icmp_ge X (tgt := 43) dX2_init_21 (by decide) (fun h => absurd h (by decide)) (fun _ => ?_)
  refine wb_aload_n X dX2_init_24 1 rfl ?_
  refine wb_get (q := 53) (ci := 5) (kf := 0) (N := 3) (fs := [rf G 54, .int 0, .int 0]) (C := RX2) (ref := RX2) (T := TX2) X (by decide) (by first | rfl | exact hF) rfl (by decide +kernel) (by decide) (fun _ h => h) rfl (by decide +kernel) dX2_init_25 ?_
  refine wb_iload_n X dX2_init_28 0 rfl ?_
  refine wb_new (ci := 7) (N := 12) (C := RX5) (T := TX5) (fs := [.null, .int 0, .int 0, .null, .null, .null, .null, .int 0, .null, .int 0, .int 0, .int 0]) X (by decide +kernel) tyX5 tyX5_ok (by decide +kernel) (by decide +kernel) (by decide +kernel) rfl dfX5 (Nat.le_of_ble_eq_true rfl) (Nat.le_of_ble_eq_true rfl) dX2_init_29 ?_
  refine wb_dup X dX2_init_32 rfl ?_
  refine wb_callI (q := 107) (As := []) (st' := [rf G 107, .int 4, rf G 54]) X (mtX5_init_107 (by first | rfl | exact hF)) (cwI 0 X.2.2.2.2.1 gX2_init_X5_init rfl rfl rfl (X.2.2.2.2.1 _ (by decide +kernel)) (X.2.2.2.2.1 _ (by decide +kernel)) (X.2.2.2.2.1 _ (by decide +kernel)) rfl (by decide +kernel) ⟨Nat.le_of_ble_eq_true rfl, Nat.le_of_ble_eq_true rfl⟩) rfl (Nat.le_of_ble_eq_true rfl) dX2_init_33 ⟨Nat.le_of_ble_eq_true rfl, Nat.le_of_ble_eq_true rfl⟩ ?_
  refine wb_aast (q := 54) (qk := 107) (N := 8) (f := (va_up (va_up (va_up (va_up (fun _ => none) (ix 0) (some (gB G + 55))) (ix 1) (some (gB G + 68))) (ix 2) (some (gB G + 81))) (ix 3) (some (gB G + 94)))) (vs := [rf G 108, .int 0, .int 0, rf G 110, rf G 112, rf G 114, rf G 116, .int 0, rf G 118, .int 0, .int 0, .int 0]) X (by decide) (by first | rfl | exact hF) (by decide) (by first | rfl | exact hF) (inb_in.mp (by decide)) dX2_init_36 ?_
  refine wb_iinc X (v := 5) (lv' := [(1, .int 5), (0, rf G 53)]) dX2_init_37 0 rfl (by decide) (by decide) rfl ?_
  refine wb_goto X (tgt := 15) dX2_init_40 (by decide) ?_
  refine wb_iload_n X dX2_init_15 0 rfl ?_
  refine wb_aload_n X dX2_init_16 1 rfl ?_
  refine wb_get (q := 53) (ci := 5) (kf := 0) (N := 3) (fs := [rf G 54, .int 0, .int 0]) (C := RX2) (ref := RX2) (T := TX2) X (by decide) (by first | rfl | exact hF) rfl (by decide +kernel) (by decide) (fun _ h => h) rfl (by decide +kernel) dX2_init_17 ?_
  refine wb_alen (q := 54) (t := 3) (x := (8, .inr (.inr (.inr (.inr (va_up (va_up (va_up (va_up (va_up (fun _ => none) (ix 0) (some (gB G + 55))) (ix 1) (some (gB G + 68))) (ix 2) (some (gB G + 81))) (ix 3) (some (gB G + 94))) (ix 4) (some (gB G + 107)))))))) (v := 8) X (by decide) (by first | rfl | exact hF) rfl rfl dX2_init_20 ?_
  refine wb_icmp_ge X (tgt := 43) dX2_init_21 (by decide) (fun h => absurd h (by decide)) (fun _ => ?_)
  refine wb_aload_n X dX2_init_24 1 rfl ?_
  refine wb_get (q := 53) (ci := 5) (kf := 0) (N := 3) (fs := [rf G 54, .int 0, .int 0]) (C := RX2) (ref := RX2) (T := TX2) X (by decide) (by first | rfl | exact hF) rfl (by decide +kernel) (by decide) (fun _ h => h) rfl (by decide +kernel) dX2_init_25 ?_
  refine wb_iload_n X dX2_init_28 0 rfl ?_
  refine wb_new (ci := 7) (N := 12) (C := RX5) (T := TX5) (fs := [.null, .int 0, .int 0, .null, .null, .null, .null, .int 0, .null, .int 0, .int 0, .int 0]) X (by decide +kernel) tyX5 tyX5_ok (by decide +kernel) (by decide +kernel) (by decide +kernel) rfl dfX5 (Nat.le_of_ble_eq_true rfl) (Nat.le_of_ble_eq_true rfl) dX2_init_29 ?_
  refine wb_dup X dX2_init_32 rfl ?_
  refine wb_callI (q := 120) (As := []) (st' := [rf G 120, .int 5, rf G 54]) X (mtX5_init_120 (by first | rfl | exact hF)) (cwI 0 X.2.2.2.2.1 gX2_init_X5_init rfl rfl rfl (X.2.2.2.2.1 _ (by decide +kernel)) (X.2.2.2.2.1 _ (by decide +kernel)) (X.2.2.2.2.1 _ (by decide +kernel)) rfl (by decide +kernel) ⟨Nat.le_of_ble_eq_true rfl, Nat.le_of_ble_eq_true rfl⟩) rfl (Nat.le_of_ble_eq_true rfl) dX2_init_33 ⟨Nat.le_of_ble_eq_true rfl, Nat.le_of_ble_eq_true rfl⟩ ?_
  refine wb_aast (q := 54) (qk := 120) (N := 8) (f := (va_up (va_up (va_up (va_up (va_up (fun _ => none) (ix 0) (some (gB G + 55))) (ix 1) (some (gB G + 68))) (ix 2) (some (gB G + 81))) (ix 3) (some (gB G + 94))) (ix 4) (some (gB G + 107)))) (vs := [rf G 121, .int 0, .int 0, rf G 123, rf G 125, rf G 127, rf G 129, .int 0, rf G 131, .int 0, .int 0, .int 0]) X (by decide) (by first | rfl | exact hF) (by decide) (by first | rfl | exact hF) (inb_in.mp (by decide)) dX2_init_36 ?_
  refine wb_iinc X (v := 6) (lv' := [(1, .int 6), (0, rf G 53)]) dX2_init_37 0 rfl (by decide) (by decide) rfl ?_
  refine wb_goto X (tgt := 15) dX2_init_40 (by decide) ?_
  refine wb_iload_n X dX2_init_15 0 rfl ?_
  refine wb_aload_n X dX2_init_16 1 rfl ?_
  refine wb_get (q := 53) (ci := 5) (kf := 0) (N := 3) (fs := [rf G 54, .int 0, .int 0]) (C := RX2) (ref := RX2) (T := TX2) X (by decide) (by first | rfl | exact hF) rfl (by decide +kernel) (by decide) (fun _ h => h) rfl (by decide +kernel) dX2_init_17 ?_
  refine wb_alen (q := 54) (t := 3) (x := (8, .inr (.inr (.inr (.inr (va_up (va_up (va_up (va_up (va_up (va_up (fun _ => none) (ix 0) (some (gB G + 55))) (ix 1) (some (gB G + 68))) (ix 2) (some (gB G + 81))) (ix 3) (some (gB G + 94))) (ix 4) (some (gB G + 107))) (ix 5) (some (gB G + 120)))))))) (v := 8) X (by decide) (by first | rfl | exact hF) rfl rfl dX2_init_20 ?_
  refine wb_icmp_ge X (tgt := 43) dX2_init_21 (by decide) (fun h => absurd h (by decide)) (fun _ => ?_)
  refine wb_aload_n X dX2_init_24 1 rfl ?_
  refine wb_get (q := 53) (ci := 5) (kf := 0) (N := 3) (fs := [rf G 54, .int 0, .int 0]) (C := RX2) (ref := RX2) (T := TX2) X (by decide) (by first | rfl | exact hF) rfl (by decide +kernel) (by decide) (fun _ h => h) rfl (by decide +kernel) dX2_init_25 ?_
  refine wb_iload_n X dX2_init_28 0 rfl ?_
  refine wb_new (ci := 7) (N := 12) (C := RX5) (T := TX5) (fs := [.null, .int 0, .int 0, .null, .null, .null, .null, .int 0, .null, .int 0, .int 0, .int 0]) X (by decide +kernel) tyX5 tyX5_ok (by decide +kernel) (by decide +kernel) (by decide +kernel) rfl dfX5 (Nat.le_of_ble_eq_true rfl) (Nat.le_of_ble_eq_true rfl) dX2_init_29 ?_
  refine wb_dup X dX2_init_32 rfl ?_
  refine wb_callI (q := 133) (As := []) (st' := [rf G 133, .int 6, rf G 54]) X (mtX5_init_133 (by first | rfl | exact hF)) (cwI 0 X.2.2.2.2.1 gX2_init_X5_init rfl rfl rfl (X.2.2.2.2.1 _ (by decide +kernel)) (X.2.2.2.2.1 _ (by decide +kernel)) (X.2.2.2.2.1 _ (by decide +kernel)) rfl (by decide +kernel) ⟨Nat.le_of_ble_eq_true rfl, Nat.le_of_ble_eq_true rfl⟩) rfl (Nat.le_of_ble_eq_true rfl) dX2_init_33 ⟨Nat.le_of_ble_eq_true rfl, Nat.le_of_ble_eq_true rfl⟩ ?_
  refine wb_aast (q := 54) (qk := 133) (N := 8) (f := (va_up (va_up (va_up (va_up (va_up (va_up (fun _ => none) (ix 0) (some (gB G + 55))) (ix 1) (some (gB G + 68))) (ix 2) (some (gB G + 81))) (ix 3) (some (gB G + 94))) (ix 4) (some (gB G + 107))) (ix 5) (some (gB G + 120)))) (vs := [rf G 134, .int 0, .int 0, rf G 136, rf G 138, rf G 140, rf G 142, .int 0, rf G 144, .int 0, .int 0, .int 0]) X (by decide) (by first | rfl | exact hF) (by decide) (by first | rfl | exact hF) (inb_in.mp (by decide)) dX2_init_36 ?_
  refine wb_iinc X (v := 7) (lv' := [(1, .int 7), (0, rf G 53)]) dX2_init_37 0 rfl (by decide) (by decide) rfl ?_
  refine wb_goto X (tgt := 15) dX2_init_40 (by decide) ?_
  refine wb_iload_n X dX2_init_15 0 rfl ?_
  refine wb_aload_n X dX2_init_16 1 rfl ?_
  refine wb_get (q := 53) (ci := 5) (kf := 0) (N := 3) (fs := [rf G 54, .int 0, .int 0]) (C := RX2) (ref := RX2) (T := TX2) X (by decide) (by first | rfl | exact hF) rfl (by decide +kernel) (by decide) (fun _ h => h) rfl (by decide +kernel) dX2_init_17 ?_
  refine wb_alen (q := 54) (t := 3) (x := (8, .inr (.inr (.inr (.inr (va_up (va_up (va_up (va_up (va_up (va_up (va_up (fun _ => none) (ix 0) (some (gB G + 55))) (ix 1) (some (gB G + 68))) (ix 2) (some (gB G + 81))) (ix 3) (some (gB G + 94))) (ix 4) (some (gB G + 107))) (ix 5) (some (gB G + 120))) (ix 6) (some (gB G + 133)))))))) (v := 8) X (by decide) (by first | rfl | exact hF) rfl rfl dX2_init_20 ?_
  refine wb_icmp_ge X (tgt := 43) dX2_init_21 (by decide) (fun h => absurd h (by decide)) (fun _ => ?_)
  refine wb_aload_n X dX2_init_24 1 rfl ?_
  refine wb_get (q := 53) (ci := 5) (kf := 0) (N := 3) (fs := [rf G 54, .int 0, .int 0]) (C := RX2) (ref := RX2) (T := TX2) X (by decide) (by first | rfl | exact hF) rfl (by decide +kernel) (by decide) (fun _ h => h) rfl (by decide +kernel) dX2_init_25 ?_
  refine wb_iload_n X dX2_init_28 0 rfl ?_
  refine wb_new (ci := 7) (N := 12) (C := RX5) (T := TX5) (fs := [.null, .int 0, .int 0, .null, .null, .null, .null, .int 0, .null, .int 0, .int 0, .int 0]) X (by decide +kernel) tyX5 tyX5_ok (by decide +kernel) (by decide +kernel) (by decide +kernel) rfl dfX5 (Nat.le_of_ble_eq_true rfl) (Nat.le_of_ble_eq_true rfl) dX2_init_29 ?_
  refine wb_dup X dX2_init_32 rfl ?_
  refine wb_callI (q := 146) (As := []) (st' := [rf G 146, .int 7, rf G 54]) X (mtX5_init_146 (by first | rfl | exact hF)) (cwI 0 X.2.2.2.2.1 gX2_init_X5_init rfl rfl rfl (X.2.2.2.2.1 _ (by decide +kernel)) (X.2.2.2.2.1 _ (by decide +kernel)) (X.2.2.2.2.1 _ (by decide +kernel)) rfl (by decide +kernel) ⟨Nat.le_of_ble_eq_true rfl, Nat.le_of_ble_eq_true rfl⟩) rfl (Nat.le_of_ble_eq_true rfl) dX2_init_33 ⟨Nat.le_of_ble_eq_true rfl, Nat.le_of_ble_eq_true rfl⟩ ?_
  refine wb_aast (q := 54) (qk := 146) (N := 8) (f := (va_up (va_up (va_up (va_up (va_up (va_up (va_up (fun _ => none) (ix 0) (some (gB G + 55))) (ix 1) (some (gB G + 68))) (ix 2) (some (gB G + 81))) (ix 3) (some (gB G + 94))) (ix 4) (some (gB G + 107))) (ix 5) (some (gB G + 120))) (ix 6) (some (gB G + 133)))) (vs := [rf G 147, .int 0, .int 0, rf G 149, rf G 151, rf G 153, rf G 155, .int 0, rf G 157, .int 0, .int 0, .int 0]) X (by decide) (by first | rfl | exact hF) (by decide) (by first | rfl | exact hF) (inb_in.mp (by decide)) dX2_init_36 ?_
  refine wb_iinc X (v := 8) (lv' := [(1, .int 8), (0, rf G 53)]) dX2_init_37 0 rfl (by decide) (by decide) rfl ?_
  refine wb_goto X (tgt := 15) dX2_init_40 (by decide) ?_
  refine wb_iload_n X dX2_init_15 0 rfl ?_
  refine wb_aload_n X dX2_init_16 1 rfl ?_
  refine wb_get (q := 53) (ci := 5) (kf := 0) (N := 3) (fs := [rf G 54, .int 0, .int 0]) (C := RX2) (ref := RX2) (T := TX2) X (by decide) (by first | rfl | exact hF) rfl (by decide +kernel) (by decide) (fun _ h => h) rfl (by decide +kernel) dX2_init_17 ?_
  refine wb_alen (q := 54) (t := 3) (x := (8, .inr (.inr (.inr (.inr (va_up (va_up (va_up (va_up (va_up (va_up (va_up (va_up (fun _ => none) (ix 0) (some (gB G + 55))) (ix 1) (some (gB G + 68))) (ix 2) (some (gB G + 81))) (ix 3) (some (gB G + 94))) (ix 4) (some (gB G + 107))) (ix 5) (some (gB G + 120))) (ix 6) (some (gB G + 133))) (ix 7) (some (gB G + 146)))))))) (v := 8) X (by decide) (by first | rfl | exact hF) rfl rfl dX2_init_20 ?_
  refine wb_icmp_ge X (tgt := 43) dX2_init_21 (by decide) (fun _ => ?_) (fun h => absurd (by decide) h)
  refine wb_arrq (q := 54) (N := 8) (f := (va_up (va_up (va_up (va_up (va_up (va_up (va_up (va_up (fun _ => none) (ix 0) (some (gB G + 55))) (ix 1) (some (gB G + 68))) (ix 2) (some (gB G + 81))) (ix 3) (some (gB G + 94))) (ix 4) (some (gB G + 107))) (ix 5) (some (gB G + 120))) (ix 6) (some (gB G + 133))) (ix 7) (some (gB G + 146)))) (g := fun j => some (gB G + (55 + 13 * j))) (by decide) (by first | rfl | exact hF) sl8 ?_
  refine wb_vret X dX2_init_43 (by decide) (by decide) ?_
  refine Prod.ext rfl (funext fun j => ?_)
  by_cases h : 53 ≤ j ∧ j ≤ 158
  · show (if 53 ≤ j ∧ j ≤ 158 then cel G (S0 G) j else F j) = _
    rw [if_pos h]
    have h2 : j = 53 ∨ j = 54 ∨ (55 ≤ j ∧ j ≤ 67) ∨ (68 ≤ j ∧ j ≤ 80) ∨ (81 ≤ j ∧ j ≤ 93) ∨ (94 ≤ j ∧ j ≤ 106) ∨ (107 ≤ j ∧ j ≤ 119) ∨ (120 ≤ j ∧ j ≤ 132) ∨ (133 ≤ j ∧ j ≤ 145) ∨ (146 ≤ j ∧ j ≤ 158) := by omega
    clear h
    rcases h2 with rfl | rfl | h2 | h2 | h2 | h2 | h2 | h2 | h2 | h2
    · rfl
    · rfl
    · symm
      repeat' (first | (refine (ue_ne (by omega)).trans ?_) | (refine (blF_ne (by omega)).trans ?_) | exact blF_in (by omega))
    · symm
      repeat' (first | (refine (ue_ne (by omega)).trans ?_) | (refine (blF_ne (by omega)).trans ?_) | exact blF_in (by omega))
    · symm
      repeat' (first | (refine (ue_ne (by omega)).trans ?_) | (refine (blF_ne (by omega)).trans ?_) | exact blF_in (by omega))
    · symm
      repeat' (first | (refine (ue_ne (by omega)).trans ?_) | (refine (blF_ne (by omega)).trans ?_) | exact blF_in (by omega))
    · symm
      repeat' (first | (refine (ue_ne (by omega)).trans ?_) | (refine (blF_ne (by omega)).trans ?_) | exact blF_in (by omega))
    · symm
      repeat' (first | (refine (ue_ne (by omega)).trans ?_) | (refine (blF_ne (by omega)).trans ?_) | exact blF_in (by omega))
    · symm
      repeat' (first | (refine (ue_ne (by omega)).trans ?_) | (refine (blF_ne (by omega)).trans ?_) | exact blF_in (by omega))
    · symm
      repeat' (first | (refine (ue_ne (by omega)).trans ?_) | (refine (blF_ne (by omega)).trans ?_) | exact blF_in (by omega))
  · show (if 53 ≤ j ∧ j ≤ 158 then cel G (S0 G) j else F j) = _
    rw [if_neg h]
    symm
    repeat' (first | rfl | (refine (ue_ne (by omega)).trans ?_) | (refine (blF_ne (by omega)).trans ?_))

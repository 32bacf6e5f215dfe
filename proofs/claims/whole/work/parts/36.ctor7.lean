theorem gr32 : ((upd (upd (upd (upd (upd (upd (upd (upd (upd (upd (upd (upd (upd (upd (upd (upd (fun _ => 0) (ix (16 + 0)) 9) (ix (16 + 1)) 9) (ix (16 + 2)) 9) (ix (16 + 3)) 9) (ix (16 + 4)) 9) (ix (16 + 5)) 9) (ix (16 + 6)) 9) (ix (16 + 7)) 9) (ix (16 + 8)) 9) (ix (16 + 9)) 9) (ix (16 + 10)) 9) (ix (16 + 11)) 9) (ix (16 + 12)) 9) (ix (16 + 13)) 9) (ix (16 + 14)) 9) (ix (16 + 15)) 9) : Nat → Int32) = (fun j => if 16 ≤ j ∧ j < 32 then 9 else 0) := by
  funext z
  by_cases hz : 16 ≤ z ∧ z < 32
  · have h : z = 16 ∨ z = 17 ∨ z = 18 ∨ z = 19 ∨ z = 20 ∨ z = 21 ∨ z = 22 ∨ z = 23 ∨ z = 24 ∨ z = 25 ∨ z = 26 ∨ z = 27 ∨ z = 28 ∨ z = 29 ∨ z = 30 ∨ z = 31 := by omega
    rcases h with rfl | rfl | rfl | rfl | rfl | rfl | rfl | rfl | rfl | rfl | rfl | rfl | rfl | rfl | rfl | rfl <;> rfl
  · have hk : ∀ k : Nat, 16 ≤ k → k < 32 → ¬ z = k := fun k h h2 e => by omega
    rw [if_neg hz, upd_ne9 (hk (ix (16 + 15)) (by decide) (by decide)), upd_ne9 (hk (ix (16 + 14)) (by decide) (by decide)), upd_ne9 (hk (ix (16 + 13)) (by decide) (by decide)), upd_ne9 (hk (ix (16 + 12)) (by decide) (by decide)), upd_ne9 (hk (ix (16 + 11)) (by decide) (by decide)), upd_ne9 (hk (ix (16 + 10)) (by decide) (by decide)), upd_ne9 (hk (ix (16 + 9)) (by decide) (by decide)), upd_ne9 (hk (ix (16 + 8)) (by decide) (by decide)), upd_ne9 (hk (ix (16 + 7)) (by decide) (by decide)), upd_ne9 (hk (ix (16 + 6)) (by decide) (by decide)), upd_ne9 (hk (ix (16 + 5)) (by decide) (by decide)), upd_ne9 (hk (ix (16 + 4)) (by decide) (by decide)), upd_ne9 (hk (ix (16 + 3)) (by decide) (by decide)), upd_ne9 (hk (ix (16 + 2)) (by decide) (by decide)), upd_ne9 (hk (ix (16 + 1)) (by decide) (by decide)), upd_ne9 (hk (ix (16 + 0)) (by decide) (by decide))]
set_option maxHeartbeats 4000000 in
set_option maxRecDepth 100000 in
theorem mtX7_init {l : Launch} {G : Gt}  {F : Nat → va_E} (hF : F 166 = .inr (9, [.null, .null, .null, .null, .null, .int 0, .int 0, .int 0, .int 0, .int 0, .int 0, .int 0, .int 0, .null, .int 0, .int 0, .null, .int 0, .int 0, .null, .int 0])) : MB l yX7_init wsX7_init { frames := 1, cells := 8, slots := 1568, locals := 12 } G (167, F) [rf G 166] (175, blF G 166 174 F) 8 1568 := by
  refine MB_of (cc := cX7_init) (own := RX7) (maxL := 2) (ret := none) (by decide +kernel) rfl rfl (Nat.le_of_ble_eq_true rfl) ?_
  intro p e s m args below meth c X hname
  show VB G p l e _ s m args below meth c 2 _ 0 0 167 F 0 [(0, rf G 166)] []
  refine wb_aload_n X dX7_init_0 0 rfl ?_
  refine wb_obj X (by decide +kernel) (by decide +kernel) (by decide +kernel) (Nat.le_of_ble_eq_true rfl) (Nat.le_of_ble_eq_true rfl) dX7_init_1 ?_
  refine wb_aload_n X dX7_init_4 0 rfl ?_
  refine wb_bipush X (v := 112) dX7_init_5 (by decide) ?_
  refine wb_newa0 (N := 112) X (by decide +kernel) (by decide) (by decide) (by decide) (Nat.le_of_ble_eq_true rfl) (Nat.le_of_ble_eq_true rfl) dX7_init_7 ?_
  refine wb_putF (q := 166) (ci := 9) (kf := 0) (N := 21) (fs := [.null, .null, .null, .null, .null, .int 0, .int 0, .int 0, .int 0, .int 0, .int 0, .int 0, .int 0, .null, .int 0, .int 0, .null, .int 0, .int 0, .null, .int 0]) (C := RX7) (ref := RX7) (T := TX7) (ty := (.array .int)) X tyX7 tyX7_ok nmX7 (by decide) (by first | rfl | exact hF) rfl (by decide +kernel) (by decide) (by decide +kernel) (fun _ h => h) rfl hname rfl rfl rfl rfl (Nat.le_of_ble_eq_true rfl) dX7_init_9 ?_
  refine wb_aload_n X dX7_init_12 0 rfl ?_
  refine wb_sipush X (v := 896) dX7_init_13 (by decide) ?_
  refine wb_newa0 (N := 896) X (by decide +kernel) (by decide) (by decide) (by decide) (Nat.le_of_ble_eq_true rfl) (Nat.le_of_ble_eq_true rfl) dX7_init_16 ?_
  refine wb_putF (q := 166) (ci := 9) (kf := 1) (N := 21) (fs := [rf G 167, .null, .null, .null, .null, .int 0, .int 0, .int 0, .int 0, .int 0, .int 0, .int 0, .int 0, .null, .int 0, .int 0, .null, .int 0, .int 0, .null, .int 0]) (C := RX7) (ref := RX7) (T := TX7) (ty := (.array .int)) X tyX7 tyX7_ok nmX7 (by decide) (by first | rfl | exact hF) rfl (by decide +kernel) (by decide) (by decide +kernel) (fun _ h => h) rfl hname rfl rfl rfl rfl (Nat.le_of_ble_eq_true rfl) dX7_init_18 ?_
  refine wb_aload_n X dX7_init_21 0 rfl ?_
  refine wb_bipush X (v := 112) dX7_init_22 (by decide) ?_
  refine wb_newa0 (N := 112) X (by decide +kernel) (by decide) (by decide) (by decide) (Nat.le_of_ble_eq_true rfl) (Nat.le_of_ble_eq_true rfl) dX7_init_24 ?_
  refine wb_putF (q := 166) (ci := 9) (kf := 2) (N := 21) (fs := [rf G 167, rf G 168, .null, .null, .null, .int 0, .int 0, .int 0, .int 0, .int 0, .int 0, .int 0, .int 0, .null, .int 0, .int 0, .null, .int 0, .int 0, .null, .int 0]) (C := RX7) (ref := RX7) (T := TX7) (ty := (.array .int)) X tyX7 tyX7_ok nmX7 (by decide) (by first | rfl | exact hF) rfl (by decide +kernel) (by decide) (by decide +kernel) (fun _ h => h) rfl hname rfl rfl rfl rfl (Nat.le_of_ble_eq_true rfl) dX7_init_26 ?_
  refine wb_aload_n X dX7_init_29 0 rfl ?_
  refine wb_bipush X (v := 112) dX7_init_30 (by decide) ?_
  refine wb_newa0 (N := 112) X (by decide +kernel) (by decide) (by decide) (by decide) (Nat.le_of_ble_eq_true rfl) (Nat.le_of_ble_eq_true rfl) dX7_init_32 ?_
  refine wb_putF (q := 166) (ci := 9) (kf := 3) (N := 21) (fs := [rf G 167, rf G 168, rf G 169, .null, .null, .int 0, .int 0, .int 0, .int 0, .int 0, .int 0, .int 0, .int 0, .null, .int 0, .int 0, .null, .int 0, .int 0, .null, .int 0]) (C := RX7) (ref := RX7) (T := TX7) (ty := (.array .int)) X tyX7 tyX7_ok nmX7 (by decide) (by first | rfl | exact hF) rfl (by decide +kernel) (by decide) (by decide +kernel) (fun _ h => h) rfl hname rfl rfl rfl rfl (Nat.le_of_ble_eq_true rfl) dX7_init_34 ?_
  refine wb_aload_n X dX7_init_37 0 rfl ?_
  refine wb_bipush X (v := 112) dX7_init_38 (by decide) ?_
  refine wb_newa0 (N := 112) X (by decide +kernel) (by decide) (by decide) (by decide) (Nat.le_of_ble_eq_true rfl) (Nat.le_of_ble_eq_true rfl) dX7_init_40 ?_
  refine wb_putF (q := 166) (ci := 9) (kf := 4) (N := 21) (fs := [rf G 167, rf G 168, rf G 169, rf G 170, .null, .int 0, .int 0, .int 0, .int 0, .int 0, .int 0, .int 0, .int 0, .null, .int 0, .int 0, .null, .int 0, .int 0, .null, .int 0]) (C := RX7) (ref := RX7) (T := TX7) (ty := (.array .int)) X tyX7 tyX7_ok nmX7 (by decide) (by first | rfl | exact hF) rfl (by decide +kernel) (by decide) (by decide +kernel) (fun _ h => h) rfl hname rfl rfl rfl rfl (Nat.le_of_ble_eq_true rfl) dX7_init_42 ?_
  refine wb_aload_n X dX7_init_45 0 rfl ?_
  refine wb_bipush X (v := 60) dX7_init_46 (by decide) ?_
  refine wb_newa0 (N := 60) X (by decide +kernel) (by decide) (by decide) (by decide) (Nat.le_of_ble_eq_true rfl) (Nat.le_of_ble_eq_true rfl) dX7_init_48 ?_
  refine wb_putF (q := 166) (ci := 9) (kf := 13) (N := 21) (fs := [rf G 167, rf G 168, rf G 169, rf G 170, rf G 171, .int 0, .int 0, .int 0, .int 0, .int 0, .int 0, .int 0, .int 0, .null, .int 0, .int 0, .null, .int 0, .int 0, .null, .int 0]) (C := RX7) (ref := RX7) (T := TX7) (ty := (.array .int)) X tyX7 tyX7_ok nmX7 (by decide) (by first | rfl | exact hF) rfl (by decide +kernel) (by decide) (by decide +kernel) (fun _ h => h) rfl hname rfl rfl rfl rfl (Nat.le_of_ble_eq_true rfl) dX7_init_50 ?_
  refine wb_aload_n X dX7_init_53 0 rfl ?_
  refine wb_iconst X (v := (-1)) dX7_init_54 (by decide) ?_
  refine wb_put (q := 166) (ci := 9) (kf := 15) (N := 21) (fs := [rf G 167, rf G 168, rf G 169, rf G 170, rf G 171, .int 0, .int 0, .int 0, .int 0, .int 0, .int 0, .int 0, .int 0, rf G 172, .int 0, .int 0, .null, .int 0, .int 0, .null, .int 0]) (C := RX7) (ref := RX7) (T := TX7) (ty := .int) X tyX7 tyX7_ok nmX7 (by decide) (by first | rfl | exact hF) rfl (by decide +kernel) (by decide) (by decide +kernel) (fun _ h => h) rfl rfl rfl rfl (Nat.le_of_ble_eq_true rfl) dX7_init_55 ?_
  refine wb_aload_n X dX7_init_58 0 rfl ?_
  refine wb_bipush X (v := 40) dX7_init_59 (by decide) ?_
  refine wb_newa1 (N := 40) X (by decide +kernel) (by decide) (by decide) (by decide) (Nat.le_of_ble_eq_true rfl) (Nat.le_of_ble_eq_true rfl) dX7_init_61 ?_
  refine wb_putF (q := 166) (ci := 9) (kf := 16) (N := 21) (fs := [rf G 167, rf G 168, rf G 169, rf G 170, rf G 171, .int 0, .int 0, .int 0, .int 0, .int 0, .int 0, .int 0, .int 0, rf G 172, .int 0, .int (-1), .null, .int 0, .int 0, .null, .int 0]) (C := RX7) (ref := RX7) (T := TX7) (ty := (.array .char)) X tyX7 tyX7_ok nmX7 (by decide) (by first | rfl | exact hF) rfl (by decide +kernel) (by decide) (by decide +kernel) (fun _ h => h) rfl hname rfl rfl rfl rfl (Nat.le_of_ble_eq_true rfl) dX7_init_63 ?_
  refine wb_aload_n X dX7_init_66 0 rfl ?_
  refine wb_bipush X (v := 124) dX7_init_67 (by decide) ?_
  refine wb_newa0 (N := 124) X (by decide +kernel) (by decide) (by decide) (by decide) (Nat.le_of_ble_eq_true rfl) (Nat.le_of_ble_eq_true rfl) dX7_init_69 ?_
  refine wb_putF (q := 166) (ci := 9) (kf := 19) (N := 21) (fs := [rf G 167, rf G 168, rf G 169, rf G 170, rf G 171, .int 0, .int 0, .int 0, .int 0, .int 0, .int 0, .int 0, .int 0, rf G 172, .int 0, .int (-1), rf G 173, .int 0, .int 0, .null, .int 0]) (C := RX7) (ref := RX7) (T := TX7) (ty := (.array .int)) X tyX7 tyX7_ok nmX7 (by decide) (by first | rfl | exact hF) rfl (by decide +kernel) (by decide) (by decide +kernel) (fun _ h => h) rfl hname rfl rfl rfl rfl (Nat.le_of_ble_eq_true rfl) dX7_init_71 ?_
  refine wb_iconst X (v := 0) dX7_init_74 (by decide) ?_
  refine wb_istore_n X (lv' := [(1, .int 0), (0, rf G 166)]) dX7_init_75 (by decide) rfl ?_
  refine wb_iload_n X dX7_init_76 0 rfl ?_
  refine wb_bipush X (v := 16) dX7_init_77 (by decide) ?_
  refine wb_icmp_ge X (tgt := 99) dX7_init_79 (by decide) (fun h => absurd h (by decide)) (fun _ => ?_)
  refine wb_aload_n X dX7_init_82 1 rfl ?_
  refine wb_get (q := 166) (ci := 9) (kf := 0) (N := 21) (fs := [rf G 167, rf G 168, rf G 169, rf G 170, rf G 171, .int 0, .int 0, .int 0, .int 0, .int 0, .int 0, .int 0, .int 0, rf G 172, .int 0, .int (-1), rf G 173, .int 0, .int 0, rf G 174, .int 0]) (C := RX7) (ref := RX7) (T := TX7) X (by decide) (by first | rfl | exact hF) rfl (by decide +kernel) (by decide) (fun _ h => h) rfl (by decide +kernel) dX7_init_83 ?_
  refine wb_bipush X (v := 16) dX7_init_86 (by decide) ?_
  refine wb_iload_n X dX7_init_88 0 rfl ?_
  refine wb_iadd X dX7_init_89 ?_
  refine wb_bipush X (v := 9) dX7_init_90 (by decide) ?_
  refine wb_iast (q := 167) (N := 112) (f := (fun _ => 0)) X (by decide) (by first | rfl | exact hF) (inb_in.mp (by decide)) dX7_init_92 ?_
  refine wb_iinc X (v := 1) (lv' := [(1, .int 1), (0, rf G 166)]) dX7_init_93 0 rfl (by decide) (by decide) rfl ?_
  refine wb_goto X (tgt := 76) dX7_init_96 (by decide) ?_
  refine wb_iload_n X dX7_init_76 0 rfl ?_
  refine wb_bipush X (v := 16) dX7_init_77 (by decide) ?_
  refine wb_icmp_ge X (tgt := 99) dX7_init_79 (by decide) (fun h => absurd h (by decide)) (fun _ => ?_)
  refine wb_aload_n X dX7_init_82 1 rfl ?_
  refine wb_get (q := 166) (ci := 9) (kf := 0) (N := 21) (fs := [rf G 167, rf G 168, rf G 169, rf G 170, rf G 171, .int 0, .int 0, .int 0, .int 0, .int 0, .int 0, .int 0, .int 0, rf G 172, .int 0, .int (-1), rf G 173, .int 0, .int 0, rf G 174, .int 0]) (C := RX7) (ref := RX7) (T := TX7) X (by decide) (by first | rfl | exact hF) rfl (by decide +kernel) (by decide) (fun _ h => h) rfl (by decide +kernel) dX7_init_83 ?_
  refine wb_bipush X (v := 16) dX7_init_86 (by decide) ?_
  refine wb_iload_n X dX7_init_88 0 rfl ?_
  refine wb_iadd X dX7_init_89 ?_
  refine wb_bipush X (v := 9) dX7_init_90 (by decide) ?_
  refine wb_iast (q := 167) (N := 112) (f := (upd (fun _ => 0) (ix (16 + 0)) 9)) X (by decide) (by first | rfl | exact hF) (inb_in.mp (by decide)) dX7_init_92 ?_
  refine wb_iinc X (v := 2) (lv' := [(1, .int 2), (0, rf G 166)]) dX7_init_93 0 rfl (by decide) (by decide) rfl ?_
  refine wb_goto X (tgt := 76) dX7_init_96 (by decide) ?_
  refine wb_iload_n X dX7_init_76 0 rfl ?_
  refine wb_bipush X (v := 16) dX7_init_77 (by decide) ?_
  refine wb_icmp_ge X (tgt := 99) dX7_init_79 (by decide) (fun h => absurd h (by decide)) (fun _ => ?_)
  refine wb_aload_n X dX7_init_82 1 rfl ?_
  refine wb_get (q := 166) (ci := 9) (kf := 0) (N := 21) (fs := [rf G 167, rf G 168, rf G 169, rf G 170, rf G 171, .int 0, .int 0, .int 0, .int 0, .int 0, .int 0, .int 0, .int 0, rf G 172, .int 0, .int (-1), rf G 173, .int 0, .int 0, rf G 174, .int 0]) (C := RX7) (ref := RX7) (T := TX7) X (by decide) (by first | rfl | exact hF) rfl (by decide +kernel) (by decide) (fun _ h => h) rfl (by decide +kernel) dX7_init_83 ?_
  refine wb_bipush X (v := 16) dX7_init_86 (by decide) ?_
  refine wb_iload_n X dX7_init_88 0 rfl ?_
  refine wb_iadd X dX7_init_89 ?_
  refine wb_bipush X (v := 9) dX7_init_90 (by decide) ?_
  refine wb_iast (q := 167) (N := 112) (f := (upd (upd (fun _ => 0) (ix (16 + 0)) 9) (ix (16 + 1)) 9)) X (by decide) (by first | rfl | exact hF) (inb_in.mp (by decide)) dX7_init_92 ?_
  refine wb_iinc X (v := 3) (lv' := [(1, .int 3), (0, rf G 166)]) dX7_init_93 0 rfl (by decide) (by decide) rfl ?_
  refine wb_goto X (tgt := 76) dX7_init_96 (by decide) ?_
  refine wb_iload_n X dX7_init_76 0 rfl ?_
  refine wb_bipush X (v := 16) dX7_init_77 (by decide) ?_
  refine wb_icmp_ge X (tgt := 99) dX7_init_79 (by decide) (fun h => absurd h (by decide)) (fun _ => ?_)
  refine wb_aload_n X dX7_init_82 1 rfl ?_
  refine wb_get (q := 166) (ci := 9) (kf := 0) (N := 21) (fs := [rf G 167, rf G 168, rf G 169, rf G 170, rf G 171, .int 0, .int 0, .int 0, .int 0, .int 0, .int 0, .int 0, .int 0, rf G 172, .int 0, .int (-1), rf G 173, .int 0, .int 0, rf G 174, .int 0]) (C := RX7) (ref := RX7) (T := TX7) X (by decide) (by first | rfl | exact hF) rfl (by decide +kernel) (by decide) (fun _ h => h) rfl (by decide +kernel) dX7_init_83 ?_
  refine wb_bipush X (v := 16) dX7_init_86 (by decide) ?_
  refine wb_iload_n X dX7_init_88 0 rfl ?_
  refine wb_iadd X dX7_init_89 ?_
  refine wb_bipush X (v := 9) dX7_init_90 (by decide) ?_
  refine wb_iast (q := 167) (N := 112) (f := (upd (upd (upd (fun _ => 0) (ix (16 + 0)) 9) (ix (16 + 1)) 9) (ix (16 + 2)) 9)) X (by decide) (by first | rfl | exact hF) (inb_in.mp (by decide)) dX7_init_92 ?_
  refine wb_iinc X (v := 4) (lv' := [(1, .int 4), (0, rf G 166)]) dX7_init_93 0 rfl (by decide) (by decide) rfl ?_
  refine wb_goto X (tgt := 76) dX7_init_96 (by decide) ?_
  refine wb_iload_n X dX7_init_76 0 rfl ?_
  refine wb_bipush X (v := 16) dX7_init_77 (by decide) ?_
  refine wb_icmp_ge X (tgt := 99) dX7_init_79 (by decide) (fun h => absurd h (by decide)) (fun _ => ?_)
  refine wb_aload_n X dX7_init_82 1 rfl ?_
  refine wb_get (q := 166) (ci := 9) (kf := 0) (N := 21) (fs := [rf G 167, rf G 168, rf G 169, rf G 170, rf G 171, .int 0, .int 0, .int 0, .int 0, .int 0, .int 0, .int 0, .int 0, rf G 172, .int 0, .int (-1), rf G 173, .int 0, .int 0, rf G 174, .int 0]) (C := RX7) (ref := RX7) (T := TX7) X (by decide) (by first | rfl | exact hF) rfl (by decide +kernel) (by decide) (fun _ h => h) rfl (by decide +kernel) dX7_init_83 ?_
  refine wb_bipush X (v := 16) dX7_init_86 (by decide) ?_
  refine wb_iload_n X dX7_init_88 0 rfl ?_
  refine wb_iadd X dX7_init_89 ?_
  refine wb_bipush X (v := 9) dX7_init_90 (by decide) ?_
  refine wb_iast (q := 167) (N := 112) (f := (upd (upd (upd (upd (fun _ => 0) (ix (16 + 0)) 9) (ix (16 + 1)) 9) (ix (16 + 2)) 9) (ix (16 + 3)) 9)) X (by decide) (by first | rfl | exact hF) (inb_in.mp (by decide)) dX7_init_92 ?_
  refine wb_iinc X (v := 5) (lv' := [(1, .int 5), (0, rf G 166)]) dX7_init_93 0 rfl (by decide) (by decide) rfl ?_
  refine wb_goto X (tgt := 76) dX7_init_96 (by decide) ?_
  refine wb_iload_n X dX7_init_76 0 rfl ?_
  refine wb_bipush X (v := 16) dX7_init_77 (by decide) ?_
  refine wb_icmp_ge X (tgt := 99) dX7_init_79 (by decide) (fun h => absurd h (by decide)) (fun _ => ?_)
  refine wb_aload_n X dX7_init_82 1 rfl ?_
  refine wb_get (q := 166) (ci := 9) (kf := 0) (N := 21) (fs := [rf G 167, rf G 168, rf G 169, rf G 170, rf G 171, .int 0, .int 0, .int 0, .int 0, .int 0, .int 0, .int 0, .int 0, rf G 172, .int 0, .int (-1), rf G 173, .int 0, .int 0, rf G 174, .int 0]) (C := RX7) (ref := RX7) (T := TX7) X (by decide) (by first | rfl | exact hF) rfl (by decide +kernel) (by decide) (fun _ h => h) rfl (by decide +kernel) dX7_init_83 ?_
  refine wb_bipush X (v := 16) dX7_init_86 (by decide) ?_
  refine wb_iload_n X dX7_init_88 0 rfl ?_
  refine wb_iadd X dX7_init_89 ?_
  refine wb_bipush X (v := 9) dX7_init_90 (by decide) ?_
  refine wb_iast (q := 167) (N := 112) (f := (upd (upd (upd (upd (upd (fun _ => 0) (ix (16 + 0)) 9) (ix (16 + 1)) 9) (ix (16 + 2)) 9) (ix (16 + 3)) 9) (ix (16 + 4)) 9)) X (by decide) (by first | rfl | exact hF) (inb_in.mp (by decide)) dX7_init_92 ?_
  refine wb_iinc X (v := 6) (lv' := [(1, .int 6), (0, rf G 166)]) dX7_init_93 0 rfl (by decide) (by decide) rfl ?_
  refine wb_goto X (tgt := 76) dX7_init_96 (by decide) ?_
  refine wb_iload_n X dX7_init_76 0 rfl ?_
  refine wb_bipush X (v := 16) dX7_init_77 (by decide) ?_
  refine wb_icmp_ge X (tgt := 99) dX7_init_79 (by decide) (fun h => absurd h (by decide)) (fun _ => ?_)
  refine wb_aload_n X dX7_init_82 1 rfl ?_
  refine wb_get (q := 166) (ci := 9) (kf := 0) (N := 21) (fs := [rf G 167, rf G 168, rf G 169, rf G 170, rf G 171, .int 0, .int 0, .int 0, .int 0, .int 0, .int 0, .int 0, .int 0, rf G 172, .int 0, .int (-1), rf G 173, .int 0, .int 0, rf G 174, .int 0]) (C := RX7) (ref := RX7) (T := TX7) X (by decide) (by first | rfl | exact hF) rfl (by decide +kernel) (by decide) (fun _ h => h) rfl (by decide +kernel) dX7_init_83 ?_
  refine wb_bipush X (v := 16) dX7_init_86 (by decide) ?_
  refine wb_iload_n X dX7_init_88 0 rfl ?_
  refine wb_iadd X dX7_init_89 ?_
  refine wb_bipush X (v := 9) dX7_init_90 (by decide) ?_
  refine wb_iast (q := 167) (N := 112) (f := (upd (upd (upd (upd (upd (upd (fun _ => 0) (ix (16 + 0)) 9) (ix (16 + 1)) 9) (ix (16 + 2)) 9) (ix (16 + 3)) 9) (ix (16 + 4)) 9) (ix (16 + 5)) 9)) X (by decide) (by first | rfl | exact hF) (inb_in.mp (by decide)) dX7_init_92 ?_
  refine wb_iinc X (v := 7) (lv' := [(1, .int 7), (0, rf G 166)]) dX7_init_93 0 rfl (by decide) (by decide) rfl ?_
  refine wb_goto X (tgt := 76) dX7_init_96 (by decide) ?_
  refine wb_iload_n X dX7_init_76 0 rfl ?_
  refine wb_bipush X (v := 16) dX7_init_77 (by decide) ?_
  refine wb_icmp_ge X (tgt := 99) dX7_init_79 (by decide) (fun h => absurd h (by decide)) (fun _ => ?_)
  refine wb_aload_n X dX7_init_82 1 rfl ?_
  refine wb_get (q := 166) (ci := 9) (kf := 0) (N := 21) (fs := [rf G 167, rf G 168, rf G 169, rf G 170, rf G 171, .int 0, .int 0, .int 0, .int 0, .int 0, .int 0, .int 0, .int 0, rf G 172, .int 0, .int (-1), rf G 173, .int 0, .int 0, rf G 174, .int 0]) (C := RX7) (ref := RX7) (T := TX7) X (by decide) (by first | rfl | exact hF) rfl (by decide +kernel) (by decide) (fun _ h => h) rfl (by decide +kernel) dX7_init_83 ?_
  refine wb_bipush X (v := 16) dX7_init_86 (by decide) ?_
  refine wb_iload_n X dX7_init_88 0 rfl ?_
  refine wb_iadd X dX7_init_89 ?_
  refine wb_bipush X (v := 9) dX7_init_90 (by decide) ?_
  refine wb_iast (q := 167) (N := 112) (f := (upd (upd (upd (upd (upd (upd (upd (fun _ => 0) (ix (16 + 0)) 9) (ix (16 + 1)) 9) (ix (16 + 2)) 9) (ix (16 + 3)) 9) (ix (16 + 4)) 9) (ix (16 + 5)) 9) (ix (16 + 6)) 9)) X (by decide) (by first | rfl | exact hF) (inb_in.mp (by decide)) dX7_init_92 ?_
  refine wb_iinc X (v := 8) (lv' := [(1, .int 8), (0, rf G 166)]) dX7_init_93 0 rfl (by decide) (by decide) rfl ?_
  refine wb_goto X (tgt := 76) dX7_init_96 (by decide) ?_
  refine wb_iload_n X dX7_init_76 0 rfl ?_
  refine wb_bipush X (v := 16) dX7_init_77 (by decide) ?_
  refine wb_icmp_ge X (tgt := 99) dX7_init_79 (by decide) (fun h => absurd h (by decide)) (fun _ => ?_)
  refine wb_aload_n X dX7_init_82 1 rfl ?_
  refine wb_get (q := 166) (ci := 9) (kf := 0) (N := 21) (fs := [rf G 167, rf G 168, rf G 169, rf G 170, rf G 171, .int 0, .int 0, .int 0, .int 0, .int 0, .int 0, .int 0, .int 0, rf G 172, .int 0, .int (-1), rf G 173, .int 0, .int 0, rf G 174, .int 0]) (C := RX7) (ref := RX7) (T := TX7) X (by decide) (by first | rfl | exact hF) rfl (by decide +kernel) (by decide) (fun _ h => h) rfl (by decide +kernel) dX7_init_83 ?_
  refine wb_bipush X (v := 16) dX7_init_86 (by decide) ?_
  refine wb_iload_n X dX7_init_88 0 rfl ?_
  refine wb_iadd X dX7_init_89 ?_
  refine wb_bipush X (v := 9) dX7_init_90 (by decide) ?_
  refine wb_iast (q := 167) (N := 112) (f := (upd (upd (upd (upd (upd (upd (upd (upd (fun _ => 0) (ix (16 + 0)) 9) (ix (16 + 1)) 9) (ix (16 + 2)) 9) (ix (16 + 3)) 9) (ix (16 + 4)) 9) (ix (16 + 5)) 9) (ix (16 + 6)) 9) (ix (16 + 7)) 9)) X (by decide) (by first | rfl | exact hF) (inb_in.mp (by decide)) dX7_init_92 ?_
  refine wb_iinc X (v := 9) (lv' := [(1, .int 9), (0, rf G 166)]) dX7_init_93 0 rfl (by decide) (by decide) rfl ?_
  refine wb_goto X (tgt := 76) dX7_init_96 (by decide) ?_
  refine wb_iload_n X dX7_init_76 0 rfl ?_
  refine wb_bipush X (v := 16) dX7_init_77 (by decide) ?_
  refine wb_icmp_ge X (tgt := 99) dX7_init_79 (by decide) (fun h => absurd h (by decide)) (fun _ => ?_)
  refine wb_aload_n X dX7_init_82 1 rfl ?_
  refine wb_get (q := 166) (ci := 9) (kf := 0) (N := 21) (fs := [rf G 167, rf G 168, rf G 169, rf G 170, rf G 171, .int 0, .int 0, .int 0, .int 0, .int 0, .int 0, .int 0, .int 0, rf G 172, .int 0, .int (-1), rf G 173, .int 0, .int 0, rf G 174, .int 0]) (C := RX7) (ref := RX7) (T := TX7) X (by decide) (by first | rfl | exact hF) rfl (by decide +kernel) (by decide) (fun _ h => h) rfl (by decide +kernel) dX7_init_83 ?_
  refine wb_bipush X (v := 16) dX7_init_86 (by decide) ?_
  refine wb_iload_n X dX7_init_88 0 rfl ?_
  refine wb_iadd X dX7_init_89 ?_
  refine wb_bipush X (v := 9) dX7_init_90 (by decide) ?_
  refine wb_iast (q := 167) (N := 112) (f := (upd (upd (upd (upd (upd (upd (upd (upd (upd (fun _ => 0) (ix (16 + 0)) 9) (ix (16 + 1)) 9) (ix (16 + 2)) 9) (ix (16 + 3)) 9) (ix (16 + 4)) 9) (ix (16 + 5)) 9) (ix (16 + 6)) 9) (ix (16 + 7)) 9) (ix (16 + 8)) 9)) X (by decide) (by first | rfl | exact hF) (inb_in.mp (by decide)) dX7_init_92 ?_
  refine wb_iinc X (v := 10) (lv' := [(1, .int 10), (0, rf G 166)]) dX7_init_93 0 rfl (by decide) (by decide) rfl ?_
  refine wb_goto X (tgt := 76) dX7_init_96 (by decide) ?_
  refine wb_iload_n X dX7_init_76 0 rfl ?_
  refine wb_bipush X (v := 16) dX7_init_77 (by decide) ?_
  refine wb_icmp_ge X (tgt := 99) dX7_init_79 (by decide) (fun h => absurd h (by decide)) (fun _ => ?_)
  refine wb_aload_n X dX7_init_82 1 rfl ?_
  refine wb_get (q := 166) (ci := 9) (kf := 0) (N := 21) (fs := [rf G 167, rf G 168, rf G 169, rf G 170, rf G 171, .int 0, .int 0, .int 0, .int 0, .int 0, .int 0, .int 0, .int 0, rf G 172, .int 0, .int (-1), rf G 173, .int 0, .int 0, rf G 174, .int 0]) (C := RX7) (ref := RX7) (T := TX7) X (by decide) (by first | rfl | exact hF) rfl (by decide +kernel) (by decide) (fun _ h => h) rfl (by decide +kernel) dX7_init_83 ?_
  refine wb_bipush X (v := 16) dX7_init_86 (by decide) ?_
  refine wb_iload_n X dX7_init_88 0 rfl ?_
  refine wb_iadd X dX7_init_89 ?_
  refine wb_bipush X (v := 9) dX7_init_90 (by decide) ?_
  refine wb_iast (q := 167) (N := 112) (f := (upd (upd (upd (upd (upd (upd (upd (upd (upd (upd (fun _ => 0) (ix (16 + 0)) 9) (ix (16 + 1)) 9) (ix (16 + 2)) 9) (ix (16 + 3)) 9) (ix (16 + 4)) 9) (ix (16 + 5)) 9) (ix (16 + 6)) 9) (ix (16 + 7)) 9) (ix (16 + 8)) 9) (ix (16 + 9)) 9)) X (by decide) (by first | rfl | exact hF) (inb_in.mp (by decide)) dX7_init_92 ?_
  refine wb_iinc X (v := 11) (lv' := [(1, .int 11), (0, rf G 166)]) dX7_init_93 0 rfl (by decide) (by decide) rfl ?_
  refine wb_goto X (tgt := 76) dX7_init_96 (by decide) ?_
  refine wb_iload_n X dX7_init_76 0 rfl ?_
  refine wb_bipush X (v := 16) dX7_init_77 (by decide) ?_
  refine wb_icmp_ge X (tgt := 99) dX7_init_79 (by decide) (fun h => absurd h (by decide)) (fun _ => ?_)
  refine wb_aload_n X dX7_init_82 1 rfl ?_
  refine wb_get (q := 166) (ci := 9) (kf := 0) (N := 21) (fs := [rf G 167, rf G 168, rf G 169, rf G 170, rf G 171, .int 0, .int 0, .int 0, .int 0, .int 0, .int 0, .int 0, .int 0, rf G 172, .int 0, .int (-1), rf G 173, .int 0, .int 0, rf G 174, .int 0]) (C := RX7) (ref := RX7) (T := TX7) X (by decide) (by first | rfl | exact hF) rfl (by decide +kernel) (by decide) (fun _ h => h) rfl (by decide +kernel) dX7_init_83 ?_
  refine wb_bipush X (v := 16) dX7_init_86 (by decide) ?_
  refine wb_iload_n X dX7_init_88 0 rfl ?_
  refine wb_iadd X dX7_init_89 ?_
  refine wb_bipush X (v := 9) dX7_init_90 (by decide) ?_
  refine wb_iast (q := 167) (N := 112) (f := (upd (upd (upd (upd (upd (upd (upd (upd (upd (upd (upd (fun _ => 0) (ix (16 + 0)) 9) (ix (16 + 1)) 9) (ix (16 + 2)) 9) (ix (16 + 3)) 9) (ix (16 + 4)) 9) (ix (16 + 5)) 9) (ix (16 + 6)) 9) (ix (16 + 7)) 9) (ix (16 + 8)) 9) (ix (16 + 9)) 9) (ix (16 + 10)) 9)) X (by decide) (by first | rfl | exact hF) (inb_in.mp (by decide)) dX7_init_92 ?_
  refine wb_iinc X (v := 12) (lv' := [(1, .int 12), (0, rf G 166)]) dX7_init_93 0 rfl (by decide) (by decide) rfl ?_
  refine wb_goto X (tgt := 76) dX7_init_96 (by decide) ?_
  refine wb_iload_n X dX7_init_76 0 rfl ?_
  refine wb_bipush X (v := 16) dX7_init_77 (by decide) ?_
  refine wb_icmp_ge X (tgt := 99) dX7_init_79 (by decide) (fun h => absurd h (by decide)) (fun _ => ?_)
  refine wb_aload_n X dX7_init_82 1 rfl ?_
  refine wb_get (q := 166) (ci := 9) (kf := 0) (N := 21) (fs := [rf G 167, rf G 168, rf G 169, rf G 170, rf G 171, .int 0, .int 0, .int 0, .int 0, .int 0, .int 0, .int 0, .int 0, rf G 172, .int 0, .int (-1), rf G 173, .int 0, .int 0, rf G 174, .int 0]) (C := RX7) (ref := RX7) (T := TX7) X (by decide) (by first | rfl | exact hF) rfl (by decide +kernel) (by decide) (fun _ h => h) rfl (by decide +kernel) dX7_init_83 ?_
  refine wb_bipush X (v := 16) dX7_init_86 (by decide) ?_
  refine wb_iload_n X dX7_init_88 0 rfl ?_
  refine wb_iadd X dX7_init_89 ?_
  refine wb_bipush X (v := 9) dX7_init_90 (by decide) ?_
  refine wb_iast (q := 167) (N := 112) (f := (upd (upd (upd (upd (upd (upd (upd (upd (upd (upd (upd (upd (fun _ => 0) (ix (16 + 0)) 9) (ix (16 + 1)) 9) (ix (16 + 2)) 9) (ix (16 + 3)) 9) (ix (16 + 4)) 9) (ix (16 + 5)) 9) (ix (16 + 6)) 9) (ix (16 + 7)) 9) (ix (16 + 8)) 9) (ix (16 + 9)) 9) (ix (16 + 10)) 9) (ix (16 + 11)) 9)) X (by decide) (by first | rfl | exact hF) (inb_in.mp (by decide)) dX7_init_92 ?_
  refine wb_iinc X (v := 13) (lv' := [(1, .int 13), (0, rf G 166)]) dX7_init_93 0 rfl (by decide) (by decide) rfl ?_
  refine wb_goto X (tgt := 76) dX7_init_96 (by decide) ?_
  refine wb_iload_n X dX7_init_76 0 rfl ?_
  refine wb_bipush X (v := 16) dX7_init_77 (by decide) ?_
  refine wb_icmp_ge X (tgt := 99) dX7_init_79 (by decide) (fun h => absurd h (by decide)) (fun _ => ?_)
  refine wb_aload_n X dX7_init_82 1 rfl ?_
  refine wb_get (q := 166) (ci := 9) (kf := 0) (N := 21) (fs := [rf G 167, rf G 168, rf G 169, rf G 170, rf G 171, .int 0, .int 0, .int 0, .int 0, .int 0, .int 0, .int 0, .int 0, rf G 172, .int 0, .int (-1), rf G 173, .int 0, .int 0, rf G 174, .int 0]) (C := RX7) (ref := RX7) (T := TX7) X (by decide) (by first | rfl | exact hF) rfl (by decide +kernel) (by decide) (fun _ h => h) rfl (by decide +kernel) dX7_init_83 ?_
  refine wb_bipush X (v := 16) dX7_init_86 (by decide) ?_
  refine wb_iload_n X dX7_init_88 0 rfl ?_
  refine wb_iadd X dX7_init_89 ?_
  refine wb_bipush X (v := 9) dX7_init_90 (by decide) ?_
  refine wb_iast (q := 167) (N := 112) (f := (upd (upd (upd (upd (upd (upd (upd (upd (upd (upd (upd (upd (upd (fun _ => 0) (ix (16 + 0)) 9) (ix (16 + 1)) 9) (ix (16 + 2)) 9) (ix (16 + 3)) 9) (ix (16 + 4)) 9) (ix (16 + 5)) 9) (ix (16 + 6)) 9) (ix (16 + 7)) 9) (ix (16 + 8)) 9) (ix (16 + 9)) 9) (ix (16 + 10)) 9) (ix (16 + 11)) 9) (ix (16 + 12)) 9)) X (by decide) (by first | rfl | exact hF) (inb_in.mp (by decide)) dX7_init_92 ?_
  refine wb_iinc X (v := 14) (lv' := [(1, .int 14), (0, rf G 166)]) dX7_init_93 0 rfl (by decide) (by decide) rfl ?_
  refine wb_goto X (tgt := 76) dX7_init_96 (by decide) ?_
  refine wb_iload_n X dX7_init_76 0 rfl ?_
  refine wb_bipush X (v := 16) dX7_init_77 (by decide) ?_
  refine wb_icmp_ge X (tgt := 99) dX7_init_79 (by decide) (fun h => absurd h (by decide)) (fun _ => ?_)
  refine wb_aload_n X dX7_init_82 1 rfl ?_
  refine wb_get (q := 166) (ci := 9) (kf := 0) (N := 21) (fs := [rf G 167, rf G 168, rf G 169, rf G 170, rf G 171, .int 0, .int 0, .int 0, .int 0, .int 0, .int 0, .int 0, .int 0, rf G 172, .int 0, .int (-1), rf G 173, .int 0, .int 0, rf G 174, .int 0]) (C := RX7) (ref := RX7) (T := TX7) X (by decide) (by first | rfl | exact hF) rfl (by decide +kernel) (by decide) (fun _ h => h) rfl (by decide +kernel) dX7_init_83 ?_
  refine wb_bipush X (v := 16) dX7_init_86 (by decide) ?_
  refine wb_iload_n X dX7_init_88 0 rfl ?_
  refine wb_iadd X dX7_init_89 ?_
  refine wb_bipush X (v := 9) dX7_init_90 (by decide) ?_
  refine wb_iast (q := 167) (N := 112) (f := (upd (upd (upd (upd (upd (upd (upd (upd (upd (upd (upd (upd (upd (upd (fun _ => 0) (ix (16 + 0)) 9) (ix (16 + 1)) 9) (ix (16 + 2)) 9) (ix (16 + 3)) 9) (ix (16 + 4)) 9) (ix (16 + 5)) 9) (ix (16 + 6)) 9) (ix (16 + 7)) 9) (ix (16 + 8)) 9) (ix (16 + 9)) 9) (ix (16 + 10)) 9) (ix (16 + 11)) 9) (ix (16 + 12)) 9) (ix (16 + 13)) 9)) X (by decide) (by first | rfl | exact hF) (inb_in.mp (by decide)) dX7_init_92 ?_
  refine wb_iinc X (v := 15) (lv' := [(1, .int 15), (0, rf G 166)]) dX7_init_93 0 rfl (by decide) (by decide) rfl ?_
  refine wb_goto X (tgt := 76) dX7_init_96 (by decide) ?_
  refine wb_iload_n X dX7_init_76 0 rfl ?_
  refine wb_bipush X (v := 16) dX7_init_77 (by decide) ?_
  refine wb_icmp_ge X (tgt := 99) dX7_init_79 (by decide) (fun h => absurd h (by decide)) (fun _ => ?_)
  refine wb_aload_n X dX7_init_82 1 rfl ?_
  refine wb_get (q := 166) (ci := 9) (kf := 0) (N := 21) (fs := [rf G 167, rf G 168, rf G 169, rf G 170, rf G 171, .int 0, .int 0, .int 0, .int 0, .int 0, .int 0, .int 0, .int 0, rf G 172, .int 0, .int (-1), rf G 173, .int 0, .int 0, rf G 174, .int 0]) (C := RX7) (ref := RX7) (T := TX7) X (by decide) (by first | rfl | exact hF) rfl (by decide +kernel) (by decide) (fun _ h => h) rfl (by decide +kernel) dX7_init_83 ?_
  refine wb_bipush X (v := 16) dX7_init_86 (by decide) ?_
  refine wb_iload_n X dX7_init_88 0 rfl ?_
  refine wb_iadd X dX7_init_89 ?_
  refine wb_bipush X (v := 9) dX7_init_90 (by decide) ?_
  refine wb_iast (q := 167) (N := 112) (f := (upd (upd (upd (upd (upd (upd (upd (upd (upd (upd (upd (upd (upd (upd (upd (fun _ => 0) (ix (16 + 0)) 9) (ix (16 + 1)) 9) (ix (16 + 2)) 9) (ix (16 + 3)) 9) (ix (16 + 4)) 9) (ix (16 + 5)) 9) (ix (16 + 6)) 9) (ix (16 + 7)) 9) (ix (16 + 8)) 9) (ix (16 + 9)) 9) (ix (16 + 10)) 9) (ix (16 + 11)) 9) (ix (16 + 12)) 9) (ix (16 + 13)) 9) (ix (16 + 14)) 9)) X (by decide) (by first | rfl | exact hF) (inb_in.mp (by decide)) dX7_init_92 ?_
  refine wb_iinc X (v := 16) (lv' := [(1, .int 16), (0, rf G 166)]) dX7_init_93 0 rfl (by decide) (by decide) rfl ?_
  refine wb_goto X (tgt := 76) dX7_init_96 (by decide) ?_
  refine wb_iload_n X dX7_init_76 0 rfl ?_
  refine wb_bipush X (v := 16) dX7_init_77 (by decide) ?_
  refine wb_icmp_ge X (tgt := 99) dX7_init_79 (by decide) (fun _ => ?_) (fun h => absurd (by decide) h)
  refine wb_vret X dX7_init_99 (by decide) (by decide) ?_
  refine Prod.ext rfl (funext fun j => ?_)
  by_cases h : 166 ≤ j ∧ j ≤ 174
  · show (if 166 ≤ j ∧ j ≤ 174 then cel G (S0 G) j else F j) = _
    rw [if_pos h]
    have h2 : j = 166 ∨ j = 167 ∨ j = 168 ∨ j = 169 ∨ j = 170 ∨ j = 171 ∨ j = 172 ∨ j = 173 ∨ j = 174 := by omega
    clear h
    rcases h2 with rfl | rfl | rfl | rfl | rfl | rfl | rfl | rfl | rfl
    · rfl
    · show (.inl (G.2.1 0, 112, .inl (fun j => if 16 ≤ j ∧ j < 32 then (9 : Int32) else 0)) : va_E) = _
      rw [← gr32]
      rfl
    · rfl
    · rfl
    · rfl
    · rfl
    · rfl
    · rfl
    · rfl
  · show (if 166 ≤ j ∧ j ≤ 174 then cel G (S0 G) j else F j) = _
    rw [if_neg h]
    symm
    repeat' (first | rfl | (refine (ue_ne (by omega)).trans ?_) | (refine (blF_ne (by omega)).trans ?_))

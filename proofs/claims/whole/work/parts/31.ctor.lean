theorem dfX1 : ∀ j, j < 5 → defaultValue (tyX1 j) = vp_V [.null, .int 0, .int 0, .null, .null] j := by
  intro j hj
  have h : j = 0 ∨ j = 1 ∨ j = 2 ∨ j = 3 ∨ j = 4 := by omega
  rcases h with rfl | rfl | rfl | rfl | rfl <;> rfl
theorem dfX2 : ∀ j, j < 3 → defaultValue (tyX2 j) = vp_V [.null, .int 0, .int 0] j := by
  intro j hj
  have h : j = 0 ∨ j = 1 ∨ j = 2 := by omega
  rcases h with rfl | rfl | rfl <;> rfl
theorem dfX4 : ∀ j, j < 1 → defaultValue (tyX4 j) = vp_V [.null] j := by
  intro j hj
  have h : j = 0 := by omega
  rcases h with rfl <;> rfl
theorem dfX5 : ∀ j, j < 12 → defaultValue (tyX5 j) = vp_V [.null, .int 0, .int 0, .null, .null, .null, .null, .int 0, .null, .int 0, .int 0, .int 0] j := by
  intro j hj
  have h : j = 0 ∨ j = 1 ∨ j = 2 ∨ j = 3 ∨ j = 4 ∨ j = 5 ∨ j = 6 ∨ j = 7 ∨ j = 8 ∨ j = 9 ∨ j = 10 ∨ j = 11 := by omega
  rcases h with rfl | rfl | rfl | rfl | rfl | rfl | rfl | rfl | rfl | rfl | rfl | rfl <;> rfl
theorem dfX6 : ∀ j, j < 12 → defaultValue (tyX6 j) = vp_V [.null, .null, .null, .null, .int 0, .null, .null, .null, .int 0, .int 0, .int 0, .int 0] j := by
  intro j hj
  have h : j = 0 ∨ j = 1 ∨ j = 2 ∨ j = 3 ∨ j = 4 ∨ j = 5 ∨ j = 6 ∨ j = 7 ∨ j = 8 ∨ j = 9 ∨ j = 10 ∨ j = 11 := by omega
  rcases h with rfl | rfl | rfl | rfl | rfl | rfl | rfl | rfl | rfl | rfl | rfl | rfl <;> rfl
theorem dfX7 : ∀ j, j < 21 → defaultValue (tyX7 j) = vp_V [.null, .null, .null, .null, .null, .int 0, .int 0, .int 0, .int 0, .int 0, .int 0, .int 0, .int 0, .null, .int 0, .int 0, .null, .int 0, .int 0, .null, .int 0] j := by
  intro j hj
  have h : j = 0 ∨ j = 1 ∨ j = 2 ∨ j = 3 ∨ j = 4 ∨ j = 5 ∨ j = 6 ∨ j = 7 ∨ j = 8 ∨ j = 9 ∨ j = 10 ∨ j = 11 ∨ j = 12 ∨ j = 13 ∨ j = 14 ∨ j = 15 ∨ j = 16 ∨ j = 17 ∨ j = 18 ∨ j = 19 ∨ j = 20 := by omega
  rcases h with rfl | rfl | rfl | rfl | rfl | rfl | rfl | rfl | rfl | rfl | rfl | rfl | rfl | rfl | rfl | rfl | rfl | rfl | rfl | rfl | rfl <;> rfl
theorem dfJ4 : ∀ j, j < 4 → defaultValue (tyJ4 j) = vp_V [.null, .int 0, .int 0, .int 0] j := by
  intro j hj
  have h : j = 0 ∨ j = 1 ∨ j = 2 ∨ j = 3 := by omega
  rcases h with rfl | rfl | rfl | rfl <;> rfl
/-! ===== the makers ===== -/
def S0 (G : Gt) : Wo := (fun o k => if (o = 0 ∧ k = 8) ∨ (o = 166 ∧ k = 15) then -1 else 0, fun a => if a = 167 then (fun j => if 16 ≤ j ∧ j < 32 then 9 else 0) else if a ≤ 158 ∧ ((a ≤ 52 ∧ (a - 1) % 13 = 12) ∨ (55 ≤ a ∧ (a - 55) % 13 = 12)) then (fun j => if j < 16 then 9 else 0) else fun _ => 0, (0, gB G + 165, 16), (0, 0))
theorem ue_ne {F : Nat → va_E} {j k : Nat} {x : va_E} (h : k ≠ j) : ue F j x k = F k := if_neg h
/-- the blocks that the makers leave -/
def blF (G : Gt) (a b : Nat) (F : Nat → va_E) : Nat → va_E := fun j => if a ≤ j ∧ j ≤ b then cel G (S0 G) j else F j
theorem blF_in {G : Gt} {F : Nat → va_E} {a b k : Nat} (h : a ≤ k ∧ k ≤ b) : blF G a b F k = cel G (S0 G) k := if_pos h
theorem blF_ne {G : Gt} {F : Nat → va_E} {a b k : Nat} (h : k < a ∨ b < k) : blF G a b F k = F k := if_neg (by omega)
theorem upd_ne9 {f : Nat → Int32} {i z : Nat} {x : Int32} (h : ¬ z = i) : upd f i x z = f z := by simp [upd, h]
theorem gr16 : ((upd (upd (upd (upd (upd (upd (upd (upd (upd (upd (upd (upd (upd (upd (upd (upd (fun _ => 0) (ix 0) 9) (ix 1) 9) (ix 2) 9) (ix 3) 9) (ix 4) 9) (ix 5) 9) (ix 6) 9) (ix 7) 9) (ix 8) 9) (ix 9) 9) (ix 10) 9) (ix 11) 9) (ix 12) 9) (ix 13) 9) (ix 14) 9) (ix 15) 9) : Nat → Int32) = (fun j => if j < 16 then 9 else 0) := by
  funext z
  by_cases hz : z < 16
  · have h : z = 0 ∨ z = 1 ∨ z = 2 ∨ z = 3 ∨ z = 4 ∨ z = 5 ∨ z = 6 ∨ z = 7 ∨ z = 8 ∨ z = 9 ∨ z = 10 ∨ z = 11 ∨ z = 12 ∨ z = 13 ∨ z = 14 ∨ z = 15 := by omega
    rcases h with rfl | rfl | rfl | rfl | rfl | rfl | rfl | rfl | rfl | rfl | rfl | rfl | rfl | rfl | rfl | rfl <;> rfl
  · have hk : ∀ k : Nat, k < 16 → ¬ z = k := fun k h e => by omega
    rw [if_neg hz, upd_ne9 (hk (ix 15) (by decide)), upd_ne9 (hk (ix 14) (by decide)), upd_ne9 (hk (ix 13) (by decide)), upd_ne9 (hk (ix 12) (by decide)), upd_ne9 (hk (ix 11) (by decide)), upd_ne9 (hk (ix 10) (by decide)), upd_ne9 (hk (ix 9) (by decide)), upd_ne9 (hk (ix 8) (by decide)), upd_ne9 (hk (ix 7) (by decide)), upd_ne9 (hk (ix 6) (by decide)), upd_ne9 (hk (ix 5) (by decide)), upd_ne9 (hk (ix 4) (by decide)), upd_ne9 (hk (ix 3) (by decide)), upd_ne9 (hk (ix 2) (by decide)), upd_ne9 (hk (ix 1) (by decide)), upd_ne9 (hk (ix 0) (by decide))]
set_option maxHeartbeats 4000000 in
set_option maxRecDepth 100000 in
theorem mtX4_init_10 {l : Launch} {G : Gt} {r : Nat} {F : Nat → va_E} (hF : F r = .inr (6, [.null])) : MB l yX4_init wsX4_init { frames := 1, cells := 1, slots := 10, locals := 15 } G (r + 1, F) [rf G r, .int 10] (r + 2, ue (ue F (r + 1) (.inl (G.2.1 0, (10, .inl (fun _ => 0))))) r (.inr (6, [rf G (r + 1)]))) 1 10 := by
  refine MB_of (cc := cX4_init) (own := RX4) (maxL := 2) (ret := none) (by decide +kernel) rfl rfl (Nat.le_of_ble_eq_true rfl) ?_
  intro p e s m args below meth c X hname
  show VB G p l e _ s m args below meth c 2 _ 0 0 (r + 1) F 0 [(0, rf G r), (1, .int 10)] []
  refine wb_aload_n X dX4_init_0 0 rfl ?_
  refine wb_obj X (by decide +kernel) (by decide +kernel) (by decide +kernel) (Nat.le_of_ble_eq_true rfl) (Nat.le_of_ble_eq_true rfl) dX4_init_1 ?_
  refine wb_aload_n X dX4_init_4 0 rfl ?_
  refine wb_iload_n X dX4_init_5 1 rfl ?_
  refine wb_iconst X (v := 0) dX4_init_6 (by decide) ?_
  refine wb_mmax X (by decide +kernel) (by decide +kernel) (by decide +kernel) (by decide +kernel) (Nat.le_of_ble_eq_true rfl) (Nat.le_of_ble_eq_true rfl) (Nat.le_of_ble_eq_true rfl) (Nat.le_of_ble_eq_true rfl) dX4_init_7 ?_
  refine wb_newa0 (N := 10) X (by decide +kernel) (by decide) (by decide) (by decide) (Nat.le_of_ble_eq_true rfl) (Nat.le_of_ble_eq_true rfl) dX4_init_10 ?_
  refine wb_putF (q := r) (ci := 6) (kf := 0) (N := 1) (fs := [.null]) (C := RX4) (ref := RX4) (T := TX4) (ty := (.array .int)) X tyX4 tyX4_ok nmX4 (by omega) (by simp [ue, hF]) rfl (by decide +kernel) (by decide) (by decide +kernel) (fun _ h => h) rfl hname rfl rfl rfl rfl (Nat.le_of_ble_eq_true rfl) dX4_init_12 ?_
  refine wb_vret X dX4_init_15 (by decide) (by decide) ?_
  rfl
set_option maxHeartbeats 4000000 in
set_option maxRecDepth 100000 in
theorem mtX4_init_20 {l : Launch} {G : Gt} {r : Nat} {F : Nat → va_E} (hF : F r = .inr (6, [.null])) : MB l yX4_init wsX4_init { frames := 1, cells := 1, slots := 20, locals := 15 } G (r + 1, F) [rf G r, .int 20] (r + 2, ue (ue F (r + 1) (.inl (G.2.1 0, (20, .inl (fun _ => 0))))) r (.inr (6, [rf G (r + 1)]))) 1 20 := by
  refine MB_of (cc := cX4_init) (own := RX4) (maxL := 2) (ret := none) (by decide +kernel) rfl rfl (Nat.le_of_ble_eq_true rfl) ?_
  intro p e s m args below meth c X hname
  show VB G p l e _ s m args below meth c 2 _ 0 0 (r + 1) F 0 [(0, rf G r), (1, .int 20)] []
  refine wb_aload_n X dX4_init_0 0 rfl ?_
  refine wb_obj X (by decide +kernel) (by decide +kernel) (by decide +kernel) (Nat.le_of_ble_eq_true rfl) (Nat.le_of_ble_eq_true rfl) dX4_init_1 ?_
  refine wb_aload_n X dX4_init_4 0 rfl ?_
  refine wb_iload_n X dX4_init_5 1 rfl ?_
  refine wb_iconst X (v := 0) dX4_init_6 (by decide) ?_
  refine wb_mmax X (by decide +kernel) (by decide +kernel) (by decide +kernel) (by decide +kernel) (Nat.le_of_ble_eq_true rfl) (Nat.le_of_ble_eq_true rfl) (Nat.le_of_ble_eq_true rfl) (Nat.le_of_ble_eq_true rfl) dX4_init_7 ?_
  refine wb_newa0 (N := 20) X (by decide +kernel) (by decide) (by decide) (by decide) (Nat.le_of_ble_eq_true rfl) (Nat.le_of_ble_eq_true rfl) dX4_init_10 ?_
  refine wb_putF (q := r) (ci := 6) (kf := 0) (N := 1) (fs := [.null]) (C := RX4) (ref := RX4) (T := TX4) (ty := (.array .int)) X tyX4 tyX4_ok nmX4 (by omega) (by simp [ue, hF]) rfl (by decide +kernel) (by decide) (by decide +kernel) (fun _ h => h) rfl hname rfl rfl rfl rfl (Nat.le_of_ble_eq_true rfl) dX4_init_12 ?_
  refine wb_vret X dX4_init_15 (by decide) (by decide) ?_
  rfl
set_option maxHeartbeats 4000000 in
set_option maxRecDepth 100000 in
theorem mtX4_init_16 {l : Launch} {G : Gt} {r : Nat} {F : Nat → va_E} (hF : F r = .inr (6, [.null])) : MB l yX4_init wsX4_init { frames := 1, cells := 1, slots := 16, locals := 15 } G (r + 1, F) [rf G r, .int 16] (r + 2, ue (ue F (r + 1) (.inl (G.2.1 0, (16, .inl (fun _ => 0))))) r (.inr (6, [rf G (r + 1)]))) 1 16 := by
  refine MB_of (cc := cX4_init) (own := RX4) (maxL := 2) (ret := none) (by decide +kernel) rfl rfl (Nat.le_of_ble_eq_true rfl) ?_
  intro p e s m args below meth c X hname
  show VB G p l e _ s m args below meth c 2 _ 0 0 (r + 1) F 0 [(0, rf G r), (1, .int 16)] []
  refine wb_aload_n X dX4_init_0 0 rfl ?_
  refine wb_obj X (by decide +kernel) (by decide +kernel) (by decide +kernel) (Nat.le_of_ble_eq_true rfl) (Nat.le_of_ble_eq_true rfl) dX4_init_1 ?_
  refine wb_aload_n X dX4_init_4 0 rfl ?_
  refine wb_iload_n X dX4_init_5 1 rfl ?_
  refine wb_iconst X (v := 0) dX4_init_6 (by decide) ?_
  refine wb_mmax X (by decide +kernel) (by decide +kernel) (by decide +kernel) (by decide +kernel) (Nat.le_of_ble_eq_true rfl) (Nat.le_of_ble_eq_true rfl) (Nat.le_of_ble_eq_true rfl) (Nat.le_of_ble_eq_true rfl) dX4_init_7 ?_
  refine wb_newa0 (N := 16) X (by decide +kernel) (by decide) (by decide) (by decide) (Nat.le_of_ble_eq_true rfl) (Nat.le_of_ble_eq_true rfl) dX4_init_10 ?_
  refine wb_putF (q := r) (ci := 6) (kf := 0) (N := 1) (fs := [.null]) (C := RX4) (ref := RX4) (T := TX4) (ty := (.array .int)) X tyX4 tyX4_ok nmX4 (by omega) (by simp [ue, hF]) rfl (by decide +kernel) (by decide) (by decide +kernel) (fun _ h => h) rfl hname rfl rfl rfl rfl (Nat.le_of_ble_eq_true rfl) dX4_init_12 ?_
  refine wb_vret X dX4_init_15 (by decide) (by decide) ?_
  rfl
set_option maxHeartbeats 4000000 in
set_option maxRecDepth 100000 in
theorem mtX4_init_60 {l : Launch} {G : Gt} {r : Nat} {F : Nat → va_E} (hF : F r = .inr (6, [.null])) : MB l yX4_init wsX4_init { frames := 1, cells := 1, slots := 60, locals := 15 } G (r + 1, F) [rf G r, .int 60] (r + 2, ue (ue F (r + 1) (.inl (G.2.1 0, (60, .inl (fun _ => 0))))) r (.inr (6, [rf G (r + 1)]))) 1 60 := by
  refine MB_of (cc := cX4_init) (own := RX4) (maxL := 2) (ret := none) (by decide +kernel) rfl rfl (Nat.le_of_ble_eq_true rfl) ?_
  intro p e s m args below meth c X hname
  show VB G p l e _ s m args below meth c 2 _ 0 0 (r + 1) F 0 [(0, rf G r), (1, .int 60)] []
  refine wb_aload_n X dX4_init_0 0 rfl ?_
  refine wb_obj X (by decide +kernel) (by decide +kernel) (by decide +kernel) (Nat.le_of_ble_eq_true rfl) (Nat.le_of_ble_eq_true rfl) dX4_init_1 ?_
  refine wb_aload_n X dX4_init_4 0 rfl ?_
  refine wb_iload_n X dX4_init_5 1 rfl ?_
  refine wb_iconst X (v := 0) dX4_init_6 (by decide) ?_
  refine wb_mmax X (by decide +kernel) (by decide +kernel) (by decide +kernel) (by decide +kernel) (Nat.le_of_ble_eq_true rfl) (Nat.le_of_ble_eq_true rfl) (Nat.le_of_ble_eq_true rfl) (Nat.le_of_ble_eq_true rfl) dX4_init_7 ?_
  refine wb_newa0 (N := 60) X (by decide +kernel) (by decide) (by decide) (by decide) (Nat.le_of_ble_eq_true rfl) (Nat.le_of_ble_eq_true rfl) dX4_init_10 ?_
  refine wb_putF (q := r) (ci := 6) (kf := 0) (N := 1) (fs := [.null]) (C := RX4) (ref := RX4) (T := TX4) (ty := (.array .int)) X tyX4 tyX4_ok nmX4 (by omega) (by simp [ue, hF]) rfl (by decide +kernel) (by decide) (by decide +kernel) (fun _ h => h) rfl hname rfl rfl rfl rfl (Nat.le_of_ble_eq_true rfl) dX4_init_12 ?_
  refine wb_vret X dX4_init_15 (by decide) (by decide) ?_
  rfl
set_option maxHeartbeats 4000000 in
set_option maxRecDepth 100000 in
theorem mtX4_init_3 {l : Launch} {G : Gt} {r : Nat} {F : Nat → va_E} (hF : F r = .inr (6, [.null])) : MB l yX4_init wsX4_init { frames := 1, cells := 1, slots := 3, locals := 15 } G (r + 1, F) [rf G r, .int 3] (r + 2, ue (ue F (r + 1) (.inl (G.2.1 0, (3, .inl (fun _ => 0))))) r (.inr (6, [rf G (r + 1)]))) 1 3 := by
  refine MB_of (cc := cX4_init) (own := RX4) (maxL := 2) (ret := none) (by decide +kernel) rfl rfl (Nat.le_of_ble_eq_true rfl) ?_
  intro p e s m args below meth c X hname
  show VB G p l e _ s m args below meth c 2 _ 0 0 (r + 1) F 0 [(0, rf G r), (1, .int 3)] []
  refine wb_aload_n X dX4_init_0 0 rfl ?_
  refine wb_obj X (by decide +kernel) (by decide +kernel) (by decide +kernel) (Nat.le_of_ble_eq_true rfl) (Nat.le_of_ble_eq_true rfl) dX4_init_1 ?_
  refine wb_aload_n X dX4_init_4 0 rfl ?_
  refine wb_iload_n X dX4_init_5 1 rfl ?_
  refine wb_iconst X (v := 0) dX4_init_6 (by decide) ?_
  refine wb_mmax X (by decide +kernel) (by decide +kernel) (by decide +kernel) (by decide +kernel) (Nat.le_of_ble_eq_true rfl) (Nat.le_of_ble_eq_true rfl) (Nat.le_of_ble_eq_true rfl) (Nat.le_of_ble_eq_true rfl) dX4_init_7 ?_
  refine wb_newa0 (N := 3) X (by decide +kernel) (by decide) (by decide) (by decide) (Nat.le_of_ble_eq_true rfl) (Nat.le_of_ble_eq_true rfl) dX4_init_10 ?_
  refine wb_putF (q := r) (ci := 6) (kf := 0) (N := 1) (fs := [.null]) (C := RX4) (ref := RX4) (T := TX4) (ty := (.array .int)) X tyX4 tyX4_ok nmX4 (by omega) (by simp [ue, hF]) rfl (by decide +kernel) (by decide) (by decide +kernel) (fun _ h => h) rfl hname rfl rfl rfl rfl (Nat.le_of_ble_eq_true rfl) dX4_init_12 ?_
  refine wb_vret X dX4_init_15 (by decide) (by decide) ?_
  rfl
set_option maxHeartbeats 4000000 in
set_option maxRecDepth 100000 in
theorem mtX4_fill_b {l : Launch} {G : Gt} {r i : Nat} (hi : r + 1 < i) {F : Nat → va_E} (hF1 : F r = .inr (6, [rf G (r + 1)])) (hF2 : F (r + 1) = .inl (G.2.1 0, (16, .inl (fun _ => 0)))) : MB l yX4_fill wsX4_fill { frames := 0, cells := 0, slots := 0, locals := 0 } G (i, F) [rf G r, .int 9] (i, ue F (r + 1) (.inl (G.2.1 0, (16, .inl (fun j => if j < 16 then 9 else 0))))) 0 0 := by
  refine MB_of (cc := cX4_fill) (own := RX4) (maxL := 3) (ret := none) (by decide +kernel) rfl rfl (Nat.le_of_ble_eq_true rfl) ?_
  intro p e s m args below meth c X hname
  show VB G p l e _ s m args below meth c 3 _ 0 0 i F 0 [(0, rf G r), (1, .int 9)] []
  refine wb_iconst X (v := 0) dX4_fill_0 (by decide) ?_
  refine wb_istore_n X (lv' := [(2, .int 0), (0, rf G r), (1, .int 9)]) dX4_fill_1 (by decide) rfl ?_
  refine wb_iload_n X dX4_fill_2 0 rfl ?_
  refine wb_aload_n X dX4_fill_3 1 rfl ?_
  refine wb_get (q := r) (ci := 6) (kf := 0) (N := 1) (fs := [rf G (r + 1)]) (C := RX4) (ref := RX4) (T := TX4) X (by omega) (by simp [ue, hF1, hF2]) rfl (by decide +kernel) (by decide) (fun _ h => h) rfl (by decide +kernel) dX4_fill_4 ?_
  refine wb_alen (q := r + 1) (t := 0) (x := (16, .inl (fun _ => 0))) (v := 16) X (by omega) (by simp [ue, hF1, hF2]) rfl rfl dX4_fill_7 ?_
  refine wb_icmp_ge X (tgt := 24) dX4_fill_8 (by decide) (fun h => absurd h (by decide)) (fun _ => ?_)
  refine wb_aload_n X dX4_fill_11 1 rfl ?_
  refine wb_get (q := r) (ci := 6) (kf := 0) (N := 1) (fs := [rf G (r + 1)]) (C := RX4) (ref := RX4) (T := TX4) X (by omega) (by simp [ue, hF1, hF2]) rfl (by decide +kernel) (by decide) (fun _ h => h) rfl (by decide +kernel) dX4_fill_12 ?_
  refine wb_iload_n X dX4_fill_15 0 rfl ?_
  refine wb_iload_n X dX4_fill_16 2 rfl ?_
  refine wb_iast (q := r + 1) (N := 16) (f := (fun _ => 0)) X (by omega) (by simp [ue, hF1, hF2]) (inb_in.mp (by decide)) dX4_fill_17 ?_
  refine wb_iinc X (v := 1) (lv' := [(2, .int 1), (0, rf G r), (1, .int 9)]) dX4_fill_18 0 rfl (by decide) (by decide) rfl ?_
  refine wb_goto X (tgt := 2) dX4_fill_21 (by decide) ?_
  refine wb_iload_n X dX4_fill_2 0 rfl ?_
  refine wb_aload_n X dX4_fill_3 1 rfl ?_
  refine wb_get (q := r) (ci := 6) (kf := 0) (N := 1) (fs := [rf G (r + 1)]) (C := RX4) (ref := RX4) (T := TX4) X (by omega) (by simp [ue, hF1, hF2]) rfl (by decide +kernel) (by decide) (fun _ h => h) rfl (by decide +kernel) dX4_fill_4 ?_
  refine wb_alen (q := r + 1) (t := 0) (x := (16, .inl (upd (fun _ => 0) (ix 0) 9))) (v := 16) X (by omega) (by simp [ue, hF1, hF2]) rfl rfl dX4_fill_7 ?_
  refine wb_icmp_ge X (tgt := 24) dX4_fill_8 (by decide) (fun h => absurd h (by decide)) (fun _ => ?_)
  refine wb_aload_n X dX4_fill_11 1 rfl ?_
  refine wb_get (q := r) (ci := 6) (kf := 0) (N := 1) (fs := [rf G (r + 1)]) (C := RX4) (ref := RX4) (T := TX4) X (by omega) (by simp [ue, hF1, hF2]) rfl (by decide +kernel) (by decide) (fun _ h => h) rfl (by decide +kernel) dX4_fill_12 ?_
  refine wb_iload_n X dX4_fill_15 0 rfl ?_
  refine wb_iload_n X dX4_fill_16 2 rfl ?_
  refine wb_iast (q := r + 1) (N := 16) (f := (upd (fun _ => 0) (ix 0) 9)) X (by omega) (by simp [ue, hF1, hF2]) (inb_in.mp (by decide)) dX4_fill_17 ?_
  refine wb_iinc X (v := 2) (lv' := [(2, .int 2), (0, rf G r), (1, .int 9)]) dX4_fill_18 0 rfl (by decide) (by decide) rfl ?_
  refine wb_goto X (tgt := 2) dX4_fill_21 (by decide) ?_
  refine wb_iload_n X dX4_fill_2 0 rfl ?_
  refine wb_aload_n X dX4_fill_3 1 rfl ?_
  refine wb_get (q := r) (ci := 6) (kf := 0) (N := 1) (fs := [rf G (r + 1)]) (C := RX4) (ref := RX4) (T := TX4) X (by omega) (by simp [ue, hF1, hF2]) rfl (by decide +kernel) (by decide) (fun _ h => h) rfl (by decide +kernel) dX4_fill_4 ?_
  refine wb_alen (q := r + 1) (t := 0) (x := (16, .inl (upd (upd (fun _ => 0) (ix 0) 9) (ix 1) 9))) (v := 16) X (by omega) (by simp [ue, hF1, hF2]) rfl rfl dX4_fill_7 ?_
  refine wb_icmp_ge X (tgt := 24) dX4_fill_8 (by decide) (fun h => absurd h (by decide)) (fun _ => ?_)
  refine wb_aload_n X dX4_fill_11 1 rfl ?_
  refine wb_get (q := r) (ci := 6) (kf := 0) (N := 1) (fs := [rf G (r + 1)]) (C := RX4) (ref := RX4) (T := TX4) X (by omega) (by simp [ue, hF1, hF2]) rfl (by decide +kernel) (by decide) (fun _ h => h) rfl (by decide +kernel) dX4_fill_12 ?_
  refine wb_iload_n X dX4_fill_15 0 rfl ?_
  refine wb_iload_n X dX4_fill_16 2 rfl ?_
  refine wb_iast (q := r + 1) (N := 16) (f := (upd (upd (fun _ => 0) (ix 0) 9) (ix 1) 9)) X (by omega) (by simp [ue, hF1, hF2]) (inb_in.mp (by decide)) dX4_fill_17 ?_
  refine wb_iinc X (v := 3) (lv' := [(2, .int 3), (0, rf G r), (1, .int 9)]) dX4_fill_18 0 rfl (by decide) (by decide) rfl ?_
  refine wb_goto X (tgt := 2) dX4_fill_21 (by decide) ?_
  refine wb_iload_n X dX4_fill_2 0 rfl ?_
  refine wb_aload_n X dX4_fill_3 1 rfl ?_
  refine wb_get (q := r) (ci := 6) (kf := 0) (N := 1) (fs := [rf G (r + 1)]) (C := RX4) (ref := RX4) (T := TX4) X (by omega) (by simp [ue, hF1, hF2]) rfl (by decide +kernel) (by decide) (fun _ h => h) rfl (by decide +kernel) dX4_fill_4 ?_
  refine wb_alen (q := r + 1) (t := 0) (x := (16, .inl (upd (upd (upd (fun _ => 0) (ix 0) 9) (ix 1) 9) (ix 2) 9))) (v := 16) X (by omega) (by simp [ue, hF1, hF2]) rfl rfl dX4_fill_7 ?_
  refine wb_icmp_ge X (tgt := 24) dX4_fill_8 (by decide) (fun h => absurd h (by decide)) (fun _ => ?_)
  refine wb_aload_n X dX4_fill_11 1 rfl ?_
  refine wb_get (q := r) (ci := 6) (kf := 0) (N := 1) (fs := [rf G (r + 1)]) (C := RX4) (ref := RX4) (T := TX4) X (by omega) (by simp [ue, hF1, hF2]) rfl (by decide +kernel) (by decide) (fun _ h => h) rfl (by decide +kernel) dX4_fill_12 ?_
  refine wb_iload_n X dX4_fill_15 0 rfl ?_
  refine wb_iload_n X dX4_fill_16 2 rfl ?_
  refine wb_iast (q := r + 1) (N := 16) (f := (upd (upd (upd (fun _ => 0) (ix 0) 9) (ix 1) 9) (ix 2) 9)) X (by omega) (by simp [ue, hF1, hF2]) (inb_in.mp (by decide)) dX4_fill_17 ?_
  refine wb_iinc X (v := 4) (lv' := [(2, .int 4), (0, rf G r), (1, .int 9)]) dX4_fill_18 0 rfl (by decide) (by decide) rfl ?_
  refine wb_goto X (tgt := 2) dX4_fill_21 (by decide) ?_
  refine wb_iload_n X dX4_fill_2 0 rfl ?_
  refine wb_aload_n X dX4_fill_3 1 rfl ?_
  refine wb_get (q := r) (ci := 6) (kf := 0) (N := 1) (fs := [rf G (r + 1)]) (C := RX4) (ref := RX4) (T := TX4) X (by omega) (by simp [ue, hF1, hF2]) rfl (by decide +kernel) (by decide) (fun _ h => h) rfl (by decide +kernel) dX4_fill_4 ?_
  refine wb_alen (q := r + 1) (t := 0) (x := (16, .inl (upd (upd (upd (upd (fun _ => 0) (ix 0) 9) (ix 1) 9) (ix 2) 9) (ix 3) 9))) (v := 16) X (by omega) (by simp [ue, hF1, hF2]) rfl rfl dX4_fill_7 ?_
  refine wb_icmp_ge X (tgt := 24) dX4_fill_8 (by decide) (fun h => absurd h (by decide)) (fun _ => ?_)
  refine wb_aload_n X dX4_fill_11 1 rfl ?_
  refine wb_get (q := r) (ci := 6) (kf := 0) (N := 1) (fs := [rf G (r + 1)]) (C := RX4) (ref := RX4) (T := TX4) X (by omega) (by simp [ue, hF1, hF2]) rfl (by decide +kernel) (by decide) (fun _ h => h) rfl (by decide +kernel) dX4_fill_12 ?_
  refine wb_iload_n X dX4_fill_15 0 rfl ?_
  refine wb_iload_n X dX4_fill_16 2 rfl ?_
  refine wb_iast (q := r + 1) (N := 16) (f := (upd (upd (upd (upd (fun _ => 0) (ix 0) 9) (ix 1) 9) (ix 2) 9) (ix 3) 9)) X (by omega) (by simp [ue, hF1, hF2]) (inb_in.mp (by decide)) dX4_fill_17 ?_
  refine wb_iinc X (v := 5) (lv' := [(2, .int 5), (0, rf G r), (1, .int 9)]) dX4_fill_18 0 rfl (by decide) (by decide) rfl ?_
  refine wb_goto X (tgt := 2) dX4_fill_21 (by decide) ?_
  refine wb_iload_n X dX4_fill_2 0 rfl ?_
  refine wb_aload_n X dX4_fill_3 1 rfl ?_
  refine wb_get (q := r) (ci := 6) (kf := 0) (N := 1) (fs := [rf G (r + 1)]) (C := RX4) (ref := RX4) (T := TX4) X (by omega) (by simp [ue, hF1, hF2]) rfl (by decide +kernel) (by decide) (fun _ h => h) rfl (by decide +kernel) dX4_fill_4 ?_
  refine wb_alen (q := r + 1) (t := 0) (x := (16, .inl (upd (upd (upd (upd (upd (fun _ => 0) (ix 0) 9) (ix 1) 9) (ix 2) 9) (ix 3) 9) (ix 4) 9))) (v := 16) X (by omega) (by simp [ue, hF1, hF2]) rfl rfl dX4_fill_7 ?_
  refine wb_icmp_ge X (tgt := 24) dX4_fill_8 (by decide) (fun h => absurd h (by decide)) (fun _ => ?_)
  refine wb_aload_n X dX4_fill_11 1 rfl ?_
  refine wb_get (q := r) (ci := 6) (kf := 0) (N := 1) (fs := [rf G (r + 1)]) (C := RX4) (ref := RX4) (T := TX4) X (by omega) (by simp [ue, hF1, hF2]) rfl (by decide +kernel) (by decide) (fun _ h => h) rfl (by decide +kernel) dX4_fill_12 ?_
  refine wb_iload_n X dX4_fill_15 0 rfl ?_
  refine wb_iload_n X dX4_fill_16 2 rfl ?_
  refine wb_iast (q := r + 1) (N := 16) (f := (upd (upd (upd (upd (upd (fun _ => 0) (ix 0) 9) (ix 1) 9) (ix 2) 9) (ix 3) 9) (ix 4) 9)) X (by omega) (by simp [ue, hF1, hF2]) (inb_in.mp (by decide)) dX4_fill_17 ?_
  refine wb_iinc X (v := 6) (lv' := [(2, .int 6), (0, rf G r), (1, .int 9)]) dX4_fill_18 0 rfl (by decide) (by decide) rfl ?_
  refine wb_goto X (tgt := 2) dX4_fill_21 (by decide) ?_
  refine wb_iload_n X dX4_fill_2 0 rfl ?_
  refine wb_aload_n X dX4_fill_3 1 rfl ?_
  refine wb_get (q := r) (ci := 6) (kf := 0) (N := 1) (fs := [rf G (r + 1)]) (C := RX4) (ref := RX4) (T := TX4) X (by omega) (by simp [ue, hF1, hF2]) rfl (by decide +kernel) (by decide) (fun _ h => h) rfl (by decide +kernel) dX4_fill_4 ?_
  refine wb_alen (q := r + 1) (t := 0) (x := (16, .inl (upd (upd (upd (upd (upd (upd (fun _ => 0) (ix 0) 9) (ix 1) 9) (ix 2) 9) (ix 3) 9) (ix 4) 9) (ix 5) 9))) (v := 16) X (by omega) (by simp [ue, hF1, hF2]) rfl rfl dX4_fill_7 ?_
  refine wb_icmp_ge X (tgt := 24) dX4_fill_8 (by decide) (fun h => absurd h (by decide)) (fun _ => ?_)
  refine wb_aload_n X dX4_fill_11 1 rfl ?_
  refine wb_get (q := r) (ci := 6) (kf := 0) (N := 1) (fs := [rf G (r + 1)]) (C := RX4) (ref := RX4) (T := TX4) X (by omega) (by simp [ue, hF1, hF2]) rfl (by decide +kernel) (by decide) (fun _ h => h) rfl (by decide +kernel) dX4_fill_12 ?_
  refine wb_iload_n X dX4_fill_15 0 rfl ?_
  refine wb_iload_n X dX4_fill_16 2 rfl ?_
  refine wb_iast (q := r + 1) (N := 16) (f := (upd (upd (upd (upd (upd (upd (fun _ => 0) (ix 0) 9) (ix 1) 9) (ix 2) 9) (ix 3) 9) (ix 4) 9) (ix 5) 9)) X (by omega) (by simp [ue, hF1, hF2]) (inb_in.mp (by decide)) dX4_fill_17 ?_
  refine wb_iinc X (v := 7) (lv' := [(2, .int 7), (0, rf G r), (1, .int 9)]) dX4_fill_18 0 rfl (by decide) (by decide) rfl ?_
  refine wb_goto X (tgt := 2) dX4_fill_21 (by decide) ?_
  refine wb_iload_n X dX4_fill_2 0 rfl ?_
  refine wb_aload_n X dX4_fill_3 1 rfl ?_
  refine wb_get (q := r) (ci := 6) (kf := 0) (N := 1) (fs := [rf G (r + 1)]) (C := RX4) (ref := RX4) (T := TX4) X (by omega) (by simp [ue, hF1, hF2]) rfl (by decide +kernel) (by decide) (fun _ h => h) rfl (by decide +kernel) dX4_fill_4 ?_
  refine wb_alen (q := r + 1) (t := 0) (x := (16, .inl (upd (upd (upd (upd (upd (upd (upd (fun _ => 0) (ix 0) 9) (ix 1) 9) (ix 2) 9) (ix 3) 9) (ix 4) 9) (ix 5) 9) (ix 6) 9))) (v := 16) X (by omega) (by simp [ue, hF1, hF2]) rfl rfl dX4_fill_7 ?_
  refine wb_icmp_ge X (tgt := 24) dX4_fill_8 (by decide) (fun h => absurd h (by decide)) (fun _ => ?_)
  refine wb_aload_n X dX4_fill_11 1 rfl ?_
  refine wb_get (q := r) (ci := 6) (kf := 0) (N := 1) (fs := [rf G (r + 1)]) (C := RX4) (ref := RX4) (T := TX4) X (by omega) (by simp [ue, hF1, hF2]) rfl (by decide +kernel) (by decide) (fun _ h => h) rfl (by decide +kernel) dX4_fill_12 ?_
  refine wb_iload_n X dX4_fill_15 0 rfl ?_
  refine wb_iload_n X dX4_fill_16 2 rfl ?_
  refine wb_iast (q := r + 1) (N := 16) (f := (upd (upd (upd (upd (upd (upd (upd (fun _ => 0) (ix 0) 9) (ix 1) 9) (ix 2) 9) (ix 3) 9) (ix 4) 9) (ix 5) 9) (ix 6) 9)) X (by omega) (by simp [ue, hF1, hF2]) (inb_in.mp (by decide)) dX4_fill_17 ?_
  refine wb_iinc X (v := 8) (lv' := [(2, .int 8), (0, rf G r), (1, .int 9)]) dX4_fill_18 0 rfl (by decide) (by decide) rfl ?_
  refine wb_goto X (tgt := 2) dX4_fill_21 (by decide) ?_
  refine wb_iload_n X dX4_fill_2 0 rfl ?_
  refine wb_aload_n X dX4_fill_3 1 rfl ?_
  refine wb_get (q := r) (ci := 6) (kf := 0) (N := 1) (fs := [rf G (r + 1)]) (C := RX4) (ref := RX4) (T := TX4) X (by omega) (by simp [ue, hF1, hF2]) rfl (by decide +kernel) (by decide) (fun _ h => h) rfl (by decide +kernel) dX4_fill_4 ?_
  refine wb_alen (q := r + 1) (t := 0) (x := (16, .inl (upd (upd (upd (upd (upd (upd (upd (upd (fun _ => 0) (ix 0) 9) (ix 1) 9) (ix 2) 9) (ix 3) 9) (ix 4) 9) (ix 5) 9) (ix 6) 9) (ix 7) 9))) (v := 16) X (by omega) (by simp [ue, hF1, hF2]) rfl rfl dX4_fill_7 ?_
  refine wb_icmp_ge X (tgt := 24) dX4_fill_8 (by decide) (fun h => absurd h (by decide)) (fun _ => ?_)
  refine wb_aload_n X dX4_fill_11 1 rfl ?_
  refine wb_get (q := r) (ci := 6) (kf := 0) (N := 1) (fs := [rf G (r + 1)]) (C := RX4) (ref := RX4) (T := TX4) X (by omega) (by simp [ue, hF1, hF2]) rfl (by decide +kernel) (by decide) (fun _ h => h) rfl (by decide +kernel) dX4_fill_12 ?_
  refine wb_iload_n X dX4_fill_15 0 rfl ?_
  refine wb_iload_n X dX4_fill_16 2 rfl ?_
  refine wb_iast (q := r + 1) (N := 16) (f := (upd (upd (upd (upd (upd (upd (upd (upd (fun _ => 0) (ix 0) 9) (ix 1) 9) (ix 2) 9) (ix 3) 9) (ix 4) 9) (ix 5) 9) (ix 6) 9) (ix 7) 9)) X (by omega) (by simp [ue, hF1, hF2]) (inb_in.mp (by decide)) dX4_fill_17 ?_
  refine wb_iinc X (v := 9) (lv' := [(2, .int 9), (0, rf G r), (1, .int 9)]) dX4_fill_18 0 rfl (by decide) (by decide) rfl ?_
  refine wb_goto X (tgt := 2) dX4_fill_21 (by decide) ?_
  refine wb_iload_n X dX4_fill_2 0 rfl ?_
  refine wb_aload_n X dX4_fill_3 1 rfl ?_
  refine wb_get (q := r) (ci := 6) (kf := 0) (N := 1) (fs := [rf G (r + 1)]) (C := RX4) (ref := RX4) (T := TX4) X (by omega) (by simp [ue, hF1, hF2]) rfl (by decide +kernel) (by decide) (fun _ h => h) rfl (by decide +kernel) dX4_fill_4 ?_
  refine wb_alen (q := r + 1) (t := 0) (x := (16, .inl (upd (upd (upd (upd (upd (upd (upd (upd (upd (fun _ => 0) (ix 0) 9) (ix 1) 9) (ix 2) 9) (ix 3) 9) (ix 4) 9) (ix 5) 9) (ix 6) 9) (ix 7) 9) (ix 8) 9))) (v := 16) X (by omega) (by simp [ue, hF1, hF2]) rfl rfl dX4_fill_7 ?_
  refine wb_icmp_ge X (tgt := 24) dX4_fill_8 (by decide) (fun h => absurd h (by decide)) (fun _ => ?_)
  refine wb_aload_n X dX4_fill_11 1 rfl ?_
  refine wb_get (q := r) (ci := 6) (kf := 0) (N := 1) (fs := [rf G (r + 1)]) (C := RX4) (ref := RX4) (T := TX4) X (by omega) (by simp [ue, hF1, hF2]) rfl (by decide +kernel) (by decide) (fun _ h => h) rfl (by decide +kernel) dX4_fill_12 ?_
  refine wb_iload_n X dX4_fill_15 0 rfl ?_
  refine wb_iload_n X dX4_fill_16 2 rfl ?_
  refine wb_iast (q := r + 1) (N := 16) (f := (upd (upd (upd (upd (upd (upd (upd (upd (upd (fun _ => 0) (ix 0) 9) (ix 1) 9) (ix 2) 9) (ix 3) 9) (ix 4) 9) (ix 5) 9) (ix 6) 9) (ix 7) 9) (ix 8) 9)) X (by omega) (by simp [ue, hF1, hF2]) (inb_in.mp (by decide)) dX4_fill_17 ?_
  refine wb_iinc X (v := 10) (lv' := [(2, .int 10), (0, rf G r), (1, .int 9)]) dX4_fill_18 0 rfl (by decide) (by decide) rfl ?_
  refine wb_goto X (tgt := 2) dX4_fill_21 (by decide) ?_
  refine wb_iload_n X dX4_fill_2 0 rfl ?_
  refine wb_aload_n X dX4_fill_3 1 rfl ?_
  refine wb_get (q := r) (ci := 6) (kf := 0) (N := 1) (fs := [rf G (r + 1)]) (C := RX4) (ref := RX4) (T := TX4) X (by omega) (by simp [ue, hF1, hF2]) rfl (by decide +kernel) (by decide) (fun _ h => h) rfl (by decide +kernel) dX4_fill_4 ?_
  refine wb_alen (q := r + 1) (t := 0) (x := (16, .inl (upd (upd (upd (upd (upd (upd (upd (upd (upd (upd (fun _ => 0) (ix 0) 9) (ix 1) 9) (ix 2) 9) (ix 3) 9) (ix 4) 9) (ix 5) 9) (ix 6) 9) (ix 7) 9) (ix 8) 9) (ix 9) 9))) (v := 16) X (by omega) (by simp [ue, hF1, hF2]) rfl rfl dX4_fill_7 ?_
  refine wb_icmp_ge X (tgt := 24) dX4_fill_8 (by decide) (fun h => absurd h (by decide)) (fun _ => ?_)
  refine wb_aload_n X dX4_fill_11 1 rfl ?_
  refine wb_get (q := r) (ci := 6) (kf := 0) (N := 1) (fs := [rf G (r + 1)]) (C := RX4) (ref := RX4) (T := TX4) X (by omega) (by simp [ue, hF1, hF2]) rfl (by decide +kernel) (by decide) (fun _ h => h) rfl (by decide +kernel) dX4_fill_12 ?_
  refine wb_iload_n X dX4_fill_15 0 rfl ?_
  refine wb_iload_n X dX4_fill_16 2 rfl ?_
  refine wb_iast (q := r + 1) (N := 16) (f := (upd (upd (upd (upd (upd (upd (upd (upd (upd (upd (fun _ => 0) (ix 0) 9) (ix 1) 9) (ix 2) 9) (ix 3) 9) (ix 4) 9) (ix 5) 9) (ix 6) 9) (ix 7) 9) (ix 8) 9) (ix 9) 9)) X (by omega) (by simp [ue, hF1, hF2]) (inb_in.mp (by decide)) dX4_fill_17 ?_
  refine wb_iinc X (v := 11) (lv' := [(2, .int 11), (0, rf G r), (1, .int 9)]) dX4_fill_18 0 rfl (by decide) (by decide) rfl ?_
  refine wb_goto X (tgt := 2) dX4_fill_21 (by decide) ?_
  refine wb_iload_n X dX4_fill_2 0 rfl ?_
  refine wb_aload_n X dX4_fill_3 1 rfl ?_
  refine wb_get (q := r) (ci := 6) (kf := 0) (N := 1) (fs := [rf G (r + 1)]) (C := RX4) (ref := RX4) (T := TX4) X (by omega) (by simp [ue, hF1, hF2]) rfl (by decide +kernel) (by decide) (fun _ h => h) rfl (by decide +kernel) dX4_fill_4 ?_
  refine wb_alen (q := r + 1) (t := 0) (x := (16, .inl (upd (upd (upd (upd (upd (upd (upd (upd (upd (upd (upd (fun _ => 0) (ix 0) 9) (ix 1) 9) (ix 2) 9) (ix 3) 9) (ix 4) 9) (ix 5) 9) (ix 6) 9) (ix 7) 9) (ix 8) 9) (ix 9) 9) (ix 10) 9))) (v := 16) X (by omega) (by simp [ue, hF1, hF2]) rfl rfl dX4_fill_7 ?_
  refine wb_icmp_ge X (tgt := 24) dX4_fill_8 (by decide) (fun h => absurd h (by decide)) (fun _ => ?_)
  refine wb_aload_n X dX4_fill_11 1 rfl ?_
  refine wb_get (q := r) (ci := 6) (kf := 0) (N := 1) (fs := [rf G (r + 1)]) (C := RX4) (ref := RX4) (T := TX4) X (by omega) (by simp [ue, hF1, hF2]) rfl (by decide +kernel) (by decide) (fun _ h => h) rfl (by decide +kernel) dX4_fill_12 ?_
  refine wb_iload_n X dX4_fill_15 0 rfl ?_
  refine wb_iload_n X dX4_fill_16 2 rfl ?_
  refine wb_iast (q := r + 1) (N := 16) (f := (upd (upd (upd (upd (upd (upd (upd (upd (upd (upd (upd (fun _ => 0) (ix 0) 9) (ix 1) 9) (ix 2) 9) (ix 3) 9) (ix 4) 9) (ix 5) 9) (ix 6) 9) (ix 7) 9) (ix 8) 9) (ix 9) 9) (ix 10) 9)) X (by omega) (by simp [ue, hF1, hF2]) (inb_in.mp (by decide)) dX4_fill_17 ?_
  refine wb_iinc X (v := 12) (lv' := [(2, .int 12), (0, rf G r), (1, .int 9)]) dX4_fill_18 0 rfl (by decide) (by decide) rfl ?_
  refine wb_goto X (tgt := 2) dX4_fill_21 (by decide) ?_
  refine wb_iload_n X dX4_fill_2 0 rfl ?_
  refine wb_aload_n X dX4_fill_3 1 rfl ?_
  refine wb_get (q := r) (ci := 6) (kf := 0) (N := 1) (fs := [rf G (r + 1)]) (C := RX4) (ref := RX4) (T := TX4) X (by omega) (by simp [ue, hF1, hF2]) rfl (by decide +kernel) (by decide) (fun _ h => h) rfl (by decide +kernel) dX4_fill_4 ?_
  refine wb_alen (q := r + 1) (t := 0) (x := (16, .inl (upd (upd (upd (upd (upd (upd (upd (upd (upd (upd (upd (upd (fun _ => 0) (ix 0) 9) (ix 1) 9) (ix 2) 9) (ix 3) 9) (ix 4) 9) (ix 5) 9) (ix 6) 9) (ix 7) 9) (ix 8) 9) (ix 9) 9) (ix 10) 9) (ix 11) 9))) (v := 16) X (by omega) (by simp [ue, hF1, hF2]) rfl rfl dX4_fill_7 ?_
  refine wb_icmp_ge X (tgt := 24) dX4_fill_8 (by decide) (fun h => absurd h (by decide)) (fun _ => ?_)
  refine wb_aload_n X dX4_fill_11 1 rfl ?_
  refine wb_get (q := r) (ci := 6) (kf := 0) (N := 1) (fs := [rf G (r + 1)]) (C := RX4) (ref := RX4) (T := TX4) X (by omega) (by simp [ue, hF1, hF2]) rfl (by decide +kernel) (by decide) (fun _ h => h) rfl (by decide +kernel) dX4_fill_12 ?_
  refine wb_iload_n X dX4_fill_15 0 rfl ?_
  refine wb_iload_n X dX4_fill_16 2 rfl ?_
  refine wb_iast (q := r + 1) (N := 16) (f := (upd (upd (upd (upd (upd (upd (upd (upd (upd (upd (upd (upd (fun _ => 0) (ix 0) 9) (ix 1) 9) (ix 2) 9) (ix 3) 9) (ix 4) 9) (ix 5) 9) (ix 6) 9) (ix 7) 9) (ix 8) 9) (ix 9) 9) (ix 10) 9) (ix 11) 9)) X (by omega) (by simp [ue, hF1, hF2]) (inb_in.mp (by decide)) dX4_fill_17 ?_
  refine wb_iinc X (v := 13) (lv' := [(2, .int 13), (0, rf G r), (1, .int 9)]) dX4_fill_18 0 rfl (by decide) (by decide) rfl ?_
  refine wb_goto X (tgt := 2) dX4_fill_21 (by decide) ?_
  refine wb_iload_n X dX4_fill_2 0 rfl ?_
  refine wb_aload_n X dX4_fill_3 1 rfl ?_
  refine wb_get (q := r) (ci := 6) (kf := 0) (N := 1) (fs := [rf G (r + 1)]) (C := RX4) (ref := RX4) (T := TX4) X (by omega) (by simp [ue, hF1, hF2]) rfl (by decide +kernel) (by decide) (fun _ h => h) rfl (by decide +kernel) dX4_fill_4 ?_
  refine wb_alen (q := r + 1) (t := 0) (x := (16, .inl (upd (upd (upd (upd (upd (upd (upd (upd (upd (upd (upd (upd (upd (fun _ => 0) (ix 0) 9) (ix 1) 9) (ix 2) 9) (ix 3) 9) (ix 4) 9) (ix 5) 9) (ix 6) 9) (ix 7) 9) (ix 8) 9) (ix 9) 9) (ix 10) 9) (ix 11) 9) (ix 12) 9))) (v := 16) X (by omega) (by simp [ue, hF1, hF2]) rfl rfl dX4_fill_7 ?_
  refine wb_icmp_ge X (tgt := 24) dX4_fill_8 (by decide) (fun h => absurd h (by decide)) (fun _ => ?_)
  refine wb_aload_n X dX4_fill_11 1 rfl ?_
  refine wb_get (q := r) (ci := 6) (kf := 0) (N := 1) (fs := [rf G (r + 1)]) (C := RX4) (ref := RX4) (T := TX4) X (by omega) (by simp [ue, hF1, hF2]) rfl (by decide +kernel) (by decide) (fun _ h => h) rfl (by decide +kernel) dX4_fill_12 ?_
  refine wb_iload_n X dX4_fill_15 0 rfl ?_
  refine wb_iload_n X dX4_fill_16 2 rfl ?_
  refine wb_iast (q := r + 1) (N := 16) (f := (upd (upd (upd (upd (upd (upd (upd (upd (upd (upd (upd (upd (upd (fun _ => 0) (ix 0) 9) (ix 1) 9) (ix 2) 9) (ix 3) 9) (ix 4) 9) (ix 5) 9) (ix 6) 9) (ix 7) 9) (ix 8) 9) (ix 9) 9) (ix 10) 9) (ix 11) 9) (ix 12) 9)) X (by omega) (by simp [ue, hF1, hF2]) (inb_in.mp (by decide)) dX4_fill_17 ?_
  refine wb_iinc X (v := 14) (lv' := [(2, .int 14), (0, rf G r), (1, .int 9)]) dX4_fill_18 0 rfl (by decide) (by decide) rfl ?_
  refine wb_goto X (tgt := 2) dX4_fill_21 (by decide) ?_
  refine wb_iload_n X dX4_fill_2 0 rfl ?_
  refine wb_aload_n X dX4_fill_3 1 rfl ?_
  refine wb_get (q := r) (ci := 6) (kf := 0) (N := 1) (fs := [rf G (r + 1)]) (C := RX4) (ref := RX4) (T := TX4) X (by omega) (by simp [ue, hF1, hF2]) rfl (by decide +kernel) (by decide) (fun _ h => h) rfl (by decide +kernel) dX4_fill_4 ?_
  refine wb_alen (q := r + 1) (t := 0) (x := (16, .inl (upd (upd (upd (upd (upd (upd (upd (upd (upd (upd (upd (upd (upd (upd (fun _ => 0) (ix 0) 9) (ix 1) 9) (ix 2) 9) (ix 3) 9) (ix 4) 9) (ix 5) 9) (ix 6) 9) (ix 7) 9) (ix 8) 9) (ix 9) 9) (ix 10) 9) (ix 11) 9) (ix 12) 9) (ix 13) 9))) (v := 16) X (by omega) (by simp [ue, hF1, hF2]) rfl rfl dX4_fill_7 ?_
  refine wb_icmp_ge X (tgt := 24) dX4_fill_8 (by decide) (fun h => absurd h (by decide)) (fun _ => ?_)
  refine wb_aload_n X dX4_fill_11 1 rfl ?_
  refine wb_get (q := r) (ci := 6) (kf := 0) (N := 1) (fs := [rf G (r + 1)]) (C := RX4) (ref := RX4) (T := TX4) X (by omega) (by simp [ue, hF1, hF2]) rfl (by decide +kernel) (by decide) (fun _ h => h) rfl (by decide +kernel) dX4_fill_12 ?_
  refine wb_iload_n X dX4_fill_15 0 rfl ?_
  refine wb_iload_n X dX4_fill_16 2 rfl ?_
  refine wb_iast (q := r + 1) (N := 16) (f := (upd (upd (upd (upd (upd (upd (upd (upd (upd (upd (upd (upd (upd (upd (fun _ => 0) (ix 0) 9) (ix 1) 9) (ix 2) 9) (ix 3) 9) (ix 4) 9) (ix 5) 9) (ix 6) 9) (ix 7) 9) (ix 8) 9) (ix 9) 9) (ix 10) 9) (ix 11) 9) (ix 12) 9) (ix 13) 9)) X (by omega) (by simp [ue, hF1, hF2]) (inb_in.mp (by decide)) dX4_fill_17 ?_
  refine wb_iinc X (v := 15) (lv' := [(2, .int 15), (0, rf G r), (1, .int 9)]) dX4_fill_18 0 rfl (by decide) (by decide) rfl ?_
  refine wb_goto X (tgt := 2) dX4_fill_21 (by decide) ?_
  refine wb_iload_n X dX4_fill_2 0 rfl ?_
  refine wb_aload_n X dX4_fill_3 1 rfl ?_
  refine wb_get (q := r) (ci := 6) (kf := 0) (N := 1) (fs := [rf G (r + 1)]) (C := RX4) (ref := RX4) (T := TX4) X (by omega) (by simp [ue, hF1, hF2]) rfl (by decide +kernel) (by decide) (fun _ h => h) rfl (by decide +kernel) dX4_fill_4 ?_
  refine wb_alen (q := r + 1) (t := 0) (x := (16, .inl (upd (upd (upd (upd (upd (upd (upd (upd (upd (upd (upd (upd (upd (upd (upd (fun _ => 0) (ix 0) 9) (ix 1) 9) (ix 2) 9) (ix 3) 9) (ix 4) 9) (ix 5) 9) (ix 6) 9) (ix 7) 9) (ix 8) 9) (ix 9) 9) (ix 10) 9) (ix 11) 9) (ix 12) 9) (ix 13) 9) (ix 14) 9))) (v := 16) X (by omega) (by simp [ue, hF1, hF2]) rfl rfl dX4_fill_7 ?_
  refine wb_icmp_ge X (tgt := 24) dX4_fill_8 (by decide) (fun h => absurd h (by decide)) (fun _ => ?_)
  refine wb_aload_n X dX4_fill_11 1 rfl ?_
  refine wb_get (q := r) (ci := 6) (kf := 0) (N := 1) (fs := [rf G (r + 1)]) (C := RX4) (ref := RX4) (T := TX4) X (by omega) (by simp [ue, hF1, hF2]) rfl (by decide +kernel) (by decide) (fun _ h => h) rfl (by decide +kernel) dX4_fill_12 ?_
  refine wb_iload_n X dX4_fill_15 0 rfl ?_
  refine wb_iload_n X dX4_fill_16 2 rfl ?_
  refine wb_iast (q := r + 1) (N := 16) (f := (upd (upd (upd (upd (upd (upd (upd (upd (upd (upd (upd (upd (upd (upd (upd (fun _ => 0) (ix 0) 9) (ix 1) 9) (ix 2) 9) (ix 3) 9) (ix 4) 9) (ix 5) 9) (ix 6) 9) (ix 7) 9) (ix 8) 9) (ix 9) 9) (ix 10) 9) (ix 11) 9) (ix 12) 9) (ix 13) 9) (ix 14) 9)) X (by omega) (by simp [ue, hF1, hF2]) (inb_in.mp (by decide)) dX4_fill_17 ?_
  refine wb_iinc X (v := 16) (lv' := [(2, .int 16), (0, rf G r), (1, .int 9)]) dX4_fill_18 0 rfl (by decide) (by decide) rfl ?_
  refine wb_goto X (tgt := 2) dX4_fill_21 (by decide) ?_
  refine wb_iload_n X dX4_fill_2 0 rfl ?_
  refine wb_aload_n X dX4_fill_3 1 rfl ?_
  refine wb_get (q := r) (ci := 6) (kf := 0) (N := 1) (fs := [rf G (r + 1)]) (C := RX4) (ref := RX4) (T := TX4) X (by omega) (by simp [ue, hF1, hF2]) rfl (by decide +kernel) (by decide) (fun _ h => h) rfl (by decide +kernel) dX4_fill_4 ?_
  refine wb_alen (q := r + 1) (t := 0) (x := (16, .inl (upd (upd (upd (upd (upd (upd (upd (upd (upd (upd (upd (upd (upd (upd (upd (upd (fun _ => 0) (ix 0) 9) (ix 1) 9) (ix 2) 9) (ix 3) 9) (ix 4) 9) (ix 5) 9) (ix 6) 9) (ix 7) 9) (ix 8) 9) (ix 9) 9) (ix 10) 9) (ix 11) 9) (ix 12) 9) (ix 13) 9) (ix 14) 9) (ix 15) 9))) (v := 16) X (by omega) (by simp [ue, hF1, hF2]) rfl rfl dX4_fill_7 ?_
  refine wb_icmp_ge X (tgt := 24) dX4_fill_8 (by decide) (fun _ => ?_) (fun h => absurd (by decide) h)
  refine wb_vret X dX4_fill_24 (by decide) (by decide) ?_
  refine Prod.ext rfl (funext fun j => ?_)
  by_cases hj : j = r + 1
  · subst hj
    simp only [ue, if_true]
    rw [← gr16]
  · simp [ue, hj]
set_option maxHeartbeats 4000000 in
set_option maxRecDepth 100000 in
theorem mtX5_init_1 {l : Launch} {G : Gt}  {F : Nat → va_E} (hF : F 1 = .inr (7, [.null, .int 0, .int 0, .null, .null, .null, .null, .int 0, .null, .int 0, .int 0, .int 0])) : MB l yX5_init wsX5_init { frames := 2, cells := 12, slots := 112, locals := 36 } G (2, F) [rf G 1] (14, blF G 1 13 F) 12 112 := by
  refine MB_of (cc := cX5_init) (own := RX5) (maxL := 1) (ret := none) (by decide +kernel) rfl rfl (Nat.le_of_ble_eq_true rfl) ?_
  intro p e s m args below meth c X hname
  show VB G p l e _ s m args below meth c 1 _ 0 0 2 F 0 [(0, rf G 1)] []
  refine wb_aload_n X dX5_init_0 0 rfl ?_
  refine wb_obj X (by decide +kernel) (by decide +kernel) (by decide +kernel) (Nat.le_of_ble_eq_true rfl) (Nat.le_of_ble_eq_true rfl) dX5_init_1 ?_
  refine wb_aload_n X dX5_init_4 0 rfl ?_
  refine wb_new (ci := 6) (N := 1) (C := RX4) (T := TX4) (fs := [.null]) X (by decide +kernel) tyX4 tyX4_ok (by decide +kernel) (by decide +kernel) (by decide +kernel) rfl dfX4 (Nat.le_of_ble_eq_true rfl) (Nat.le_of_ble_eq_true rfl) dX5_init_5 ?_
  refine wb_dup X dX5_init_8 rfl ?_
  refine wb_bipush X (v := 10) dX5_init_9 (by decide) ?_
  refine wb_callI (q := 2) (As := [.int 10]) (st' := [rf G 2, rf G 1]) X (mtX4_init_10 (r := 2) (by first | rfl | exact hF)) (cwI 1 X.2.2.2.2.1 gX5_init_X4_init rfl rfl rfl (X.2.2.2.2.1 _ (by decide +kernel)) (X.2.2.2.2.1 _ (by decide +kernel)) (X.2.2.2.2.1 _ (by decide +kernel)) rfl (by decide +kernel) ⟨Nat.le_of_ble_eq_true rfl, Nat.le_of_ble_eq_true rfl⟩) rfl (Nat.le_of_ble_eq_true rfl) dX5_init_11 ⟨Nat.le_of_ble_eq_true rfl, Nat.le_of_ble_eq_true rfl⟩ ?_
  refine wb_putF (q := 1) (ci := 7) (kf := 0) (N := 12) (fs := [.null, .int 0, .int 0, .null, .null, .null, .null, .int 0, .null, .int 0, .int 0, .int 0]) (C := RX5) (ref := RX5) (T := TX5) (ty := (.object "ScarecrowRegistry$Row")) X tyX5 tyX5_ok nmX5 (by decide) (by first | rfl | exact hF) rfl (by decide +kernel) (by decide) (by decide +kernel) (fun _ h => h) rfl hname rfl rfl rfl rfl (Nat.le_of_ble_eq_true rfl) dX5_init_14 ?_
  refine wb_aload_n X dX5_init_17 0 rfl ?_
  refine wb_new (ci := 6) (N := 1) (C := RX4) (T := TX4) (fs := [.null]) X (by decide +kernel) tyX4 tyX4_ok (by decide +kernel) (by decide +kernel) (by decide +kernel) rfl dfX4 (Nat.le_of_ble_eq_true rfl) (Nat.le_of_ble_eq_true rfl) dX5_init_18 ?_
  refine wb_dup X dX5_init_21 rfl ?_
  refine wb_bipush X (v := 20) dX5_init_22 (by decide) ?_
  refine wb_callI (q := 4) (As := [.int 20]) (st' := [rf G 4, rf G 1]) X (mtX4_init_20 (r := 4) (by first | rfl | exact hF)) (cwI 1 X.2.2.2.2.1 gX5_init_X4_init rfl rfl rfl (X.2.2.2.2.1 _ (by decide +kernel)) (X.2.2.2.2.1 _ (by decide +kernel)) (X.2.2.2.2.1 _ (by decide +kernel)) rfl (by decide +kernel) ⟨Nat.le_of_ble_eq_true rfl, Nat.le_of_ble_eq_true rfl⟩) rfl (Nat.le_of_ble_eq_true rfl) dX5_init_24 ⟨Nat.le_of_ble_eq_true rfl, Nat.le_of_ble_eq_true rfl⟩ ?_
  refine wb_putF (q := 1) (ci := 7) (kf := 3) (N := 12) (fs := [rf G 2, .int 0, .int 0, .null, .null, .null, .null, .int 0, .null, .int 0, .int 0, .int 0]) (C := RX5) (ref := RX5) (T := TX5) (ty := (.object "ScarecrowRegistry$Row")) X tyX5 tyX5_ok nmX5 (by decide) (by first | rfl | exact hF) rfl (by decide +kernel) (by decide) (by decide +kernel) (fun _ h => h) rfl hname rfl rfl rfl rfl (Nat.le_of_ble_eq_true rfl) dX5_init_27 ?_
  refine wb_aload_n X dX5_init_30 0 rfl ?_
  refine wb_new (ci := 6) (N := 1) (C := RX4) (T := TX4) (fs := [.null]) X (by decide +kernel) tyX4 tyX4_ok (by decide +kernel) (by decide +kernel) (by decide +kernel) rfl dfX4 (Nat.le_of_ble_eq_true rfl) (Nat.le_of_ble_eq_true rfl) dX5_init_31 ?_
  refine wb_dup X dX5_init_34 rfl ?_
  refine wb_bipush X (v := 20) dX5_init_35 (by decide) ?_
  refine wb_callI (q := 6) (As := [.int 20]) (st' := [rf G 6, rf G 1]) X (mtX4_init_20 (r := 6) (by first | rfl | exact hF)) (cwI 1 X.2.2.2.2.1 gX5_init_X4_init rfl rfl rfl (X.2.2.2.2.1 _ (by decide +kernel)) (X.2.2.2.2.1 _ (by decide +kernel)) (X.2.2.2.2.1 _ (by decide +kernel)) rfl (by decide +kernel) ⟨Nat.le_of_ble_eq_true rfl, Nat.le_of_ble_eq_true rfl⟩) rfl (Nat.le_of_ble_eq_true rfl) dX5_init_37 ⟨Nat.le_of_ble_eq_true rfl, Nat.le_of_ble_eq_true rfl⟩ ?_
  refine wb_putF (q := 1) (ci := 7) (kf := 4) (N := 12) (fs := [rf G 2, .int 0, .int 0, rf G 4, .null, .null, .null, .int 0, .null, .int 0, .int 0, .int 0]) (C := RX5) (ref := RX5) (T := TX5) (ty := (.object "ScarecrowRegistry$Row")) X tyX5 tyX5_ok nmX5 (by decide) (by first | rfl | exact hF) rfl (by decide +kernel) (by decide) (by decide +kernel) (fun _ h => h) rfl hname rfl rfl rfl rfl (Nat.le_of_ble_eq_true rfl) dX5_init_40 ?_
  refine wb_aload_n X dX5_init_43 0 rfl ?_
  refine wb_new (ci := 6) (N := 1) (C := RX4) (T := TX4) (fs := [.null]) X (by decide +kernel) tyX4 tyX4_ok (by decide +kernel) (by decide +kernel) (by decide +kernel) rfl dfX4 (Nat.le_of_ble_eq_true rfl) (Nat.le_of_ble_eq_true rfl) dX5_init_44 ?_
  refine wb_dup X dX5_init_47 rfl ?_
  refine wb_bipush X (v := 20) dX5_init_48 (by decide) ?_
  refine wb_callI (q := 8) (As := [.int 20]) (st' := [rf G 8, rf G 1]) X (mtX4_init_20 (r := 8) (by first | rfl | exact hF)) (cwI 1 X.2.2.2.2.1 gX5_init_X4_init rfl rfl rfl (X.2.2.2.2.1 _ (by decide +kernel)) (X.2.2.2.2.1 _ (by decide +kernel)) (X.2.2.2.2.1 _ (by decide +kernel)) rfl (by decide +kernel) ⟨Nat.le_of_ble_eq_true rfl, Nat.le_of_ble_eq_true rfl⟩) rfl (Nat.le_of_ble_eq_true rfl) dX5_init_50 ⟨Nat.le_of_ble_eq_true rfl, Nat.le_of_ble_eq_true rfl⟩ ?_
  refine wb_putF (q := 1) (ci := 7) (kf := 5) (N := 12) (fs := [rf G 2, .int 0, .int 0, rf G 4, rf G 6, .null, .null, .int 0, .null, .int 0, .int 0, .int 0]) (C := RX5) (ref := RX5) (T := TX5) (ty := (.object "ScarecrowRegistry$Row")) X tyX5 tyX5_ok nmX5 (by decide) (by first | rfl | exact hF) rfl (by decide +kernel) (by decide) (by decide +kernel) (fun _ h => h) rfl hname rfl rfl rfl rfl (Nat.le_of_ble_eq_true rfl) dX5_init_53 ?_
  refine wb_aload_n X dX5_init_56 0 rfl ?_
  refine wb_new (ci := 6) (N := 1) (C := RX4) (T := TX4) (fs := [.null]) X (by decide +kernel) tyX4 tyX4_ok (by decide +kernel) (by decide +kernel) (by decide +kernel) rfl dfX4 (Nat.le_of_ble_eq_true rfl) (Nat.le_of_ble_eq_true rfl) dX5_init_57 ?_
  refine wb_dup X dX5_init_60 rfl ?_
  refine wb_bipush X (v := 20) dX5_init_61 (by decide) ?_
  refine wb_callI (q := 10) (As := [.int 20]) (st' := [rf G 10, rf G 1]) X (mtX4_init_20 (r := 10) (by first | rfl | exact hF)) (cwI 1 X.2.2.2.2.1 gX5_init_X4_init rfl rfl rfl (X.2.2.2.2.1 _ (by decide +kernel)) (X.2.2.2.2.1 _ (by decide +kernel)) (X.2.2.2.2.1 _ (by decide +kernel)) rfl (by decide +kernel) ⟨Nat.le_of_ble_eq_true rfl, Nat.le_of_ble_eq_true rfl⟩) rfl (Nat.le_of_ble_eq_true rfl) dX5_init_63 ⟨Nat.le_of_ble_eq_true rfl, Nat.le_of_ble_eq_true rfl⟩ ?_
  refine wb_putF (q := 1) (ci := 7) (kf := 6) (N := 12) (fs := [rf G 2, .int 0, .int 0, rf G 4, rf G 6, rf G 8, .null, .int 0, .null, .int 0, .int 0, .int 0]) (C := RX5) (ref := RX5) (T := TX5) (ty := (.object "ScarecrowRegistry$Row")) X tyX5 tyX5_ok nmX5 (by decide) (by first | rfl | exact hF) rfl (by decide +kernel) (by decide) (by decide +kernel) (fun _ h => h) rfl hname rfl rfl rfl rfl (Nat.le_of_ble_eq_true rfl) dX5_init_66 ?_
  refine wb_aload_n X dX5_init_69 0 rfl ?_
  refine wb_new (ci := 6) (N := 1) (C := RX4) (T := TX4) (fs := [.null]) X (by decide +kernel) tyX4 tyX4_ok (by decide +kernel) (by decide +kernel) (by decide +kernel) rfl dfX4 (Nat.le_of_ble_eq_true rfl) (Nat.le_of_ble_eq_true rfl) dX5_init_70 ?_
  refine wb_dup X dX5_init_73 rfl ?_
  refine wb_bipush X (v := 16) dX5_init_74 (by decide) ?_
  refine wb_callI (q := 12) (As := [.int 16]) (st' := [rf G 12, rf G 1]) X (mtX4_init_16 (r := 12) (by first | rfl | exact hF)) (cwI 1 X.2.2.2.2.1 gX5_init_X4_init rfl rfl rfl (X.2.2.2.2.1 _ (by decide +kernel)) (X.2.2.2.2.1 _ (by decide +kernel)) (X.2.2.2.2.1 _ (by decide +kernel)) rfl (by decide +kernel) ⟨Nat.le_of_ble_eq_true rfl, Nat.le_of_ble_eq_true rfl⟩) rfl (Nat.le_of_ble_eq_true rfl) dX5_init_76 ⟨Nat.le_of_ble_eq_true rfl, Nat.le_of_ble_eq_true rfl⟩ ?_
  refine wb_putF (q := 1) (ci := 7) (kf := 8) (N := 12) (fs := [rf G 2, .int 0, .int 0, rf G 4, rf G 6, rf G 8, rf G 10, .int 0, .null, .int 0, .int 0, .int 0]) (C := RX5) (ref := RX5) (T := TX5) (ty := (.object "ScarecrowRegistry$Row")) X tyX5 tyX5_ok nmX5 (by decide) (by first | rfl | exact hF) rfl (by decide +kernel) (by decide) (by decide +kernel) (fun _ h => h) rfl hname rfl rfl rfl rfl (Nat.le_of_ble_eq_true rfl) dX5_init_79 ?_
  refine wb_aload_n X dX5_init_82 0 rfl ?_
  refine wb_get (q := 1) (ci := 7) (kf := 8) (N := 12) (fs := [rf G 2, .int 0, .int 0, rf G 4, rf G 6, rf G 8, rf G 10, .int 0, rf G 12, .int 0, .int 0, .int 0]) (C := RX5) (ref := RX5) (T := TX5) X (by decide) (by first | rfl | exact hF) rfl (by decide +kernel) (by decide) (fun _ h => h) rfl (by decide +kernel) dX5_init_83 ?_
  refine wb_bipush X (v := 9) dX5_init_86 (by decide) ?_
  refine wb_callV (q := 12) (As := [.int 9]) (st' := []) X (mtX4_fill_b (r := 12) (by decide) (by first | rfl | exact hF) (by first | rfl | exact hF)) (cwV 1 X.2.2.2.2.1 gX5_init_X4_fill rfl rfl rfl (by decide +kernel) ⟨Nat.le_of_ble_eq_true rfl, Nat.le_of_ble_eq_true rfl⟩) (by decide) (by first | rfl | exact hF) rfl rfl (Nat.le_of_ble_eq_true rfl) dX5_init_88 ⟨Nat.le_of_ble_eq_true rfl, Nat.le_of_ble_eq_true rfl⟩ ?_
  refine wb_vret X dX5_init_91 (by decide) (by decide) ?_
  refine Prod.ext rfl (funext fun j => ?_)
  by_cases h : 1 ≤ j ∧ j ≤ 13
  · show (if 1 ≤ j ∧ j ≤ 13 then cel G (S0 G) j else F j) = _
    rw [if_pos h]
    have h2 : j = 1 ∨ j = 2 ∨ j = 3 ∨ j = 4 ∨ j = 5 ∨ j = 6 ∨ j = 7 ∨ j = 8 ∨ j = 9 ∨ j = 10 ∨ j = 11 ∨ j = 12 ∨ j = 13 := by omega
    rcases h2 with rfl | rfl | rfl | rfl | rfl | rfl | rfl | rfl | rfl | rfl | rfl | rfl | rfl <;> rfl
  · show (if 1 ≤ j ∧ j ≤ 13 then cel G (S0 G) j else F j) = _
    rw [if_neg h]
    symm
    repeat' (first | rfl | (refine (ue_ne (by omega)).trans ?_) | (refine (blF_ne (by omega)).trans ?_))

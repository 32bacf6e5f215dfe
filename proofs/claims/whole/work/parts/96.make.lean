/-! ===== the law makes the two objects ===== -/
section MAKE
variable {G : Gt} {p : Program} {l : Launch} {e : Env} {R : Room} {s : State} {m : MethodId} {args : Array Value} {below : List Frame} {meth : Method} {c : Code} {nL : Nat} {Q : State → Prop} {k n i index : Nat} {F : Nat → va_E} {pc : Nat} {lv lv' : List (Nat × Value)} {st st' : List Value} {own : String} {Ts : List Cond} {cc : ByteArray} {rt : Option FieldType}
theorem wb_newaL {x : Int32} {N : Nat} (X : Cx G p s m args meth c own Ts cc nL rt) (harr : Cond.arrayClass .long ∈ Ts) (hn : ¬ x < 0) (hN : x.toNatClampNeg = N) (hby : N * componentBytes .long ≤ 536870912) (hcells : k + 1 ≤ R.cells) (hslots : n + N ≤ R.slots) (d : decode cc pc = .ok (.newarray .long, 2)) (kk : VB G p l e R s m args below meth c nL Q (k + 1) (n + N) (i + 1) (ue F i (.inl (G.2.1 4, (N, .inr (.inl (fun _ => 0)))))) (pc + 2) lv (rf G i :: st)) : VB G p l e R s m args below meth c nL Q k n i F pc lv (.int x :: st) := by
  intro H locs ls hP hD hS hz hl
  refine va_newaK (atype := .long) X.1 X.2.1 (X.2.2.2.2.1 _ harr) rfl d rfl hn hN hby hcells hslots hz fun H1 cA e1 z1 o1 hAr hNm => ?_
  have hcA : cA = G.2.1 4 := Option.some.inj (hNm.symm.trans (X.2.2.2.2.2.2.2.1.2 4 _ rfl).2)
  subst hcA
  have hk : ∀ (k : Nat) (x : Nat × va_E), (bl G i F)[k]? = some x → H1[x.1]? = H[x.1]? := fun k x hx => o1 x.1 (by rw [← hz]; exact (hP k x hx).lt)
  refine kk H1 locs ls ?_ ?_ ⟨Nat.le_trans hS.1 (by omega), fun x h1 h2 => (o1 x (by have := hS.1; omega)).trans (hS.2.1 x h1 h2), hS.2.2⟩ z1 hl
  · rw [← bl_push]
    refine (hP.kept hk).app (fun k x hx => ?_)
    have hz9 : k < 1 := (List.getElem?_eq_some_iff.mp hx).1
    rw [show k = 0 by omega] at hx
    cases hx
    exact e1
  · rw [← bl_push]
    exact hD.push hP hz.symm (Nat.le_add_right _ _)
theorem wb_newaD {x : Int32} {N : Nat} (X : Cx G p s m args meth c own Ts cc nL rt) (harr : Cond.arrayClass .double ∈ Ts) (hn : ¬ x < 0) (hN : x.toNatClampNeg = N) (hby : N * componentBytes .double ≤ 536870912) (hcells : k + 1 ≤ R.cells) (hslots : n + N ≤ R.slots) (d : decode cc pc = .ok (.newarray .double, 2)) (kk : VB G p l e R s m args below meth c nL Q (k + 1) (n + N) (i + 1) (ue F i (.inl (G.2.1 5, (N, .inr (.inr (.inr (.inl (fun _ => 0)))))))) (pc + 2) lv (rf G i :: st)) : VB G p l e R s m args below meth c nL Q k n i F pc lv (.int x :: st) := by
  intro H locs ls hP hD hS hz hl
  refine va_newaK (atype := .double) X.1 X.2.1 (X.2.2.2.2.1 _ harr) rfl d rfl hn hN hby hcells hslots hz fun H1 cA e1 z1 o1 hAr hNm => ?_
  have hcA : cA = G.2.1 5 := Option.some.inj (hNm.symm.trans (X.2.2.2.2.2.2.2.1.2 5 _ rfl).2)
  subst hcA
  have hk : ∀ (k : Nat) (x : Nat × va_E), (bl G i F)[k]? = some x → H1[x.1]? = H[x.1]? := fun k x hx => o1 x.1 (by rw [← hz]; exact (hP k x hx).lt)
  refine kk H1 locs ls ?_ ?_ ⟨Nat.le_trans hS.1 (by omega), fun x h1 h2 => (o1 x (by have := hS.1; omega)).trans (hS.2.1 x h1 h2), hS.2.2⟩ z1 hl
  · rw [← bl_push]
    refine (hP.kept hk).app (fun k x hx => ?_)
    have hz9 : k < 1 := (List.getElem?_eq_some_iff.mp hx).1
    rw [show k = 0 by omega] at hx
    cases hx
    exact e1
  · rw [← bl_push]
    exact hD.push hP hz.symm (Nat.le_add_right _ _)
theorem wb_astoreX {i9 x : Nat} (X : Cx G p s m args meth c own Ts cc nL rt) (d : decode cc pc = .ok (.astore i9, 2)) (hn : i9 < nL) (h : lvs lv i9 (.ref x) = lv') (kk : VB G p l e R s m args below meth c nL Q k n i F (pc + 2) lv' st) : VB G p l e R s m args below meth c nL Q k n i F pc lv (.ref x :: st) := fun H locs ls hP hD hS hz hl => lv_astore X.1 X.2.1 d hl hn h (fun ls' hl' => kk H locs ls' hP hD hS hz hl')
end MAKE
section MAKE2
variable {G : Gt} {p : Program} {l : Launch} {e : Env} {s : State} {m : MethodId} {below : List Frame} {meth : Method} {c : Code} {Z : State → Prop} {b : Nat} {rt : Option FieldType} {F : Nat → va_E}
theorem lay_bl {F : Nat → va_E} (h : ∀ j, j < 177 → F j = cel G (S0 G) j) : bl G 177 F = lay G (S0 G) := by
  unfold bl lay
  refine List.map_congr_left (fun j hj => ?_)
  have hj : j < 177 := List.mem_range.mp hj
  rw [h j hj]
  refine Prod.ext ?_ rfl
  show gB G + j = if j = 165 then gB G + 165 else gB G + j
  by_cases e : j = 165
  · rw [if_pos e, e]
  · rw [if_neg e]
set_option maxHeartbeats 4000000 in
set_option maxRecDepth 100000 in
theorem law_make (X : Cx G p s m #[Value.ref b] meth c "ScarecrowRegistryLaw" wsL_law cL_law 9 rt) (kk : LVW G p l e s m b below meth c Z 177 3192 (S0 G) 28 [(0, .ref b), (1, rf G 0), (2, rf G 166), (3, rf G 175), (4, rf G 176), (5, .int (nI 0))] []) : VB G p l e room_1 s m #[Value.ref b] below meth c 9 Z 0 0 0 F 0 [(0, .ref b)] [] := by
  refine wb_new (ci := 8) (N := 12) (C := RX6) (T := TX6) (fs := [.null, .null, .null, .null, .int 0, .null, .null, .null, .int 0, .int 0, .int 0, .int 0]) X (by decide +kernel) tyX6 tyX6_ok (by decide +kernel) (by decide +kernel) (by decide +kernel) rfl dfX6 (Nat.le_of_ble_eq_true rfl) (Nat.le_of_ble_eq_true rfl) dL_law_0 ?_
  refine wb_dup X dL_law_3 rfl ?_
  refine wb_callI (q := 0) (As := []) (st' := [rf G 0]) X (mtX6_init rfl) (cwI 0 X.2.2.2.2.1 gL_law_X6_init rfl rfl rfl (X.2.2.2.2.1 _ (by decide +kernel)) (X.2.2.2.2.1 _ (by decide +kernel)) (X.2.2.2.2.1 _ (by decide +kernel)) rfl (by decide +kernel) ⟨Nat.le_of_ble_eq_true rfl, Nat.le_of_ble_eq_true rfl⟩) rfl (Nat.le_of_ble_eq_true rfl) dL_law_4 ⟨Nat.le_of_ble_eq_true rfl, Nat.le_of_ble_eq_true rfl⟩ ?_
  refine wb_astore_n X (lv' := [(1, rf G 0), (0, .ref b)]) dL_law_7 (by decide) rfl ?_
  refine wb_new (ci := 9) (N := 21) (C := RX7) (T := TX7) (fs := [.null, .null, .null, .null, .null, .int 0, .int 0, .int 0, .int 0, .int 0, .int 0, .int 0, .int 0, .null, .int 0, .int 0, .null, .int 0, .int 0, .null, .int 0]) X (by decide +kernel) tyX7 tyX7_ok (by decide +kernel) (by decide +kernel) (by decide +kernel) rfl dfX7 (Nat.le_of_ble_eq_true rfl) (Nat.le_of_ble_eq_true rfl) dL_law_8 ?_
  refine wb_dup X dL_law_11 rfl ?_
  refine wb_callI (q := 166) (As := []) (st' := [rf G 166]) X (mtX7_init rfl) (cwI 0 X.2.2.2.2.1 gL_law_X7_init rfl rfl rfl (X.2.2.2.2.1 _ (by decide +kernel)) (X.2.2.2.2.1 _ (by decide +kernel)) (X.2.2.2.2.1 _ (by decide +kernel)) rfl (by decide +kernel) ⟨Nat.le_of_ble_eq_true rfl, Nat.le_of_ble_eq_true rfl⟩) rfl (Nat.le_of_ble_eq_true rfl) dL_law_12 ⟨Nat.le_of_ble_eq_true rfl, Nat.le_of_ble_eq_true rfl⟩ ?_
  refine wb_astore_n X (lv' := [(2, rf G 166), (1, rf G 0), (0, .ref b)]) dL_law_15 (by decide) rfl ?_
  refine wb_iconst X (v := 1) dL_law_16 (by decide) ?_
  refine wb_newaL (N := 1) X (by decide +kernel) (by decide) (by decide) (by decide) (Nat.le_of_ble_eq_true rfl) (Nat.le_of_ble_eq_true rfl) dL_law_17 ?_
  refine wb_astore_n X (lv' := [(3, rf G 175), (2, rf G 166), (1, rf G 0), (0, .ref b)]) dL_law_19 (by decide) rfl ?_
  refine wb_iconst X (v := 1) dL_law_20 (by decide) ?_
  refine wb_newaD (N := 1) X (by decide +kernel) (by decide) (by decide) (by decide) (Nat.le_of_ble_eq_true rfl) (Nat.le_of_ble_eq_true rfl) dL_law_21 ?_
  refine wb_astoreX X (lv' := [(4, rf G 176), (3, rf G 175), (2, rf G 166), (1, rf G 0), (0, .ref b)]) dL_law_23 (by decide) rfl ?_
  refine wb_iconst X (v := 0) dL_law_25 (by decide) ?_
  refine wb_istore X (lv' := [(5, .int 0), (4, rf G 176), (3, rf G 175), (2, rf G 166), (1, rf G 0), (0, .ref b)]) dL_law_26 (by decide) rfl ?_
  refine wb_sub [5, 4, 3, 2, 1, 0] (lv' := [(0, .ref b), (1, rf G 0), (2, rf G 166), (3, rf G 175), (4, rf G 176), (5, .int (nI 0))]) rfl ?_
  intro H locs ls hP hD hS hz hl
  have hbl := lay_bl (G := G) (F := ue (ue (blF G 166 174 (ue (blF G 0 165 (ue F 0 (.inr (8, [.null, .null, .null, .null, .int 0, .null, .null, .null, .int 0, .int 0, .int 0, .int 0])))) 166 (.inr (9, [.null, .null, .null, .null, .null, .int 0, .int 0, .int 0, .int 0, .int 0, .int 0, .int 0, .int 0, .null, .int 0, .int 0, .null, .int 0, .int 0, .null, .int 0])))) 175 (.inl (G.2.1 4, (1, .inr (.inl (fun _ => 0)))))) 176 (.inl (G.2.1 5, (1, .inr (.inr (.inr (.inl (fun _ => 0)))))))) (fun j hj => by
    by_cases h176 : j = 176
    · subst h176; rfl
    rw [ue_ne h176]
    by_cases h175 : j = 175
    · subst h175; rfl
    rw [ue_ne h175]
    by_cases h1 : 166 ≤ j
    · rw [blF_in (by omega)]
    · rw [blF_ne (by omega), ue_ne (by omega), blF_in (by omega)])
  rw [hbl] at hP hD
  exact kk () rfl H locs ls hP hD hS hl
end MAKE2

set_option maxRecDepth 20000 in
theorem vp_nI {i a L : Nat} (h1 : i + a < L) (h2 : L ≤ 2048) : vp_in (nI i + nI a) L := by
  rw [nI_add]
  exact inb_in.mp (q_in h1 (by omega))
theorem Inv.up {D D' : Nat} {x : AX} {S : Wo} (h : Inv D x S) (h1 : D ≤ D') (h2 : D' ≤ 1000000) : Inv D' x S := ⟨h.1.up h1 h2, h.2⟩
theorem rz_01 {S T : Wo} {x b : Int32} (h : rz x (fun y => some (y, S)) = some (b, T)) : b = 0 ∨ b = 1 := by
  unfold rz at h
  by_cases h1 : x = 0
  · rw [if_pos h1] at h; cases h; exact Or.inl rfl
  · rw [if_neg h1] at h
    by_cases h2 : x = 1
    · rw [if_pos h2] at h; cases h; exact Or.inr rfl
    · rw [if_neg h2] at h; cases h
theorem z_if {S T : Wo} {P : Prop} {d9 : Decidable P} {b : Int32} (h : (if P then rz 0 (fun y => some (y, S)) else rz 1 (fun y => some (y, S))) = some (b, T)) : b = 0 ∨ b = 1 := by
  by_cases e : P
  · rw [if_pos e] at h; exact rz_01 h
  · rw [if_neg e] at h; exact rz_01 h
theorem z_isCertified {p b : Int32} {S T : Wo} (h : spX7_isCertified p S = some (b, T)) : b = 0 ∨ b = 1 := by
  unfold spX7_isCertified at h
  obtain ⟨⟨a, U⟩, -, h⟩ := Option.bind_eq_some_iff.mp h
  exact rz_01 h
theorem z_isCertifiedByChains {p b : Int32} {S T : Wo} (h : spX7_isCertifiedByChains p S = some (b, T)) : b = 0 ∨ b = 1 := by
  unfold spX7_isCertifiedByChains at h
  obtain ⟨⟨a, U⟩, -, h⟩ := Option.bind_eq_some_iff.mp h
  exact rz_01 h
theorem z_isRevoked {p b : Int32} {S T : Wo} (h : spX7_isRevoked p S = some (b, T)) : b = 0 ∨ b = 1 := by
  unfold spX7_isRevoked at h
  obtain ⟨⟨a, U⟩, -, h⟩ := Option.bind_eq_some_iff.mp h
  dsimp only at h
  by_cases e : a = 0
  · rw [if_pos e, if_pos (by decide)] at h
    obtain ⟨c, -, h⟩ := Option.bind_eq_some_iff.mp h
    exact z_if h
  · rw [if_neg e] at h
    exact rz_01 h
theorem z_isByRegistry {p b : Int32} {S T : Wo} (h : spX7_isByRegistry p S = some (b, T)) : b = 0 ∨ b = 1 := by
  unfold spX7_isByRegistry at h
  obtain ⟨⟨a, U⟩, -, h⟩ := Option.bind_eq_some_iff.mp h
  dsimp only at h
  by_cases e : a = 0
  · rw [if_pos e] at h
    obtain ⟨c, -, h⟩ := Option.bind_eq_some_iff.mp h
    exact z_if h
  · rw [if_neg e] at h
    exact rz_01 h
theorem z_isInForce {p b : Int32} {S T : Wo} (h : spX7_isInForce p S = some (b, T)) : b = 0 ∨ b = 1 := by
  unfold spX7_isInForce at h
  obtain ⟨⟨a, U⟩, -, h⟩ := Option.bind_eq_some_iff.mp h
  dsimp only at h
  by_cases e : a = 0
  · rw [if_pos e] at h
    obtain ⟨c, -, h⟩ := Option.bind_eq_some_iff.mp h
    exact z_if h
  · rw [if_neg e] at h
    exact rz_01 h
theorem z_isGuarded {p b : Int32} {S T : Wo} (h : spX7_isGuarded p S = some (b, T)) : b = 0 ∨ b = 1 := by
  unfold spX7_isGuarded at h
  obtain ⟨c, -, h⟩ := Option.bind_eq_some_iff.mp h
  have key : ∀ z : Int32, bd2 (spX7_fails z S) (fun x4 S5 => (if x4 = 0 then (spX7_guards S5).bind (fun x6 => (spX7_has x6 p S5).bind (fun x7 => (if x7 = 0 then rz 0 (fun y => some (y, S5)) else rz 1 (fun y => some (y, S5))))) else rz 0 (fun y => some (y, S5)))) = some (b, T) → b = 0 ∨ b = 1 := by
    intro z h
    obtain ⟨⟨a, U⟩, -, h⟩ := Option.bind_eq_some_iff.mp h
    dsimp only at h
    by_cases e : a = 0
    · rw [if_pos e] at h
      obtain ⟨d, -, h⟩ := Option.bind_eq_some_iff.mp h
      obtain ⟨f, -, h⟩ := Option.bind_eq_some_iff.mp h
      exact z_if h
    · rw [if_neg e] at h
      exact rz_01 h
  rw [jn_e] at h
  by_cases e : c = 0
  · rw [if_pos e] at h; exact key 1 h
  · rw [if_neg e] at h; exact key 0 h
section LAWC
variable {G : Gt} {p : Program} {l : Launch} {e : Env} {s : State} {m : MethodId} {below : List Frame} {meth : Method} {c : Code} {Z : State → Prop} {b L i k n D : Nat} {xs : Nat → Int32} {rt : Option FieldType} {S : Wo} {x : AX}
abbrev LVW (G : Gt) (p : Program) (l : Launch) (e : Env) (s : State) (m : MethodId) (b : Nat) (below : List Frame) (meth : Method) (c : Code) (Z : State → Prop) (k n : Nat) (S : Wo) (pc : Nat) (lv : List (Nat × Value)) (st : List Value) : Prop := VS G p l e room_1 s m #[Value.ref b] below meth c 9 (fun _ : Unit => Z) (some ()) k n S pc lv st
set_option maxHeartbeats 4000000 in
theorem lc_register (hl0 : l.stackTraces = false) (X : Cx G p s m #[Value.ref b] meth c "ScarecrowRegistryLaw" wsL_law cL_law 9 rt) (hX : va_X b L xs s s.heap) (hb : b < s.heap.size) (hA : ¬ Af G b) (hi : i + 3 < L) (hL : L ≤ 2048) (hI : Inv D x S) (hD : D + 900 ≤ 900000) (hk : k + 2 ≤ 603072) (hn : n + 34 ≤ 7170154) (kk : ∀ T x' k' n', Inv (D + 900) x' T → k' ≤ k + 2 → n' ≤ n + 34 → LVW G p l e s m b below meth c Z k' n' T 2568 [(0, .ref b), (1, rf G 0), (2, rf G 166), (3, rf G 175), (4, rf G 176), (5, .int (nI i))] []) : LVW G p l e s m b below meth c Z k n S 260 [(0, .ref b), (1, rf G 0), (2, rf G 166), (3, rf G 175), (4, rf G 176), (5, .int (nI i))] [] := by
  have h1 : vp_in (nI i + 1) L := vp_nI (a := 1) (by omega) (by omega)
  have h2 : vp_in (nI i + 2) L := vp_nI (a := 2) (by omega) (by omega)
  have h3 : vp_in (nI i + 3) L := vp_nI (a := 3) (by omega) (by omega)
  obtain ⟨q, S1, v, S2, x', e1, e2, e3, e4, e5⟩ := st_register (xs (ix (nI i + 1))) hI (by omega)
  refine vs_aload_n X dL_law_260 1 rfl ?_
  refine vs_aload_n X dL_law_261 0 rfl ?_
  refine vs_iload X dL_law_262 5 rfl ?_
  refine vs_iconst X (v := 1) dL_law_264 (by decide) ?_
  refine vs_iadd X dL_law_265 ?_
  refine vu_sld X hX hb hA h1 dL_law_266 ?_
  refine vs_aload_n X dL_law_267 3 rfl ?_
  refine vu_callL (As := [rf G 0, .int (xs (ix (nI i + 1))), rf G 175]) (st' := []) (mtL_register hl0 (xs (ix (nI i + 1)))) e1 X (vx_cwSW 3 X.2.2.2.2.1 gL_law_L_register rfl rfl rfl (by decide +kernel) ⟨Nat.le_of_ble_eq_true rfl, Nat.le_of_ble_eq_true rfl⟩) rfl (Nat.le_of_ble_eq_true rfl) dL_law_268 ⟨by show _ ≤ 603072; omega, by show _ ≤ 7170154; omega⟩ ?_
  refine vs_istore X (lv' := [(6, .int (nI q)), (0, .ref b), (1, rf G 0), (2, rf G 166), (3, rf G 175), (4, rf G 176), (5, .int (nI i))]) dL_law_271 (by decide) rfl ?_
  refine vs_aload_n X dL_law_273 3 rfl ?_
  refine vs_aload_n X dL_law_274 1 rfl ?_
  refine vs_iload X dL_law_275 6 rfl ?_
  refine vs_iconst X (v := 1) dL_law_277 (by decide) ?_
  refine vs_iadd X dL_law_278 ?_
  refine vu_sld X hX hb hA h1 dL_law_279 ?_
  refine vu_callM (bi := 166) (As := [.int (xs (ix (nI i + 1)))]) (st' := []) (mtX7_register hl0 (xs (ix (nI i + 1))) _ e2) X (cwV 1 X.2.2.2.2.1 gL_law_X7_register rfl rfl rfl (by decide +kernel) ⟨Nat.le_of_ble_eq_true rfl, Nat.le_of_ble_eq_true rfl⟩) (by decide) (by decide) rfl rfl rfl (Nat.le_of_ble_eq_true rfl) dL_law_280 ⟨by show _ ≤ 603072; omega, by show _ ≤ 7170154; omega⟩ ?_
  refine vs_istore X (lv' := [(7, .int v), (6, .int (nI q)), (0, .ref b), (1, rf G 0), (2, rf G 166), (3, rf G 175), (4, rf G 176), (5, .int (nI i))]) dL_law_283 (by decide) rfl ?_
  refine vs_aload_n X dL_law_285 4 rfl ?_
  refine vu_callM (bi := 166) (As := []) (st' := []) (mtX7_thrown hl0  _ rfl) X (cwV 0 X.2.2.2.2.1 gL_law_X7_thrown rfl rfl rfl (by decide +kernel) ⟨Nat.le_of_ble_eq_true rfl, Nat.le_of_ble_eq_true rfl⟩) (by decide) (by decide) rfl rfl rfl (Nat.le_of_ble_eq_true rfl) dL_law_286 ⟨by show _ ≤ 603072; omega, by show _ ≤ 7170154; omega⟩ ?_
  refine vs_iload X dL_law_289 1 rfl ?_
  refine vu_ieq X (tgt := 296) dL_law_291 (by decide) e3 ?_
  refine vs_iload X dL_law_296 1 rfl ?_
  refine vu_ne X (tgt := 313) dL_law_298 (by decide) (fun _ => ?_) (fun h0 => ?_)
  · skip
    refine vs_goto X (tgt := 2568) dL_law_313 (by decide) ?_
    refine vs_sub [2, 3, 4, 5, 6, 7] (lv' := [(0, .ref b), (1, rf G 0), (2, rf G 166), (3, rf G 175), (4, rf G 176), (5, .int (nI i))]) rfl ?_
    exact kk S2 _ _ _ (e5.up (by omega) (by omega)) (by omega) (by omega)
  · skip
    refine vs_aload_n X dL_law_301 5 rfl ?_
    refine vs_iconst X (v := 0) dL_law_302 (by decide) ?_
    refine vu_lald X dL_law_303 ?_
    refine vs_iload X dL_law_304 0 rfl ?_
    refine vs_i2lw X dL_law_306 ?_
    refine vu_lcmp0 X (e4 h0) dL_law_307 ?_
    refine vu_eq X (tgt := 313) dL_law_308 (by decide) (fun _ => ?_) (fun z => absurd rfl z)
    refine vs_goto X (tgt := 2568) dL_law_313 (by decide) ?_
    refine vs_sub [2, 3, 4, 5, 6, 7] (lv' := [(0, .ref b), (1, rf G 0), (2, rf G 166), (3, rf G 175), (4, rf G 176), (5, .int (nI i))]) rfl ?_
    exact kk S2 _ _ _ (e5.up (by omega) (by omega)) (by omega) (by omega)
set_option maxHeartbeats 4000000 in
theorem lc_move (hl0 : l.stackTraces = false) (X : Cx G p s m #[Value.ref b] meth c "ScarecrowRegistryLaw" wsL_law cL_law 9 rt) (hX : va_X b L xs s s.heap) (hb : b < s.heap.size) (hA : ¬ Af G b) (hi : i + 3 < L) (hL : L ≤ 2048) (hI : Inv D x S) (hD : D + 900 ≤ 900000) (hk : k + 2 ≤ 603072) (hn : n + 34 ≤ 7170154) (kk : ∀ T x' k' n', Inv (D + 900) x' T → k' ≤ k + 2 → n' ≤ n + 34 → LVW G p l e s m b below meth c Z k' n' T 2568 [(0, .ref b), (1, rf G 0), (2, rf G 166), (3, rf G 175), (4, rf G 176), (5, .int (nI i))] []) : LVW G p l e s m b below meth c Z k n S 316 [(0, .ref b), (1, rf G 0), (2, rf G 166), (3, rf G 175), (4, rf G 176), (5, .int (nI i))] [] := by
  have h1 : vp_in (nI i + 1) L := vp_nI (a := 1) (by omega) (by omega)
  have h2 : vp_in (nI i + 2) L := vp_nI (a := 2) (by omega) (by omega)
  have h3 : vp_in (nI i + 3) L := vp_nI (a := 3) (by omega) (by omega)
  obtain ⟨q, S1, v, S2, x', e1, e2, e3, e4, e5⟩ := st_move (xs (ix (nI i + 1))) (xs (ix (nI i + 2))) hI (by omega)
  refine vs_aload_n X dL_law_316 1 rfl ?_
  refine vs_aload_n X dL_law_317 0 rfl ?_
  refine vs_iload X dL_law_318 5 rfl ?_
  refine vs_iconst X (v := 1) dL_law_320 (by decide) ?_
  refine vs_iadd X dL_law_321 ?_
  refine vu_sld X hX hb hA h1 dL_law_322 ?_
  refine vs_aload_n X dL_law_323 0 rfl ?_
  refine vs_iload X dL_law_324 5 rfl ?_
  refine vs_iconst X (v := 2) dL_law_326 (by decide) ?_
  refine vs_iadd X dL_law_327 ?_
  refine vu_sld X hX hb hA h2 dL_law_328 ?_
  refine vs_aload_n X dL_law_329 3 rfl ?_
  refine vu_callL (As := [rf G 0, .int (xs (ix (nI i + 1))), .int (xs (ix (nI i + 2))), rf G 175]) (st' := []) (mtL_move hl0 (xs (ix (nI i + 1))) (xs (ix (nI i + 2)))) e1 X (vx_cwSW 4 X.2.2.2.2.1 gL_law_L_move rfl rfl rfl (by decide +kernel) ⟨Nat.le_of_ble_eq_true rfl, Nat.le_of_ble_eq_true rfl⟩) rfl (Nat.le_of_ble_eq_true rfl) dL_law_330 ⟨by show _ ≤ 603072; omega, by show _ ≤ 7170154; omega⟩ ?_
  refine vs_istore X (lv' := [(6, .int (nI q)), (0, .ref b), (1, rf G 0), (2, rf G 166), (3, rf G 175), (4, rf G 176), (5, .int (nI i))]) dL_law_333 (by decide) rfl ?_
  refine vs_aload_n X dL_law_335 3 rfl ?_
  refine vs_aload_n X dL_law_336 1 rfl ?_
  refine vs_iload X dL_law_337 6 rfl ?_
  refine vs_iconst X (v := 1) dL_law_339 (by decide) ?_
  refine vs_iadd X dL_law_340 ?_
  refine vu_sld X hX hb hA h1 dL_law_341 ?_
  refine vs_aload_n X dL_law_342 1 rfl ?_
  refine vs_iload X dL_law_343 6 rfl ?_
  refine vs_iconst X (v := 2) dL_law_345 (by decide) ?_
  refine vs_iadd X dL_law_346 ?_
  refine vu_sld X hX hb hA h2 dL_law_347 ?_
  refine vu_callM (bi := 166) (As := [.int (xs (ix (nI i + 1))), .int (xs (ix (nI i + 2)))]) (st' := []) (mtX7_move hl0 (xs (ix (nI i + 1))) (xs (ix (nI i + 2))) _ e2) X (cwV 2 X.2.2.2.2.1 gL_law_X7_move rfl rfl rfl (by decide +kernel) ⟨Nat.le_of_ble_eq_true rfl, Nat.le_of_ble_eq_true rfl⟩) (by decide) (by decide) rfl rfl rfl (Nat.le_of_ble_eq_true rfl) dL_law_348 ⟨by show _ ≤ 603072; omega, by show _ ≤ 7170154; omega⟩ ?_
  refine vs_istore X (lv' := [(7, .int v), (6, .int (nI q)), (0, .ref b), (1, rf G 0), (2, rf G 166), (3, rf G 175), (4, rf G 176), (5, .int (nI i))]) dL_law_351 (by decide) rfl ?_
  refine vs_aload_n X dL_law_353 4 rfl ?_
  refine vu_callM (bi := 166) (As := []) (st' := []) (mtX7_thrown hl0  _ rfl) X (cwV 0 X.2.2.2.2.1 gL_law_X7_thrown rfl rfl rfl (by decide +kernel) ⟨Nat.le_of_ble_eq_true rfl, Nat.le_of_ble_eq_true rfl⟩) (by decide) (by decide) rfl rfl rfl (Nat.le_of_ble_eq_true rfl) dL_law_354 ⟨by show _ ≤ 603072; omega, by show _ ≤ 7170154; omega⟩ ?_
  refine vs_iload X dL_law_357 1 rfl ?_
  refine vu_ieq X (tgt := 364) dL_law_359 (by decide) e3 ?_
  refine vs_iload X dL_law_364 1 rfl ?_
  refine vu_ne X (tgt := 381) dL_law_366 (by decide) (fun _ => ?_) (fun h0 => ?_)
  · skip
    refine vs_goto X (tgt := 2568) dL_law_381 (by decide) ?_
    refine vs_sub [2, 3, 4, 5, 6, 7] (lv' := [(0, .ref b), (1, rf G 0), (2, rf G 166), (3, rf G 175), (4, rf G 176), (5, .int (nI i))]) rfl ?_
    exact kk S2 _ _ _ (e5.up (by omega) (by omega)) (by omega) (by omega)
  · skip
    refine vs_aload_n X dL_law_369 5 rfl ?_
    refine vs_iconst X (v := 0) dL_law_370 (by decide) ?_
    refine vu_lald X dL_law_371 ?_
    refine vs_iload X dL_law_372 0 rfl ?_
    refine vs_i2lw X dL_law_374 ?_
    refine vu_lcmp0 X (e4 h0) dL_law_375 ?_
    refine vu_eq X (tgt := 381) dL_law_376 (by decide) (fun _ => ?_) (fun z => absurd rfl z)
    refine vs_goto X (tgt := 2568) dL_law_381 (by decide) ?_
    refine vs_sub [2, 3, 4, 5, 6, 7] (lv' := [(0, .ref b), (1, rf G 0), (2, rf G 166), (3, rf G 175), (4, rf G 176), (5, .int (nI i))]) rfl ?_
    exact kk S2 _ _ _ (e5.up (by omega) (by omega)) (by omega) (by omega)
set_option maxHeartbeats 4000000 in
theorem lc_setRevoked (hl0 : l.stackTraces = false) (X : Cx G p s m #[Value.ref b] meth c "ScarecrowRegistryLaw" wsL_law cL_law 9 rt) (hX : va_X b L xs s s.heap) (hb : b < s.heap.size) (hA : ¬ Af G b) (hi : i + 3 < L) (hL : L ≤ 2048) (hI : Inv D x S) (hD : D + 900 ≤ 900000) (hk : k + 2 ≤ 603072) (hn : n + 34 ≤ 7170154) (kk : ∀ T x' k' n', Inv (D + 900) x' T → k' ≤ k + 2 → n' ≤ n + 34 → LVW G p l e s m b below meth c Z k' n' T 2568 [(0, .ref b), (1, rf G 0), (2, rf G 166), (3, rf G 175), (4, rf G 176), (5, .int (nI i))] []) : LVW G p l e s m b below meth c Z k n S 384 [(0, .ref b), (1, rf G 0), (2, rf G 166), (3, rf G 175), (4, rf G 176), (5, .int (nI i))] [] := by
  have h1 : vp_in (nI i + 1) L := vp_nI (a := 1) (by omega) (by omega)
  have h2 : vp_in (nI i + 2) L := vp_nI (a := 2) (by omega) (by omega)
  have h3 : vp_in (nI i + 3) L := vp_nI (a := 3) (by omega) (by omega)
  by_cases hz : xs (ix (nI i + 2)) = 0
  · skip
    obtain ⟨q, S1, v, S2, x', e1, e2, e3, e4, e5⟩ := st_setRevoked (xs (ix (nI i + 1))) false hI (by omega)
    refine vs_aload_n X dL_law_384 1 rfl ?_
    refine vs_aload_n X dL_law_385 0 rfl ?_
    refine vs_iload X dL_law_386 5 rfl ?_
    refine vs_iconst X (v := 1) dL_law_388 (by decide) ?_
    refine vs_iadd X dL_law_389 ?_
    refine vu_sld X hX hb hA h1 dL_law_390 ?_
    refine vs_aload_n X dL_law_391 0 rfl ?_
    refine vs_iload X dL_law_392 5 rfl ?_
    refine vs_iconst X (v := 2) dL_law_394 (by decide) ?_
    refine vs_iadd X dL_law_395 ?_
    refine vu_sld X hX hb hA h2 dL_law_396 ?_
    refine vu_eq X (tgt := 404) dL_law_397 (by decide) (fun _ => ?_) (fun z => absurd hz z)
    refine vs_iconst X (v := 0) dL_law_404 (by decide) ?_
    refine vs_aload_n X dL_law_405 3 rfl ?_
    refine vu_callL (As := [rf G 0, .int (xs (ix (nI i + 1))), .int 0, rf G 175]) (st' := []) (mtL_setRevoked hl0 (xs (ix (nI i + 1))) 0) e1 X (vx_cwSW 4 X.2.2.2.2.1 gL_law_L_setRevoked rfl rfl rfl (by decide +kernel) ⟨Nat.le_of_ble_eq_true rfl, Nat.le_of_ble_eq_true rfl⟩) rfl (Nat.le_of_ble_eq_true rfl) dL_law_406 ⟨by show _ ≤ 603072; omega, by show _ ≤ 7170154; omega⟩ ?_
    refine vs_istore X (lv' := [(6, .int (nI q)), (0, .ref b), (1, rf G 0), (2, rf G 166), (3, rf G 175), (4, rf G 176), (5, .int (nI i))]) dL_law_409 (by decide) rfl ?_
    refine vs_aload_n X dL_law_411 3 rfl ?_
    refine vs_aload_n X dL_law_412 1 rfl ?_
    refine vs_iload X dL_law_413 6 rfl ?_
    refine vs_iconst X (v := 1) dL_law_415 (by decide) ?_
    refine vs_iadd X dL_law_416 ?_
    refine vu_sld X hX hb hA h1 dL_law_417 ?_
    refine vs_aload_n X dL_law_418 1 rfl ?_
    refine vs_iload X dL_law_419 6 rfl ?_
    refine vs_iconst X (v := 2) dL_law_421 (by decide) ?_
    refine vs_iadd X dL_law_422 ?_
    refine vu_sld X hX hb hA h2 dL_law_423 ?_
    refine vu_eq X (tgt := 431) dL_law_424 (by decide) (fun _ => ?_) (fun z => absurd hz z)
    refine vs_iconst X (v := 0) dL_law_431 (by decide) ?_
    refine vu_callM (bi := 166) (As := [.int (xs (ix (nI i + 1))), .int 0]) (st' := []) (mtX7_setRevoked hl0 (xs (ix (nI i + 1))) 0 _ e2) X (cwV 2 X.2.2.2.2.1 gL_law_X7_setRevoked rfl rfl rfl (by decide +kernel) ⟨Nat.le_of_ble_eq_true rfl, Nat.le_of_ble_eq_true rfl⟩) (by decide) (by decide) rfl rfl rfl (Nat.le_of_ble_eq_true rfl) dL_law_432 ⟨by show _ ≤ 603072; omega, by show _ ≤ 7170154; omega⟩ ?_
    refine vs_istore X (lv' := [(7, .int v), (6, .int (nI q)), (0, .ref b), (1, rf G 0), (2, rf G 166), (3, rf G 175), (4, rf G 176), (5, .int (nI i))]) dL_law_435 (by decide) rfl ?_
    refine vs_aload_n X dL_law_437 4 rfl ?_
    refine vu_callM (bi := 166) (As := []) (st' := []) (mtX7_thrown hl0  _ rfl) X (cwV 0 X.2.2.2.2.1 gL_law_X7_thrown rfl rfl rfl (by decide +kernel) ⟨Nat.le_of_ble_eq_true rfl, Nat.le_of_ble_eq_true rfl⟩) (by decide) (by decide) rfl rfl rfl (Nat.le_of_ble_eq_true rfl) dL_law_438 ⟨by show _ ≤ 603072; omega, by show _ ≤ 7170154; omega⟩ ?_
    refine vs_iload X dL_law_441 1 rfl ?_
    refine vu_ieq X (tgt := 448) dL_law_443 (by decide) e3 ?_
    refine vs_iload X dL_law_448 1 rfl ?_
    refine vu_ne X (tgt := 465) dL_law_450 (by decide) (fun _ => ?_) (fun h0 => ?_)
    · skip
      refine vs_goto X (tgt := 2568) dL_law_465 (by decide) ?_
      refine vs_sub [2, 3, 4, 5, 6, 7] (lv' := [(0, .ref b), (1, rf G 0), (2, rf G 166), (3, rf G 175), (4, rf G 176), (5, .int (nI i))]) rfl ?_
      exact kk S2 _ _ _ (e5.up (by omega) (by omega)) (by omega) (by omega)
    · skip
      refine vs_aload_n X dL_law_453 5 rfl ?_
      refine vs_iconst X (v := 0) dL_law_454 (by decide) ?_
      refine vu_lald X dL_law_455 ?_
      refine vs_iload X dL_law_456 0 rfl ?_
      refine vs_i2lw X dL_law_458 ?_
      refine vu_lcmp0 X (e4 h0) dL_law_459 ?_
      refine vu_eq X (tgt := 465) dL_law_460 (by decide) (fun _ => ?_) (fun z => absurd rfl z)
      refine vs_goto X (tgt := 2568) dL_law_465 (by decide) ?_
      refine vs_sub [2, 3, 4, 5, 6, 7] (lv' := [(0, .ref b), (1, rf G 0), (2, rf G 166), (3, rf G 175), (4, rf G 176), (5, .int (nI i))]) rfl ?_
      exact kk S2 _ _ _ (e5.up (by omega) (by omega)) (by omega) (by omega)
  · skip
    obtain ⟨q, S1, v, S2, x', e1, e2, e3, e4, e5⟩ := st_setRevoked (xs (ix (nI i + 1))) true hI (by omega)
    refine vs_aload_n X dL_law_384 1 rfl ?_
    refine vs_aload_n X dL_law_385 0 rfl ?_
    refine vs_iload X dL_law_386 5 rfl ?_
    refine vs_iconst X (v := 1) dL_law_388 (by decide) ?_
    refine vs_iadd X dL_law_389 ?_
    refine vu_sld X hX hb hA h1 dL_law_390 ?_
    refine vs_aload_n X dL_law_391 0 rfl ?_
    refine vs_iload X dL_law_392 5 rfl ?_
    refine vs_iconst X (v := 2) dL_law_394 (by decide) ?_
    refine vs_iadd X dL_law_395 ?_
    refine vu_sld X hX hb hA h2 dL_law_396 ?_
    refine vu_eq X (tgt := 404) dL_law_397 (by decide) (fun z => absurd z hz) (fun _ => ?_)
    refine vs_iconst X (v := 1) dL_law_400 (by decide) ?_
    refine vs_goto X (tgt := 405) dL_law_401 (by decide) ?_
    refine vs_aload_n X dL_law_405 3 rfl ?_
    refine vu_callL (As := [rf G 0, .int (xs (ix (nI i + 1))), .int 1, rf G 175]) (st' := []) (mtL_setRevoked hl0 (xs (ix (nI i + 1))) 1) e1 X (vx_cwSW 4 X.2.2.2.2.1 gL_law_L_setRevoked rfl rfl rfl (by decide +kernel) ⟨Nat.le_of_ble_eq_true rfl, Nat.le_of_ble_eq_true rfl⟩) rfl (Nat.le_of_ble_eq_true rfl) dL_law_406 ⟨by show _ ≤ 603072; omega, by show _ ≤ 7170154; omega⟩ ?_
    refine vs_istore X (lv' := [(6, .int (nI q)), (0, .ref b), (1, rf G 0), (2, rf G 166), (3, rf G 175), (4, rf G 176), (5, .int (nI i))]) dL_law_409 (by decide) rfl ?_
    refine vs_aload_n X dL_law_411 3 rfl ?_
    refine vs_aload_n X dL_law_412 1 rfl ?_
    refine vs_iload X dL_law_413 6 rfl ?_
    refine vs_iconst X (v := 1) dL_law_415 (by decide) ?_
    refine vs_iadd X dL_law_416 ?_
    refine vu_sld X hX hb hA h1 dL_law_417 ?_
    refine vs_aload_n X dL_law_418 1 rfl ?_
    refine vs_iload X dL_law_419 6 rfl ?_
    refine vs_iconst X (v := 2) dL_law_421 (by decide) ?_
    refine vs_iadd X dL_law_422 ?_
    refine vu_sld X hX hb hA h2 dL_law_423 ?_
    refine vu_eq X (tgt := 431) dL_law_424 (by decide) (fun z => absurd z hz) (fun _ => ?_)
    refine vs_iconst X (v := 1) dL_law_427 (by decide) ?_
    refine vs_goto X (tgt := 432) dL_law_428 (by decide) ?_
    refine vu_callM (bi := 166) (As := [.int (xs (ix (nI i + 1))), .int 1]) (st' := []) (mtX7_setRevoked hl0 (xs (ix (nI i + 1))) 1 _ e2) X (cwV 2 X.2.2.2.2.1 gL_law_X7_setRevoked rfl rfl rfl (by decide +kernel) ⟨Nat.le_of_ble_eq_true rfl, Nat.le_of_ble_eq_true rfl⟩) (by decide) (by decide) rfl rfl rfl (Nat.le_of_ble_eq_true rfl) dL_law_432 ⟨by show _ ≤ 603072; omega, by show _ ≤ 7170154; omega⟩ ?_
    refine vs_istore X (lv' := [(7, .int v), (6, .int (nI q)), (0, .ref b), (1, rf G 0), (2, rf G 166), (3, rf G 175), (4, rf G 176), (5, .int (nI i))]) dL_law_435 (by decide) rfl ?_
    refine vs_aload_n X dL_law_437 4 rfl ?_
    refine vu_callM (bi := 166) (As := []) (st' := []) (mtX7_thrown hl0  _ rfl) X (cwV 0 X.2.2.2.2.1 gL_law_X7_thrown rfl rfl rfl (by decide +kernel) ⟨Nat.le_of_ble_eq_true rfl, Nat.le_of_ble_eq_true rfl⟩) (by decide) (by decide) rfl rfl rfl (Nat.le_of_ble_eq_true rfl) dL_law_438 ⟨by show _ ≤ 603072; omega, by show _ ≤ 7170154; omega⟩ ?_
    refine vs_iload X dL_law_441 1 rfl ?_
    refine vu_ieq X (tgt := 448) dL_law_443 (by decide) e3 ?_
    refine vs_iload X dL_law_448 1 rfl ?_
    refine vu_ne X (tgt := 465) dL_law_450 (by decide) (fun _ => ?_) (fun h0 => ?_)
    · skip
      refine vs_goto X (tgt := 2568) dL_law_465 (by decide) ?_
      refine vs_sub [2, 3, 4, 5, 6, 7] (lv' := [(0, .ref b), (1, rf G 0), (2, rf G 166), (3, rf G 175), (4, rf G 176), (5, .int (nI i))]) rfl ?_
      exact kk S2 _ _ _ (e5.up (by omega) (by omega)) (by omega) (by omega)
    · skip
      refine vs_aload_n X dL_law_453 5 rfl ?_
      refine vs_iconst X (v := 0) dL_law_454 (by decide) ?_
      refine vu_lald X dL_law_455 ?_
      refine vs_iload X dL_law_456 0 rfl ?_
      refine vs_i2lw X dL_law_458 ?_
      refine vu_lcmp0 X (e4 h0) dL_law_459 ?_
      refine vu_eq X (tgt := 465) dL_law_460 (by decide) (fun _ => ?_) (fun z => absurd rfl z)
      refine vs_goto X (tgt := 2568) dL_law_465 (by decide) ?_
      refine vs_sub [2, 3, 4, 5, 6, 7] (lv' := [(0, .ref b), (1, rf G 0), (2, rf G 166), (3, rf G 175), (4, rf G 176), (5, .int (nI i))]) rfl ?_
      exact kk S2 _ _ _ (e5.up (by omega) (by omega)) (by omega) (by omega)
set_option maxHeartbeats 4000000 in
theorem lc_scarecrowCount (hl0 : l.stackTraces = false) (X : Cx G p s m #[Value.ref b] meth c "ScarecrowRegistryLaw" wsL_law cL_law 9 rt) (hX : va_X b L xs s s.heap) (hb : b < s.heap.size) (hA : ¬ Af G b) (hi : i + 3 < L) (hL : L ≤ 2048) (hI : Inv D x S) (hD : D + 900 ≤ 900000) (hk : k + 2 ≤ 603072) (hn : n + 34 ≤ 7170154) (kk : ∀ T x' k' n', Inv (D + 900) x' T → k' ≤ k + 2 → n' ≤ n + 34 → LVW G p l e s m b below meth c Z k' n' T 2568 [(0, .ref b), (1, rf G 0), (2, rf G 166), (3, rf G 175), (4, rf G 176), (5, .int (nI i))] []) : LVW G p l e s m b below meth c Z k n S 468 [(0, .ref b), (1, rf G 0), (2, rf G 166), (3, rf G 175), (4, rf G 176), (5, .int (nI i))] [] := by
  have h1 : vp_in (nI i + 1) L := vp_nI (a := 1) (by omega) (by omega)
  have h2 : vp_in (nI i + 2) L := vp_nI (a := 2) (by omega) (by omega)
  have h3 : vp_in (nI i + 3) L := vp_nI (a := 3) (by omega) (by omega)
  obtain ⟨v, S2, x', e1, e2, e5⟩ := sb_scarecrowCount hI
  refine vs_aload_n X dL_law_468 1 rfl ?_
  refine vu_callM (bi := 0) (As := []) (st' := []) (mtX6_scarecrowCount hl0  _ e1) X (cwV 0 X.2.2.2.2.1 gL_law_X6_scarecrowCount rfl rfl rfl (by decide +kernel) ⟨Nat.le_of_ble_eq_true rfl, Nat.le_of_ble_eq_true rfl⟩) (by decide) (by decide) rfl rfl rfl (Nat.le_of_ble_eq_true rfl) dL_law_469 ⟨by show _ ≤ 603072; omega, by show _ ≤ 7170154; omega⟩ ?_
  refine vs_aload_n X dL_law_472 2 rfl ?_
  refine vu_callM (bi := 166) (As := []) (st' := [.int v]) (mtX7_scarecrowCount hl0  _ e2) X (cwV 0 X.2.2.2.2.1 gL_law_X7_scarecrowCount rfl rfl rfl (by decide +kernel) ⟨Nat.le_of_ble_eq_true rfl, Nat.le_of_ble_eq_true rfl⟩) (by decide) (by decide) rfl rfl rfl (Nat.le_of_ble_eq_true rfl) dL_law_473 ⟨by show _ ≤ 603072; omega, by show _ ≤ 7170154; omega⟩ ?_
  refine vu_ieq X (tgt := 2568) dL_law_476 (by decide) rfl ?_
  exact kk S2 _ _ _ (e5.up (by omega) (by omega)) (by omega) (by omega)
set_option maxHeartbeats 4000000 in
theorem lc_fieldOf (hl0 : l.stackTraces = false) (X : Cx G p s m #[Value.ref b] meth c "ScarecrowRegistryLaw" wsL_law cL_law 9 rt) (hX : va_X b L xs s s.heap) (hb : b < s.heap.size) (hA : ¬ Af G b) (hi : i + 3 < L) (hL : L ≤ 2048) (hI : Inv D x S) (hD : D + 900 ≤ 900000) (hk : k + 2 ≤ 603072) (hn : n + 34 ≤ 7170154) (kk : ∀ T x' k' n', Inv (D + 900) x' T → k' ≤ k + 2 → n' ≤ n + 34 → LVW G p l e s m b below meth c Z k' n' T 2568 [(0, .ref b), (1, rf G 0), (2, rf G 166), (3, rf G 175), (4, rf G 176), (5, .int (nI i))] []) : LVW G p l e s m b below meth c Z k n S 481 [(0, .ref b), (1, rf G 0), (2, rf G 166), (3, rf G 175), (4, rf G 176), (5, .int (nI i))] [] := by
  have h1 : vp_in (nI i + 1) L := vp_nI (a := 1) (by omega) (by omega)
  have h2 : vp_in (nI i + 2) L := vp_nI (a := 2) (by omega) (by omega)
  have h3 : vp_in (nI i + 3) L := vp_nI (a := 3) (by omega) (by omega)
  obtain ⟨q, S1, v, S2, x', e1, e2, e3, e4, e5⟩ := st_fieldOf (xs (ix (nI i + 1))) hI 
  refine vs_aload_n X dL_law_481 1 rfl ?_
  refine vs_aload_n X dL_law_482 0 rfl ?_
  refine vs_iload X dL_law_483 5 rfl ?_
  refine vs_iconst X (v := 1) dL_law_485 (by decide) ?_
  refine vs_iadd X dL_law_486 ?_
  refine vu_sld X hX hb hA h1 dL_law_487 ?_
  refine vs_aload_n X dL_law_488 3 rfl ?_
  refine vu_callL (As := [rf G 0, .int (xs (ix (nI i + 1))), rf G 175]) (st' := []) (mtL_fieldOf hl0 (xs (ix (nI i + 1)))) e1 X (vx_cwSW 3 X.2.2.2.2.1 gL_law_L_fieldOf rfl rfl rfl (by decide +kernel) ⟨Nat.le_of_ble_eq_true rfl, Nat.le_of_ble_eq_true rfl⟩) rfl (Nat.le_of_ble_eq_true rfl) dL_law_489 ⟨by show _ ≤ 603072; omega, by show _ ≤ 7170154; omega⟩ ?_
  refine vs_istore X (lv' := [(6, .int (nI q)), (0, .ref b), (1, rf G 0), (2, rf G 166), (3, rf G 175), (4, rf G 176), (5, .int (nI i))]) dL_law_492 (by decide) rfl ?_
  refine vs_aload_n X dL_law_494 3 rfl ?_
  refine vs_aload_n X dL_law_495 1 rfl ?_
  refine vs_iload X dL_law_496 6 rfl ?_
  refine vs_iconst X (v := 1) dL_law_498 (by decide) ?_
  refine vs_iadd X dL_law_499 ?_
  refine vu_sld X hX hb hA h1 dL_law_500 ?_
  refine vu_callM (bi := 166) (As := [.int (xs (ix (nI i + 1)))]) (st' := []) (mtX7_fieldOf hl0 (xs (ix (nI i + 1))) _ e2) X (cwV 1 X.2.2.2.2.1 gL_law_X7_fieldOf rfl rfl rfl (by decide +kernel) ⟨Nat.le_of_ble_eq_true rfl, Nat.le_of_ble_eq_true rfl⟩) (by decide) (by decide) rfl rfl rfl (Nat.le_of_ble_eq_true rfl) dL_law_501 ⟨by show _ ≤ 603072; omega, by show _ ≤ 7170154; omega⟩ ?_
  refine vs_istore X (lv' := [(7, .int v), (6, .int (nI q)), (0, .ref b), (1, rf G 0), (2, rf G 166), (3, rf G 175), (4, rf G 176), (5, .int (nI i))]) dL_law_504 (by decide) rfl ?_
  refine vs_aload_n X dL_law_506 4 rfl ?_
  refine vu_callM (bi := 166) (As := []) (st' := []) (mtX7_thrown hl0  _ rfl) X (cwV 0 X.2.2.2.2.1 gL_law_X7_thrown rfl rfl rfl (by decide +kernel) ⟨Nat.le_of_ble_eq_true rfl, Nat.le_of_ble_eq_true rfl⟩) (by decide) (by decide) rfl rfl rfl (Nat.le_of_ble_eq_true rfl) dL_law_507 ⟨by show _ ≤ 603072; omega, by show _ ≤ 7170154; omega⟩ ?_
  refine vs_iload X dL_law_510 1 rfl ?_
  refine vu_ieq X (tgt := 517) dL_law_512 (by decide) e3 ?_
  refine vs_iload X dL_law_517 1 rfl ?_
  refine vu_ne X (tgt := 534) dL_law_519 (by decide) (fun _ => ?_) (fun h0 => ?_)
  · skip
    refine vs_goto X (tgt := 2568) dL_law_534 (by decide) ?_
    refine vs_sub [2, 3, 4, 5, 6, 7] (lv' := [(0, .ref b), (1, rf G 0), (2, rf G 166), (3, rf G 175), (4, rf G 176), (5, .int (nI i))]) rfl ?_
    exact kk S2 _ _ _ (e5.up (by omega) (by omega)) (by omega) (by omega)
  · skip
    refine vs_aload_n X dL_law_522 5 rfl ?_
    refine vs_iconst X (v := 0) dL_law_523 (by decide) ?_
    refine vu_lald X dL_law_524 ?_
    refine vs_iload X dL_law_525 0 rfl ?_
    refine vs_i2lw X dL_law_527 ?_
    refine vu_lcmp0 X (e4 h0) dL_law_528 ?_
    refine vu_eq X (tgt := 534) dL_law_529 (by decide) (fun _ => ?_) (fun z => absurd rfl z)
    refine vs_goto X (tgt := 2568) dL_law_534 (by decide) ?_
    refine vs_sub [2, 3, 4, 5, 6, 7] (lv' := [(0, .ref b), (1, rf G 0), (2, rf G 166), (3, rf G 175), (4, rf G 176), (5, .int (nI i))]) rfl ?_
    exact kk S2 _ _ _ (e5.up (by omega) (by omega)) (by omega) (by omega)
set_option maxHeartbeats 4000000 in
theorem lc_scarecrowOn (hl0 : l.stackTraces = false) (X : Cx G p s m #[Value.ref b] meth c "ScarecrowRegistryLaw" wsL_law cL_law 9 rt) (hX : va_X b L xs s s.heap) (hb : b < s.heap.size) (hA : ¬ Af G b) (hi : i + 3 < L) (hL : L ≤ 2048) (hI : Inv D x S) (hD : D + 900 ≤ 900000) (hk : k + 2 ≤ 603072) (hn : n + 34 ≤ 7170154) (kk : ∀ T x' k' n', Inv (D + 900) x' T → k' ≤ k + 2 → n' ≤ n + 34 → LVW G p l e s m b below meth c Z k' n' T 2568 [(0, .ref b), (1, rf G 0), (2, rf G 166), (3, rf G 175), (4, rf G 176), (5, .int (nI i))] []) : LVW G p l e s m b below meth c Z k n S 537 [(0, .ref b), (1, rf G 0), (2, rf G 166), (3, rf G 175), (4, rf G 176), (5, .int (nI i))] [] := by
  have h1 : vp_in (nI i + 1) L := vp_nI (a := 1) (by omega) (by omega)
  have h2 : vp_in (nI i + 2) L := vp_nI (a := 2) (by omega) (by omega)
  have h3 : vp_in (nI i + 3) L := vp_nI (a := 3) (by omega) (by omega)
  obtain ⟨q, S1, v, S2, x', e1, e2, e3, e4, e5⟩ := st_scarecrowOn (xs (ix (nI i + 1))) hI 
  refine vs_aload_n X dL_law_537 1 rfl ?_
  refine vs_aload_n X dL_law_538 0 rfl ?_
  refine vs_iload X dL_law_539 5 rfl ?_
  refine vs_iconst X (v := 1) dL_law_541 (by decide) ?_
  refine vs_iadd X dL_law_542 ?_
  refine vu_sld X hX hb hA h1 dL_law_543 ?_
  refine vs_aload_n X dL_law_544 3 rfl ?_
  refine vu_callL (As := [rf G 0, .int (xs (ix (nI i + 1))), rf G 175]) (st' := []) (mtL_scarecrowOn hl0 (xs (ix (nI i + 1)))) e1 X (vx_cwSW 3 X.2.2.2.2.1 gL_law_L_scarecrowOn rfl rfl rfl (by decide +kernel) ⟨Nat.le_of_ble_eq_true rfl, Nat.le_of_ble_eq_true rfl⟩) rfl (Nat.le_of_ble_eq_true rfl) dL_law_545 ⟨by show _ ≤ 603072; omega, by show _ ≤ 7170154; omega⟩ ?_
  refine vs_istore X (lv' := [(6, .int (nI q)), (0, .ref b), (1, rf G 0), (2, rf G 166), (3, rf G 175), (4, rf G 176), (5, .int (nI i))]) dL_law_548 (by decide) rfl ?_
  refine vs_aload_n X dL_law_550 3 rfl ?_
  refine vs_aload_n X dL_law_551 1 rfl ?_
  refine vs_iload X dL_law_552 6 rfl ?_
  refine vs_iconst X (v := 1) dL_law_554 (by decide) ?_
  refine vs_iadd X dL_law_555 ?_
  refine vu_sld X hX hb hA h1 dL_law_556 ?_
  refine vu_callM (bi := 166) (As := [.int (xs (ix (nI i + 1)))]) (st' := []) (mtX7_scarecrowOn hl0 (xs (ix (nI i + 1))) _ e2) X (cwV 1 X.2.2.2.2.1 gL_law_X7_scarecrowOn rfl rfl rfl (by decide +kernel) ⟨Nat.le_of_ble_eq_true rfl, Nat.le_of_ble_eq_true rfl⟩) (by decide) (by decide) rfl rfl rfl (Nat.le_of_ble_eq_true rfl) dL_law_557 ⟨by show _ ≤ 603072; omega, by show _ ≤ 7170154; omega⟩ ?_
  refine vs_istore X (lv' := [(7, .int v), (6, .int (nI q)), (0, .ref b), (1, rf G 0), (2, rf G 166), (3, rf G 175), (4, rf G 176), (5, .int (nI i))]) dL_law_560 (by decide) rfl ?_
  refine vs_aload_n X dL_law_562 4 rfl ?_
  refine vu_callM (bi := 166) (As := []) (st' := []) (mtX7_thrown hl0  _ rfl) X (cwV 0 X.2.2.2.2.1 gL_law_X7_thrown rfl rfl rfl (by decide +kernel) ⟨Nat.le_of_ble_eq_true rfl, Nat.le_of_ble_eq_true rfl⟩) (by decide) (by decide) rfl rfl rfl (Nat.le_of_ble_eq_true rfl) dL_law_563 ⟨by show _ ≤ 603072; omega, by show _ ≤ 7170154; omega⟩ ?_
  refine vs_iload X dL_law_566 1 rfl ?_
  refine vu_ieq X (tgt := 573) dL_law_568 (by decide) e3 ?_
  refine vs_iload X dL_law_573 1 rfl ?_
  refine vu_ne X (tgt := 590) dL_law_575 (by decide) (fun _ => ?_) (fun h0 => ?_)
  · skip
    refine vs_goto X (tgt := 2568) dL_law_590 (by decide) ?_
    refine vs_sub [2, 3, 4, 5, 6, 7] (lv' := [(0, .ref b), (1, rf G 0), (2, rf G 166), (3, rf G 175), (4, rf G 176), (5, .int (nI i))]) rfl ?_
    exact kk S2 _ _ _ (e5.up (by omega) (by omega)) (by omega) (by omega)
  · skip
    refine vs_aload_n X dL_law_578 5 rfl ?_
    refine vs_iconst X (v := 0) dL_law_579 (by decide) ?_
    refine vu_lald X dL_law_580 ?_
    refine vs_iload X dL_law_581 0 rfl ?_
    refine vs_i2lw X dL_law_583 ?_
    refine vu_lcmp0 X (e4 h0) dL_law_584 ?_
    refine vu_eq X (tgt := 590) dL_law_585 (by decide) (fun _ => ?_) (fun z => absurd rfl z)
    refine vs_goto X (tgt := 2568) dL_law_590 (by decide) ?_
    refine vs_sub [2, 3, 4, 5, 6, 7] (lv' := [(0, .ref b), (1, rf G 0), (2, rf G 166), (3, rf G 175), (4, rf G 176), (5, .int (nI i))]) rfl ?_
    exact kk S2 _ _ _ (e5.up (by omega) (by omega)) (by omega) (by omega)
set_option maxHeartbeats 4000000 in
theorem lc_isRevoked (hl0 : l.stackTraces = false) (X : Cx G p s m #[Value.ref b] meth c "ScarecrowRegistryLaw" wsL_law cL_law 9 rt) (hX : va_X b L xs s s.heap) (hb : b < s.heap.size) (hA : ¬ Af G b) (hi : i + 3 < L) (hL : L ≤ 2048) (hI : Inv D x S) (hD : D + 900 ≤ 900000) (hk : k + 2 ≤ 603072) (hn : n + 34 ≤ 7170154) (kk : ∀ T x' k' n', Inv (D + 900) x' T → k' ≤ k + 2 → n' ≤ n + 34 → LVW G p l e s m b below meth c Z k' n' T 2568 [(0, .ref b), (1, rf G 0), (2, rf G 166), (3, rf G 175), (4, rf G 176), (5, .int (nI i))] []) : LVW G p l e s m b below meth c Z k n S 593 [(0, .ref b), (1, rf G 0), (2, rf G 166), (3, rf G 175), (4, rf G 176), (5, .int (nI i))] [] := by
  have h1 : vp_in (nI i + 1) L := vp_nI (a := 1) (by omega) (by omega)
  have h2 : vp_in (nI i + 2) L := vp_nI (a := 2) (by omega) (by omega)
  have h3 : vp_in (nI i + 3) L := vp_nI (a := 3) (by omega) (by omega)
  obtain ⟨q, S1, v, S2, x', e1, e2, e3, e4, e5⟩ := st_isRevoked (xs (ix (nI i + 1))) hI 
  refine vs_aload_n X dL_law_593 1 rfl ?_
  refine vs_aload_n X dL_law_594 0 rfl ?_
  refine vs_iload X dL_law_595 5 rfl ?_
  refine vs_iconst X (v := 1) dL_law_597 (by decide) ?_
  refine vs_iadd X dL_law_598 ?_
  refine vu_sld X hX hb hA h1 dL_law_599 ?_
  refine vs_aload_n X dL_law_600 3 rfl ?_
  refine vu_callL (As := [rf G 0, .int (xs (ix (nI i + 1))), rf G 175]) (st' := []) (mtL_isRevoked hl0 (xs (ix (nI i + 1)))) e1 X (vx_cwSW 3 X.2.2.2.2.1 gL_law_L_isRevoked rfl rfl rfl (by decide +kernel) ⟨Nat.le_of_ble_eq_true rfl, Nat.le_of_ble_eq_true rfl⟩) rfl (Nat.le_of_ble_eq_true rfl) dL_law_601 ⟨by show _ ≤ 603072; omega, by show _ ≤ 7170154; omega⟩ ?_
  refine vs_istore X (lv' := [(6, .int (nI q)), (0, .ref b), (1, rf G 0), (2, rf G 166), (3, rf G 175), (4, rf G 176), (5, .int (nI i))]) dL_law_604 (by decide) rfl ?_
  refine vs_aload_n X dL_law_606 3 rfl ?_
  refine vs_aload_n X dL_law_607 1 rfl ?_
  refine vs_iload X dL_law_608 6 rfl ?_
  refine vs_iconst X (v := 1) dL_law_610 (by decide) ?_
  refine vs_iadd X dL_law_611 ?_
  refine vu_sld X hX hb hA h1 dL_law_612 ?_
  refine vu_callM (bi := 166) (As := [.int (xs (ix (nI i + 1)))]) (st' := []) (mtX7_isRevoked hl0 (xs (ix (nI i + 1))) _ e2) X (cwV 1 X.2.2.2.2.1 gL_law_X7_isRevoked rfl rfl rfl (by decide +kernel) ⟨Nat.le_of_ble_eq_true rfl, Nat.le_of_ble_eq_true rfl⟩) (by decide) (by decide) rfl rfl rfl (Nat.le_of_ble_eq_true rfl) dL_law_613 ⟨by show _ ≤ 603072; omega, by show _ ≤ 7170154; omega⟩ ?_
  refine vs_istore X (lv' := [(7, .int v), (6, .int (nI q)), (0, .ref b), (1, rf G 0), (2, rf G 166), (3, rf G 175), (4, rf G 176), (5, .int (nI i))]) dL_law_616 (by decide) rfl ?_
  refine vs_aload_n X dL_law_618 4 rfl ?_
  refine vu_callM (bi := 166) (As := []) (st' := []) (mtX7_thrown hl0  _ rfl) X (cwV 0 X.2.2.2.2.1 gL_law_X7_thrown rfl rfl rfl (by decide +kernel) ⟨Nat.le_of_ble_eq_true rfl, Nat.le_of_ble_eq_true rfl⟩) (by decide) (by decide) rfl rfl rfl (Nat.le_of_ble_eq_true rfl) dL_law_619 ⟨by show _ ≤ 603072; omega, by show _ ≤ 7170154; omega⟩ ?_
  refine vs_iload X dL_law_622 1 rfl ?_
  refine vu_ieq X (tgt := 629) dL_law_624 (by decide) e3 ?_
  refine vs_iload X dL_law_629 1 rfl ?_
  refine vu_ne X (tgt := 653) dL_law_631 (by decide) (fun _ => ?_) (fun h0 => ?_)
  · skip
    refine vs_goto X (tgt := 2568) dL_law_653 (by decide) ?_
    refine vs_sub [2, 3, 4, 5, 6, 7] (lv' := [(0, .ref b), (1, rf G 0), (2, rf G 166), (3, rf G 175), (4, rf G 176), (5, .int (nI i))]) rfl ?_
    exact kk S2 _ _ _ (e5.up (by omega) (by omega)) (by omega) (by omega)
  · skip
    refine vs_aload_n X dL_law_634 5 rfl ?_
    refine vs_iconst X (v := 0) dL_law_635 (by decide) ?_
    refine vu_lald X dL_law_636 ?_
    refine vs_iload X dL_law_637 0 rfl ?_
    refine vu_eq X (tgt := 646) dL_law_639 (by decide) (fun hv => ?_) (fun hv => ?_)
    · skip
      refine vs_lconst X (v := 0) dL_law_646 rfl ?_
      refine vu_lcmp0 X ((e4 h0).trans (by rw [hv]; rfl)) dL_law_647 ?_
      refine vu_eq X (tgt := 653) dL_law_648 (by decide) (fun _ => ?_) (fun z => absurd rfl z)
      refine vs_goto X (tgt := 2568) dL_law_653 (by decide) ?_
      refine vs_sub [2, 3, 4, 5, 6, 7] (lv' := [(0, .ref b), (1, rf G 0), (2, rf G 166), (3, rf G 175), (4, rf G 176), (5, .int (nI i))]) rfl ?_
      exact kk S2 _ _ _ (e5.up (by omega) (by omega)) (by omega) (by omega)
    · skip
      have hv1 : v = 1 := (z_isRevoked e2).resolve_left hv
      refine vs_lconst X (v := 1) dL_law_642 rfl ?_
      refine vs_goto X (tgt := 647) dL_law_643 (by decide) ?_
      refine vu_lcmp0 X ((e4 h0).trans (by rw [hv1]; rfl)) dL_law_647 ?_
      refine vu_eq X (tgt := 653) dL_law_648 (by decide) (fun _ => ?_) (fun z => absurd rfl z)
      refine vs_goto X (tgt := 2568) dL_law_653 (by decide) ?_
      refine vs_sub [2, 3, 4, 5, 6, 7] (lv' := [(0, .ref b), (1, rf G 0), (2, rf G 166), (3, rf G 175), (4, rf G 176), (5, .int (nI i))]) rfl ?_
      exact kk S2 _ _ _ (e5.up (by omega) (by omega)) (by omega) (by omega)
set_option maxHeartbeats 4000000 in
theorem lc_isCertified (hl0 : l.stackTraces = false) (X : Cx G p s m #[Value.ref b] meth c "ScarecrowRegistryLaw" wsL_law cL_law 9 rt) (hX : va_X b L xs s s.heap) (hb : b < s.heap.size) (hA : ¬ Af G b) (hi : i + 3 < L) (hL : L ≤ 2048) (hI : Inv D x S) (hD : D + 900 ≤ 900000) (hk : k + 2 ≤ 603072) (hn : n + 34 ≤ 7170154) (kk : ∀ T x' k' n', Inv (D + 900) x' T → k' ≤ k + 2 → n' ≤ n + 34 → LVW G p l e s m b below meth c Z k' n' T 2568 [(0, .ref b), (1, rf G 0), (2, rf G 166), (3, rf G 175), (4, rf G 176), (5, .int (nI i))] []) : LVW G p l e s m b below meth c Z k n S 656 [(0, .ref b), (1, rf G 0), (2, rf G 166), (3, rf G 175), (4, rf G 176), (5, .int (nI i))] [] := by
  have h1 : vp_in (nI i + 1) L := vp_nI (a := 1) (by omega) (by omega)
  have h2 : vp_in (nI i + 2) L := vp_nI (a := 2) (by omega) (by omega)
  have h3 : vp_in (nI i + 3) L := vp_nI (a := 3) (by omega) (by omega)
  obtain ⟨q, S1, v, S2, x', e1, e2, e3, e4, e5⟩ := st_isCertified (xs (ix (nI i + 1))) hI 
  refine vs_aload_n X dL_law_656 1 rfl ?_
  refine vs_aload_n X dL_law_657 0 rfl ?_
  refine vs_iload X dL_law_658 5 rfl ?_
  refine vs_iconst X (v := 1) dL_law_660 (by decide) ?_
  refine vs_iadd X dL_law_661 ?_
  refine vu_sld X hX hb hA h1 dL_law_662 ?_
  refine vs_aload_n X dL_law_663 3 rfl ?_
  refine vu_callL (As := [rf G 0, .int (xs (ix (nI i + 1))), rf G 175]) (st' := []) (mtL_isCertified hl0 (xs (ix (nI i + 1)))) e1 X (vx_cwSW 3 X.2.2.2.2.1 gL_law_L_isCertified rfl rfl rfl (by decide +kernel) ⟨Nat.le_of_ble_eq_true rfl, Nat.le_of_ble_eq_true rfl⟩) rfl (Nat.le_of_ble_eq_true rfl) dL_law_664 ⟨by show _ ≤ 603072; omega, by show _ ≤ 7170154; omega⟩ ?_
  refine vs_istore X (lv' := [(6, .int (nI q)), (0, .ref b), (1, rf G 0), (2, rf G 166), (3, rf G 175), (4, rf G 176), (5, .int (nI i))]) dL_law_667 (by decide) rfl ?_
  refine vs_aload_n X dL_law_669 3 rfl ?_
  refine vs_aload_n X dL_law_670 1 rfl ?_
  refine vs_iload X dL_law_671 6 rfl ?_
  refine vs_iconst X (v := 1) dL_law_673 (by decide) ?_
  refine vs_iadd X dL_law_674 ?_
  refine vu_sld X hX hb hA h1 dL_law_675 ?_
  refine vu_callM (bi := 166) (As := [.int (xs (ix (nI i + 1)))]) (st' := []) (mtX7_isCertified hl0 (xs (ix (nI i + 1))) _ e2) X (cwV 1 X.2.2.2.2.1 gL_law_X7_isCertified rfl rfl rfl (by decide +kernel) ⟨Nat.le_of_ble_eq_true rfl, Nat.le_of_ble_eq_true rfl⟩) (by decide) (by decide) rfl rfl rfl (Nat.le_of_ble_eq_true rfl) dL_law_676 ⟨by show _ ≤ 603072; omega, by show _ ≤ 7170154; omega⟩ ?_
  refine vs_istore X (lv' := [(7, .int v), (6, .int (nI q)), (0, .ref b), (1, rf G 0), (2, rf G 166), (3, rf G 175), (4, rf G 176), (5, .int (nI i))]) dL_law_679 (by decide) rfl ?_
  refine vs_aload_n X dL_law_681 4 rfl ?_
  refine vu_callM (bi := 166) (As := []) (st' := []) (mtX7_thrown hl0  _ rfl) X (cwV 0 X.2.2.2.2.1 gL_law_X7_thrown rfl rfl rfl (by decide +kernel) ⟨Nat.le_of_ble_eq_true rfl, Nat.le_of_ble_eq_true rfl⟩) (by decide) (by decide) rfl rfl rfl (Nat.le_of_ble_eq_true rfl) dL_law_682 ⟨by show _ ≤ 603072; omega, by show _ ≤ 7170154; omega⟩ ?_
  refine vs_iload X dL_law_685 1 rfl ?_
  refine vu_ieq X (tgt := 692) dL_law_687 (by decide) e3 ?_
  refine vs_iload X dL_law_692 1 rfl ?_
  refine vu_ne X (tgt := 716) dL_law_694 (by decide) (fun _ => ?_) (fun h0 => ?_)
  · skip
    refine vs_goto X (tgt := 2568) dL_law_716 (by decide) ?_
    refine vs_sub [2, 3, 4, 5, 6, 7] (lv' := [(0, .ref b), (1, rf G 0), (2, rf G 166), (3, rf G 175), (4, rf G 176), (5, .int (nI i))]) rfl ?_
    exact kk S2 _ _ _ (e5.up (by omega) (by omega)) (by omega) (by omega)
  · skip
    refine vs_aload_n X dL_law_697 5 rfl ?_
    refine vs_iconst X (v := 0) dL_law_698 (by decide) ?_
    refine vu_lald X dL_law_699 ?_
    refine vs_iload X dL_law_700 0 rfl ?_
    refine vu_eq X (tgt := 709) dL_law_702 (by decide) (fun hv => ?_) (fun hv => ?_)
    · skip
      refine vs_lconst X (v := 0) dL_law_709 rfl ?_
      refine vu_lcmp0 X ((e4 h0).trans (by rw [hv]; rfl)) dL_law_710 ?_
      refine vu_eq X (tgt := 716) dL_law_711 (by decide) (fun _ => ?_) (fun z => absurd rfl z)
      refine vs_goto X (tgt := 2568) dL_law_716 (by decide) ?_
      refine vs_sub [2, 3, 4, 5, 6, 7] (lv' := [(0, .ref b), (1, rf G 0), (2, rf G 166), (3, rf G 175), (4, rf G 176), (5, .int (nI i))]) rfl ?_
      exact kk S2 _ _ _ (e5.up (by omega) (by omega)) (by omega) (by omega)
    · skip
      have hv1 : v = 1 := (z_isCertified e2).resolve_left hv
      refine vs_lconst X (v := 1) dL_law_705 rfl ?_
      refine vs_goto X (tgt := 710) dL_law_706 (by decide) ?_
      refine vu_lcmp0 X ((e4 h0).trans (by rw [hv1]; rfl)) dL_law_710 ?_
      refine vu_eq X (tgt := 716) dL_law_711 (by decide) (fun _ => ?_) (fun z => absurd rfl z)
      refine vs_goto X (tgt := 2568) dL_law_716 (by decide) ?_
      refine vs_sub [2, 3, 4, 5, 6, 7] (lv' := [(0, .ref b), (1, rf G 0), (2, rf G 166), (3, rf G 175), (4, rf G 176), (5, .int (nI i))]) rfl ?_
      exact kk S2 _ _ _ (e5.up (by omega) (by omega)) (by omega) (by omega)
set_option maxHeartbeats 4000000 in
theorem lc_isCertifiedByChains (hl0 : l.stackTraces = false) (X : Cx G p s m #[Value.ref b] meth c "ScarecrowRegistryLaw" wsL_law cL_law 9 rt) (hX : va_X b L xs s s.heap) (hb : b < s.heap.size) (hA : ¬ Af G b) (hi : i + 3 < L) (hL : L ≤ 2048) (hI : Inv D x S) (hD : D + 900 ≤ 900000) (hk : k + 2 ≤ 603072) (hn : n + 34 ≤ 7170154) (kk : ∀ T x' k' n', Inv (D + 900) x' T → k' ≤ k + 2 → n' ≤ n + 34 → LVW G p l e s m b below meth c Z k' n' T 2568 [(0, .ref b), (1, rf G 0), (2, rf G 166), (3, rf G 175), (4, rf G 176), (5, .int (nI i))] []) : LVW G p l e s m b below meth c Z k n S 719 [(0, .ref b), (1, rf G 0), (2, rf G 166), (3, rf G 175), (4, rf G 176), (5, .int (nI i))] [] := by
  have h1 : vp_in (nI i + 1) L := vp_nI (a := 1) (by omega) (by omega)
  have h2 : vp_in (nI i + 2) L := vp_nI (a := 2) (by omega) (by omega)
  have h3 : vp_in (nI i + 3) L := vp_nI (a := 3) (by omega) (by omega)
  obtain ⟨q, S1, v, S2, x', e1, e2, e3, e4, e5⟩ := st_isCertifiedByChains (xs (ix (nI i + 1))) hI 
  refine vs_aload_n X dL_law_719 1 rfl ?_
  refine vs_aload_n X dL_law_720 0 rfl ?_
  refine vs_iload X dL_law_721 5 rfl ?_
  refine vs_iconst X (v := 1) dL_law_723 (by decide) ?_
  refine vs_iadd X dL_law_724 ?_
  refine vu_sld X hX hb hA h1 dL_law_725 ?_
  refine vs_aload_n X dL_law_726 3 rfl ?_
  refine vu_callL (As := [rf G 0, .int (xs (ix (nI i + 1))), rf G 175]) (st' := []) (mtL_isCertifiedByChains hl0 (xs (ix (nI i + 1)))) e1 X (vx_cwSW 3 X.2.2.2.2.1 gL_law_L_isCertifiedByChains rfl rfl rfl (by decide +kernel) ⟨Nat.le_of_ble_eq_true rfl, Nat.le_of_ble_eq_true rfl⟩) rfl (Nat.le_of_ble_eq_true rfl) dL_law_727 ⟨by show _ ≤ 603072; omega, by show _ ≤ 7170154; omega⟩ ?_
  refine vs_istore X (lv' := [(6, .int (nI q)), (0, .ref b), (1, rf G 0), (2, rf G 166), (3, rf G 175), (4, rf G 176), (5, .int (nI i))]) dL_law_730 (by decide) rfl ?_
  refine vs_aload_n X dL_law_732 3 rfl ?_
  refine vs_aload_n X dL_law_733 1 rfl ?_
  refine vs_iload X dL_law_734 6 rfl ?_
  refine vs_iconst X (v := 1) dL_law_736 (by decide) ?_
  refine vs_iadd X dL_law_737 ?_
  refine vu_sld X hX hb hA h1 dL_law_738 ?_
  refine vu_callM (bi := 166) (As := [.int (xs (ix (nI i + 1)))]) (st' := []) (mtX7_isCertifiedByChains hl0 (xs (ix (nI i + 1))) _ e2) X (cwV 1 X.2.2.2.2.1 gL_law_X7_isCertifiedByChains rfl rfl rfl (by decide +kernel) ⟨Nat.le_of_ble_eq_true rfl, Nat.le_of_ble_eq_true rfl⟩) (by decide) (by decide) rfl rfl rfl (Nat.le_of_ble_eq_true rfl) dL_law_739 ⟨by show _ ≤ 603072; omega, by show _ ≤ 7170154; omega⟩ ?_
  refine vs_istore X (lv' := [(7, .int v), (6, .int (nI q)), (0, .ref b), (1, rf G 0), (2, rf G 166), (3, rf G 175), (4, rf G 176), (5, .int (nI i))]) dL_law_742 (by decide) rfl ?_
  refine vs_aload_n X dL_law_744 4 rfl ?_
  refine vu_callM (bi := 166) (As := []) (st' := []) (mtX7_thrown hl0  _ rfl) X (cwV 0 X.2.2.2.2.1 gL_law_X7_thrown rfl rfl rfl (by decide +kernel) ⟨Nat.le_of_ble_eq_true rfl, Nat.le_of_ble_eq_true rfl⟩) (by decide) (by decide) rfl rfl rfl (Nat.le_of_ble_eq_true rfl) dL_law_745 ⟨by show _ ≤ 603072; omega, by show _ ≤ 7170154; omega⟩ ?_
  refine vs_iload X dL_law_748 1 rfl ?_
  refine vu_ieq X (tgt := 755) dL_law_750 (by decide) e3 ?_
  refine vs_iload X dL_law_755 1 rfl ?_
  refine vu_ne X (tgt := 779) dL_law_757 (by decide) (fun _ => ?_) (fun h0 => ?_)
  · skip
    refine vs_goto X (tgt := 2568) dL_law_779 (by decide) ?_
    refine vs_sub [2, 3, 4, 5, 6, 7] (lv' := [(0, .ref b), (1, rf G 0), (2, rf G 166), (3, rf G 175), (4, rf G 176), (5, .int (nI i))]) rfl ?_
    exact kk S2 _ _ _ (e5.up (by omega) (by omega)) (by omega) (by omega)
  · skip
    refine vs_aload_n X dL_law_760 5 rfl ?_
    refine vs_iconst X (v := 0) dL_law_761 (by decide) ?_
    refine vu_lald X dL_law_762 ?_
    refine vs_iload X dL_law_763 0 rfl ?_
    refine vu_eq X (tgt := 772) dL_law_765 (by decide) (fun hv => ?_) (fun hv => ?_)
    · skip
      refine vs_lconst X (v := 0) dL_law_772 rfl ?_
      refine vu_lcmp0 X ((e4 h0).trans (by rw [hv]; rfl)) dL_law_773 ?_
      refine vu_eq X (tgt := 779) dL_law_774 (by decide) (fun _ => ?_) (fun z => absurd rfl z)
      refine vs_goto X (tgt := 2568) dL_law_779 (by decide) ?_
      refine vs_sub [2, 3, 4, 5, 6, 7] (lv' := [(0, .ref b), (1, rf G 0), (2, rf G 166), (3, rf G 175), (4, rf G 176), (5, .int (nI i))]) rfl ?_
      exact kk S2 _ _ _ (e5.up (by omega) (by omega)) (by omega) (by omega)
    · skip
      have hv1 : v = 1 := (z_isCertifiedByChains e2).resolve_left hv
      refine vs_lconst X (v := 1) dL_law_768 rfl ?_
      refine vs_goto X (tgt := 773) dL_law_769 (by decide) ?_
      refine vu_lcmp0 X ((e4 h0).trans (by rw [hv1]; rfl)) dL_law_773 ?_
      refine vu_eq X (tgt := 779) dL_law_774 (by decide) (fun _ => ?_) (fun z => absurd rfl z)
      refine vs_goto X (tgt := 2568) dL_law_779 (by decide) ?_
      refine vs_sub [2, 3, 4, 5, 6, 7] (lv' := [(0, .ref b), (1, rf G 0), (2, rf G 166), (3, rf G 175), (4, rf G 176), (5, .int (nI i))]) rfl ?_
      exact kk S2 _ _ _ (e5.up (by omega) (by omega)) (by omega) (by omega)
set_option maxHeartbeats 4000000 in
theorem lc_chainLength (hl0 : l.stackTraces = false) (X : Cx G p s m #[Value.ref b] meth c "ScarecrowRegistryLaw" wsL_law cL_law 9 rt) (hX : va_X b L xs s s.heap) (hb : b < s.heap.size) (hA : ¬ Af G b) (hi : i + 3 < L) (hL : L ≤ 2048) (hI : Inv D x S) (hD : D + 900 ≤ 900000) (hk : k + 2 ≤ 603072) (hn : n + 34 ≤ 7170154) (kk : ∀ T x' k' n', Inv (D + 900) x' T → k' ≤ k + 2 → n' ≤ n + 34 → LVW G p l e s m b below meth c Z k' n' T 2568 [(0, .ref b), (1, rf G 0), (2, rf G 166), (3, rf G 175), (4, rf G 176), (5, .int (nI i))] []) : LVW G p l e s m b below meth c Z k n S 782 [(0, .ref b), (1, rf G 0), (2, rf G 166), (3, rf G 175), (4, rf G 176), (5, .int (nI i))] [] := by
  have h1 : vp_in (nI i + 1) L := vp_nI (a := 1) (by omega) (by omega)
  have h2 : vp_in (nI i + 2) L := vp_nI (a := 2) (by omega) (by omega)
  have h3 : vp_in (nI i + 3) L := vp_nI (a := 3) (by omega) (by omega)
  obtain ⟨q, S1, v, S2, x', e1, e2, e3, e4, e5⟩ := st_chainLength (xs (ix (nI i + 1))) hI 
  refine vs_aload_n X dL_law_782 1 rfl ?_
  refine vs_aload_n X dL_law_783 0 rfl ?_
  refine vs_iload X dL_law_784 5 rfl ?_
  refine vs_iconst X (v := 1) dL_law_786 (by decide) ?_
  refine vs_iadd X dL_law_787 ?_
  refine vu_sld X hX hb hA h1 dL_law_788 ?_
  refine vs_aload_n X dL_law_789 3 rfl ?_
  refine vu_callL (As := [rf G 0, .int (xs (ix (nI i + 1))), rf G 175]) (st' := []) (mtL_chainLength hl0 (xs (ix (nI i + 1)))) e1 X (vx_cwSW 3 X.2.2.2.2.1 gL_law_L_chainLength rfl rfl rfl (by decide +kernel) ⟨Nat.le_of_ble_eq_true rfl, Nat.le_of_ble_eq_true rfl⟩) rfl (Nat.le_of_ble_eq_true rfl) dL_law_790 ⟨by show _ ≤ 603072; omega, by show _ ≤ 7170154; omega⟩ ?_
  refine vs_istore X (lv' := [(6, .int (nI q)), (0, .ref b), (1, rf G 0), (2, rf G 166), (3, rf G 175), (4, rf G 176), (5, .int (nI i))]) dL_law_793 (by decide) rfl ?_
  refine vs_aload_n X dL_law_795 3 rfl ?_
  refine vs_aload_n X dL_law_796 1 rfl ?_
  refine vs_iload X dL_law_797 6 rfl ?_
  refine vs_iconst X (v := 1) dL_law_799 (by decide) ?_
  refine vs_iadd X dL_law_800 ?_
  refine vu_sld X hX hb hA h1 dL_law_801 ?_
  refine vu_callM (bi := 166) (As := [.int (xs (ix (nI i + 1)))]) (st' := []) (mtX7_chainLength hl0 (xs (ix (nI i + 1))) _ e2) X (cwV 1 X.2.2.2.2.1 gL_law_X7_chainLength rfl rfl rfl (by decide +kernel) ⟨Nat.le_of_ble_eq_true rfl, Nat.le_of_ble_eq_true rfl⟩) (by decide) (by decide) rfl rfl rfl (Nat.le_of_ble_eq_true rfl) dL_law_802 ⟨by show _ ≤ 603072; omega, by show _ ≤ 7170154; omega⟩ ?_
  refine vs_istore X (lv' := [(7, .int v), (6, .int (nI q)), (0, .ref b), (1, rf G 0), (2, rf G 166), (3, rf G 175), (4, rf G 176), (5, .int (nI i))]) dL_law_805 (by decide) rfl ?_
  refine vs_aload_n X dL_law_807 4 rfl ?_
  refine vu_callM (bi := 166) (As := []) (st' := []) (mtX7_thrown hl0  _ rfl) X (cwV 0 X.2.2.2.2.1 gL_law_X7_thrown rfl rfl rfl (by decide +kernel) ⟨Nat.le_of_ble_eq_true rfl, Nat.le_of_ble_eq_true rfl⟩) (by decide) (by decide) rfl rfl rfl (Nat.le_of_ble_eq_true rfl) dL_law_808 ⟨by show _ ≤ 603072; omega, by show _ ≤ 7170154; omega⟩ ?_
  refine vs_iload X dL_law_811 1 rfl ?_
  refine vu_ieq X (tgt := 818) dL_law_813 (by decide) e3 ?_
  refine vs_iload X dL_law_818 1 rfl ?_
  refine vu_ne X (tgt := 835) dL_law_820 (by decide) (fun _ => ?_) (fun h0 => ?_)
  · skip
    refine vs_goto X (tgt := 2568) dL_law_835 (by decide) ?_
    refine vs_sub [2, 3, 4, 5, 6, 7] (lv' := [(0, .ref b), (1, rf G 0), (2, rf G 166), (3, rf G 175), (4, rf G 176), (5, .int (nI i))]) rfl ?_
    exact kk S2 _ _ _ (e5.up (by omega) (by omega)) (by omega) (by omega)
  · skip
    refine vs_aload_n X dL_law_823 5 rfl ?_
    refine vs_iconst X (v := 0) dL_law_824 (by decide) ?_
    refine vu_lald X dL_law_825 ?_
    refine vs_iload X dL_law_826 0 rfl ?_
    refine vs_i2lw X dL_law_828 ?_
    refine vu_lcmp0 X (e4 h0) dL_law_829 ?_
    refine vu_eq X (tgt := 835) dL_law_830 (by decide) (fun _ => ?_) (fun z => absurd rfl z)
    refine vs_goto X (tgt := 2568) dL_law_835 (by decide) ?_
    refine vs_sub [2, 3, 4, 5, 6, 7] (lv' := [(0, .ref b), (1, rf G 0), (2, rf G 166), (3, rf G 175), (4, rf G 176), (5, .int (nI i))]) rfl ?_
    exact kk S2 _ _ _ (e5.up (by omega) (by omega)) (by omega) (by omega)
set_option maxHeartbeats 4000000 in
theorem lc_daysUntilUncertified (hl0 : l.stackTraces = false) (X : Cx G p s m #[Value.ref b] meth c "ScarecrowRegistryLaw" wsL_law cL_law 9 rt) (hX : va_X b L xs s s.heap) (hb : b < s.heap.size) (hA : ¬ Af G b) (hi : i + 3 < L) (hL : L ≤ 2048) (hI : Inv D x S) (hD : D + 900 ≤ 900000) (hk : k + 2 ≤ 603072) (hn : n + 34 ≤ 7170154) (kk : ∀ T x' k' n', Inv (D + 900) x' T → k' ≤ k + 2 → n' ≤ n + 34 → LVW G p l e s m b below meth c Z k' n' T 2568 [(0, .ref b), (1, rf G 0), (2, rf G 166), (3, rf G 175), (4, rf G 176), (5, .int (nI i))] []) : LVW G p l e s m b below meth c Z k n S 838 [(0, .ref b), (1, rf G 0), (2, rf G 166), (3, rf G 175), (4, rf G 176), (5, .int (nI i))] [] := by
  have h1 : vp_in (nI i + 1) L := vp_nI (a := 1) (by omega) (by omega)
  have h2 : vp_in (nI i + 2) L := vp_nI (a := 2) (by omega) (by omega)
  have h3 : vp_in (nI i + 3) L := vp_nI (a := 3) (by omega) (by omega)
  obtain ⟨q, S1, v, S2, x', e1, e2, e3, e4, e5⟩ := st_daysUntilUncertified (xs (ix (nI i + 1))) hI 
  refine vs_aload_n X dL_law_838 1 rfl ?_
  refine vs_aload_n X dL_law_839 0 rfl ?_
  refine vs_iload X dL_law_840 5 rfl ?_
  refine vs_iconst X (v := 1) dL_law_842 (by decide) ?_
  refine vs_iadd X dL_law_843 ?_
  refine vu_sld X hX hb hA h1 dL_law_844 ?_
  refine vs_aload_n X dL_law_845 3 rfl ?_
  refine vu_callL (As := [rf G 0, .int (xs (ix (nI i + 1))), rf G 175]) (st' := []) (mtL_daysUntilUncertified hl0 (xs (ix (nI i + 1)))) e1 X (vx_cwSW 3 X.2.2.2.2.1 gL_law_L_daysUntilUncertified rfl rfl rfl (by decide +kernel) ⟨Nat.le_of_ble_eq_true rfl, Nat.le_of_ble_eq_true rfl⟩) rfl (Nat.le_of_ble_eq_true rfl) dL_law_846 ⟨by show _ ≤ 603072; omega, by show _ ≤ 7170154; omega⟩ ?_
  refine vs_istore X (lv' := [(6, .int (nI q)), (0, .ref b), (1, rf G 0), (2, rf G 166), (3, rf G 175), (4, rf G 176), (5, .int (nI i))]) dL_law_849 (by decide) rfl ?_
  refine vs_aload_n X dL_law_851 3 rfl ?_
  refine vs_aload_n X dL_law_852 1 rfl ?_
  refine vs_iload X dL_law_853 6 rfl ?_
  refine vs_iconst X (v := 1) dL_law_855 (by decide) ?_
  refine vs_iadd X dL_law_856 ?_
  refine vu_sld X hX hb hA h1 dL_law_857 ?_
  refine vu_callM (bi := 166) (As := [.int (xs (ix (nI i + 1)))]) (st' := []) (mtX7_daysUntilUncertified hl0 (xs (ix (nI i + 1))) _ e2) X (cwV 1 X.2.2.2.2.1 gL_law_X7_daysUntilUncertified rfl rfl rfl (by decide +kernel) ⟨Nat.le_of_ble_eq_true rfl, Nat.le_of_ble_eq_true rfl⟩) (by decide) (by decide) rfl rfl rfl (Nat.le_of_ble_eq_true rfl) dL_law_858 ⟨by show _ ≤ 603072; omega, by show _ ≤ 7170154; omega⟩ ?_
  refine vs_istore X (lv' := [(7, .int v), (6, .int (nI q)), (0, .ref b), (1, rf G 0), (2, rf G 166), (3, rf G 175), (4, rf G 176), (5, .int (nI i))]) dL_law_861 (by decide) rfl ?_
  refine vs_aload_n X dL_law_863 4 rfl ?_
  refine vu_callM (bi := 166) (As := []) (st' := []) (mtX7_thrown hl0  _ rfl) X (cwV 0 X.2.2.2.2.1 gL_law_X7_thrown rfl rfl rfl (by decide +kernel) ⟨Nat.le_of_ble_eq_true rfl, Nat.le_of_ble_eq_true rfl⟩) (by decide) (by decide) rfl rfl rfl (Nat.le_of_ble_eq_true rfl) dL_law_864 ⟨by show _ ≤ 603072; omega, by show _ ≤ 7170154; omega⟩ ?_
  refine vs_iload X dL_law_867 1 rfl ?_
  refine vu_ieq X (tgt := 874) dL_law_869 (by decide) e3 ?_
  refine vs_iload X dL_law_874 1 rfl ?_
  refine vu_ne X (tgt := 891) dL_law_876 (by decide) (fun _ => ?_) (fun h0 => ?_)
  · skip
    refine vs_goto X (tgt := 2568) dL_law_891 (by decide) ?_
    refine vs_sub [2, 3, 4, 5, 6, 7] (lv' := [(0, .ref b), (1, rf G 0), (2, rf G 166), (3, rf G 175), (4, rf G 176), (5, .int (nI i))]) rfl ?_
    exact kk S2 _ _ _ (e5.up (by omega) (by omega)) (by omega) (by omega)
  · skip
    refine vs_aload_n X dL_law_879 5 rfl ?_
    refine vs_iconst X (v := 0) dL_law_880 (by decide) ?_
    refine vu_lald X dL_law_881 ?_
    refine vs_iload X dL_law_882 0 rfl ?_
    refine vs_i2lw X dL_law_884 ?_
    refine vu_lcmp0 X (e4 h0) dL_law_885 ?_
    refine vu_eq X (tgt := 891) dL_law_886 (by decide) (fun _ => ?_) (fun z => absurd rfl z)
    refine vs_goto X (tgt := 2568) dL_law_891 (by decide) ?_
    refine vs_sub [2, 3, 4, 5, 6, 7] (lv' := [(0, .ref b), (1, rf G 0), (2, rf G 166), (3, rf G 175), (4, rf G 176), (5, .int (nI i))]) rfl ?_
    exact kk S2 _ _ _ (e5.up (by omega) (by omega)) (by omega) (by omega)
set_option maxHeartbeats 4000000 in
theorem lc_scarecrowByCertificates (hl0 : l.stackTraces = false) (X : Cx G p s m #[Value.ref b] meth c "ScarecrowRegistryLaw" wsL_law cL_law 9 rt) (hX : va_X b L xs s s.heap) (hb : b < s.heap.size) (hA : ¬ Af G b) (hi : i + 3 < L) (hL : L ≤ 2048) (hI : Inv D x S) (hD : D + 900 ≤ 900000) (hk : k + 2 ≤ 603072) (hn : n + 34 ≤ 7170154) (kk : ∀ T x' k' n', Inv (D + 900) x' T → k' ≤ k + 2 → n' ≤ n + 34 → LVW G p l e s m b below meth c Z k' n' T 2568 [(0, .ref b), (1, rf G 0), (2, rf G 166), (3, rf G 175), (4, rf G 176), (5, .int (nI i))] []) : LVW G p l e s m b below meth c Z k n S 894 [(0, .ref b), (1, rf G 0), (2, rf G 166), (3, rf G 175), (4, rf G 176), (5, .int (nI i))] [] := by
  have h1 : vp_in (nI i + 1) L := vp_nI (a := 1) (by omega) (by omega)
  have h2 : vp_in (nI i + 2) L := vp_nI (a := 2) (by omega) (by omega)
  have h3 : vp_in (nI i + 3) L := vp_nI (a := 3) (by omega) (by omega)
  obtain ⟨q, S1, v, S2, x', e1, e2, e3, e4, e5⟩ := st_scarecrowByCertificates (xs (ix (nI i + 1))) hI 
  refine vs_aload_n X dL_law_894 1 rfl ?_
  refine vs_aload_n X dL_law_895 0 rfl ?_
  refine vs_iload X dL_law_896 5 rfl ?_
  refine vs_iconst X (v := 1) dL_law_898 (by decide) ?_
  refine vs_iadd X dL_law_899 ?_
  refine vu_sld X hX hb hA h1 dL_law_900 ?_
  refine vs_aload_n X dL_law_901 3 rfl ?_
  refine vu_callL (As := [rf G 0, .int (xs (ix (nI i + 1))), rf G 175]) (st' := []) (mtL_scarecrowByCertificates hl0 (xs (ix (nI i + 1)))) e1 X (vx_cwSW 3 X.2.2.2.2.1 gL_law_L_scarecrowByCertificates rfl rfl rfl (by decide +kernel) ⟨Nat.le_of_ble_eq_true rfl, Nat.le_of_ble_eq_true rfl⟩) rfl (Nat.le_of_ble_eq_true rfl) dL_law_902 ⟨by show _ ≤ 603072; omega, by show _ ≤ 7170154; omega⟩ ?_
  refine vs_istore X (lv' := [(6, .int (nI q)), (0, .ref b), (1, rf G 0), (2, rf G 166), (3, rf G 175), (4, rf G 176), (5, .int (nI i))]) dL_law_905 (by decide) rfl ?_
  refine vs_aload_n X dL_law_907 3 rfl ?_
  refine vs_aload_n X dL_law_908 1 rfl ?_
  refine vs_iload X dL_law_909 6 rfl ?_
  refine vs_iconst X (v := 1) dL_law_911 (by decide) ?_
  refine vs_iadd X dL_law_912 ?_
  refine vu_sld X hX hb hA h1 dL_law_913 ?_
  refine vu_callM (bi := 166) (As := [.int (xs (ix (nI i + 1)))]) (st' := []) (mtX7_scarecrowByCertificates hl0 (xs (ix (nI i + 1))) _ e2) X (cwV 1 X.2.2.2.2.1 gL_law_X7_scarecrowByCertificates rfl rfl rfl (by decide +kernel) ⟨Nat.le_of_ble_eq_true rfl, Nat.le_of_ble_eq_true rfl⟩) (by decide) (by decide) rfl rfl rfl (Nat.le_of_ble_eq_true rfl) dL_law_914 ⟨by show _ ≤ 603072; omega, by show _ ≤ 7170154; omega⟩ ?_
  refine vs_istore X (lv' := [(7, .int v), (6, .int (nI q)), (0, .ref b), (1, rf G 0), (2, rf G 166), (3, rf G 175), (4, rf G 176), (5, .int (nI i))]) dL_law_917 (by decide) rfl ?_
  refine vs_aload_n X dL_law_919 4 rfl ?_
  refine vu_callM (bi := 166) (As := []) (st' := []) (mtX7_thrown hl0  _ rfl) X (cwV 0 X.2.2.2.2.1 gL_law_X7_thrown rfl rfl rfl (by decide +kernel) ⟨Nat.le_of_ble_eq_true rfl, Nat.le_of_ble_eq_true rfl⟩) (by decide) (by decide) rfl rfl rfl (Nat.le_of_ble_eq_true rfl) dL_law_920 ⟨by show _ ≤ 603072; omega, by show _ ≤ 7170154; omega⟩ ?_
  refine vs_iload X dL_law_923 1 rfl ?_
  refine vu_ieq X (tgt := 930) dL_law_925 (by decide) e3 ?_
  refine vs_iload X dL_law_930 1 rfl ?_
  refine vu_ne X (tgt := 947) dL_law_932 (by decide) (fun _ => ?_) (fun h0 => ?_)
  · skip
    refine vs_goto X (tgt := 2568) dL_law_947 (by decide) ?_
    refine vs_sub [2, 3, 4, 5, 6, 7] (lv' := [(0, .ref b), (1, rf G 0), (2, rf G 166), (3, rf G 175), (4, rf G 176), (5, .int (nI i))]) rfl ?_
    exact kk S2 _ _ _ (e5.up (by omega) (by omega)) (by omega) (by omega)
  · skip
    refine vs_aload_n X dL_law_935 5 rfl ?_
    refine vs_iconst X (v := 0) dL_law_936 (by decide) ?_
    refine vu_lald X dL_law_937 ?_
    refine vs_iload X dL_law_938 0 rfl ?_
    refine vs_i2lw X dL_law_940 ?_
    refine vu_lcmp0 X (e4 h0) dL_law_941 ?_
    refine vu_eq X (tgt := 947) dL_law_942 (by decide) (fun _ => ?_) (fun z => absurd rfl z)
    refine vs_goto X (tgt := 2568) dL_law_947 (by decide) ?_
    refine vs_sub [2, 3, 4, 5, 6, 7] (lv' := [(0, .ref b), (1, rf G 0), (2, rf G 166), (3, rf G 175), (4, rf G 176), (5, .int (nI i))]) rfl ?_
    exact kk S2 _ _ _ (e5.up (by omega) (by omega)) (by omega) (by omega)
set_option maxHeartbeats 4000000 in
theorem lc_issueByRegistry (hl0 : l.stackTraces = false) (X : Cx G p s m #[Value.ref b] meth c "ScarecrowRegistryLaw" wsL_law cL_law 9 rt) (hX : va_X b L xs s s.heap) (hb : b < s.heap.size) (hA : ¬ Af G b) (hi : i + 3 < L) (hL : L ≤ 2048) (hI : Inv D x S) (hD : D + 900 ≤ 900000) (hk : k + 2 ≤ 603072) (hn : n + 34 ≤ 7170154) (kk : ∀ T x' k' n', Inv (D + 900) x' T → k' ≤ k + 2 → n' ≤ n + 34 → LVW G p l e s m b below meth c Z k' n' T 2568 [(0, .ref b), (1, rf G 0), (2, rf G 166), (3, rf G 175), (4, rf G 176), (5, .int (nI i))] []) : LVW G p l e s m b below meth c Z k n S 950 [(0, .ref b), (1, rf G 0), (2, rf G 166), (3, rf G 175), (4, rf G 176), (5, .int (nI i))] [] := by
  have h1 : vp_in (nI i + 1) L := vp_nI (a := 1) (by omega) (by omega)
  have h2 : vp_in (nI i + 2) L := vp_nI (a := 2) (by omega) (by omega)
  have h3 : vp_in (nI i + 3) L := vp_nI (a := 3) (by omega) (by omega)
  obtain ⟨q, S1, v, S2, x', e1, e2, e3, e4, e5⟩ := st_issueByRegistry (xs (ix (nI i + 1))) (xs (ix (nI i + 2))) hI (by omega)
  refine vs_aload_n X dL_law_950 1 rfl ?_
  refine vs_aload_n X dL_law_951 0 rfl ?_
  refine vs_iload X dL_law_952 5 rfl ?_
  refine vs_iconst X (v := 1) dL_law_954 (by decide) ?_
  refine vs_iadd X dL_law_955 ?_
  refine vu_sld X hX hb hA h1 dL_law_956 ?_
  refine vs_aload_n X dL_law_957 0 rfl ?_
  refine vs_iload X dL_law_958 5 rfl ?_
  refine vs_iconst X (v := 2) dL_law_960 (by decide) ?_
  refine vs_iadd X dL_law_961 ?_
  refine vu_sld X hX hb hA h2 dL_law_962 ?_
  refine vs_aload_n X dL_law_963 3 rfl ?_
  refine vu_callL (As := [rf G 0, .int (xs (ix (nI i + 1))), .int (xs (ix (nI i + 2))), rf G 175]) (st' := []) (mtL_issueByRegistry hl0 (xs (ix (nI i + 1))) (xs (ix (nI i + 2)))) e1 X (vx_cwSW 4 X.2.2.2.2.1 gL_law_L_issueByRegistry rfl rfl rfl (by decide +kernel) ⟨Nat.le_of_ble_eq_true rfl, Nat.le_of_ble_eq_true rfl⟩) rfl (Nat.le_of_ble_eq_true rfl) dL_law_964 ⟨by show _ ≤ 603072; omega, by show _ ≤ 7170154; omega⟩ ?_
  refine vs_istore X (lv' := [(6, .int (nI q)), (0, .ref b), (1, rf G 0), (2, rf G 166), (3, rf G 175), (4, rf G 176), (5, .int (nI i))]) dL_law_967 (by decide) rfl ?_
  refine vs_aload_n X dL_law_969 3 rfl ?_
  refine vs_aload_n X dL_law_970 1 rfl ?_
  refine vs_iload X dL_law_971 6 rfl ?_
  refine vs_iconst X (v := 1) dL_law_973 (by decide) ?_
  refine vs_iadd X dL_law_974 ?_
  refine vu_sld X hX hb hA h1 dL_law_975 ?_
  refine vs_aload_n X dL_law_976 1 rfl ?_
  refine vs_iload X dL_law_977 6 rfl ?_
  refine vs_iconst X (v := 2) dL_law_979 (by decide) ?_
  refine vs_iadd X dL_law_980 ?_
  refine vu_sld X hX hb hA h2 dL_law_981 ?_
  refine vu_callM (bi := 166) (As := [.int (xs (ix (nI i + 1))), .int (xs (ix (nI i + 2)))]) (st' := []) (mtX7_issueByRegistry hl0 (xs (ix (nI i + 1))) (xs (ix (nI i + 2))) _ e2) X (cwV 2 X.2.2.2.2.1 gL_law_X7_issueByRegistry rfl rfl rfl (by decide +kernel) ⟨Nat.le_of_ble_eq_true rfl, Nat.le_of_ble_eq_true rfl⟩) (by decide) (by decide) rfl rfl rfl (Nat.le_of_ble_eq_true rfl) dL_law_982 ⟨by show _ ≤ 603072; omega, by show _ ≤ 7170154; omega⟩ ?_
  refine vs_istore X (lv' := [(7, .int v), (6, .int (nI q)), (0, .ref b), (1, rf G 0), (2, rf G 166), (3, rf G 175), (4, rf G 176), (5, .int (nI i))]) dL_law_985 (by decide) rfl ?_
  refine vs_aload_n X dL_law_987 4 rfl ?_
  refine vu_callM (bi := 166) (As := []) (st' := []) (mtX7_thrown hl0  _ rfl) X (cwV 0 X.2.2.2.2.1 gL_law_X7_thrown rfl rfl rfl (by decide +kernel) ⟨Nat.le_of_ble_eq_true rfl, Nat.le_of_ble_eq_true rfl⟩) (by decide) (by decide) rfl rfl rfl (Nat.le_of_ble_eq_true rfl) dL_law_988 ⟨by show _ ≤ 603072; omega, by show _ ≤ 7170154; omega⟩ ?_
  refine vs_iload X dL_law_991 1 rfl ?_
  refine vu_ieq X (tgt := 998) dL_law_993 (by decide) e3 ?_
  refine vs_iload X dL_law_998 1 rfl ?_
  refine vu_ne X (tgt := 1015) dL_law_1000 (by decide) (fun _ => ?_) (fun h0 => ?_)
  · skip
    refine vs_goto X (tgt := 2568) dL_law_1015 (by decide) ?_
    refine vs_sub [2, 3, 4, 5, 6, 7] (lv' := [(0, .ref b), (1, rf G 0), (2, rf G 166), (3, rf G 175), (4, rf G 176), (5, .int (nI i))]) rfl ?_
    exact kk S2 _ _ _ (e5.up (by omega) (by omega)) (by omega) (by omega)
  · skip
    refine vs_aload_n X dL_law_1003 5 rfl ?_
    refine vs_iconst X (v := 0) dL_law_1004 (by decide) ?_
    refine vu_lald X dL_law_1005 ?_
    refine vs_iload X dL_law_1006 0 rfl ?_
    refine vs_i2lw X dL_law_1008 ?_
    refine vu_lcmp0 X (e4 h0) dL_law_1009 ?_
    refine vu_eq X (tgt := 1015) dL_law_1010 (by decide) (fun _ => ?_) (fun z => absurd rfl z)
    refine vs_goto X (tgt := 2568) dL_law_1015 (by decide) ?_
    refine vs_sub [2, 3, 4, 5, 6, 7] (lv' := [(0, .ref b), (1, rf G 0), (2, rf G 166), (3, rf G 175), (4, rf G 176), (5, .int (nI i))]) rfl ?_
    exact kk S2 _ _ _ (e5.up (by omega) (by omega)) (by omega) (by omega)
set_option maxHeartbeats 4000000 in
theorem lc_issue (hl0 : l.stackTraces = false) (X : Cx G p s m #[Value.ref b] meth c "ScarecrowRegistryLaw" wsL_law cL_law 9 rt) (hX : va_X b L xs s s.heap) (hb : b < s.heap.size) (hA : ¬ Af G b) (hi : i + 3 < L) (hL : L ≤ 2048) (hI : Inv D x S) (hD : D + 900 ≤ 900000) (hk : k + 2 ≤ 603072) (hn : n + 34 ≤ 7170154) (kk : ∀ T x' k' n', Inv (D + 900) x' T → k' ≤ k + 2 → n' ≤ n + 34 → LVW G p l e s m b below meth c Z k' n' T 2568 [(0, .ref b), (1, rf G 0), (2, rf G 166), (3, rf G 175), (4, rf G 176), (5, .int (nI i))] []) : LVW G p l e s m b below meth c Z k n S 1018 [(0, .ref b), (1, rf G 0), (2, rf G 166), (3, rf G 175), (4, rf G 176), (5, .int (nI i))] [] := by
  have h1 : vp_in (nI i + 1) L := vp_nI (a := 1) (by omega) (by omega)
  have h2 : vp_in (nI i + 2) L := vp_nI (a := 2) (by omega) (by omega)
  have h3 : vp_in (nI i + 3) L := vp_nI (a := 3) (by omega) (by omega)
  obtain ⟨q, S1, v, S2, x', e1, e2, e3, e4, e5⟩ := st_issue (xs (ix (nI i + 1))) (xs (ix (nI i + 2))) (xs (ix (nI i + 3))) hI (by omega)
  refine vs_aload_n X dL_law_1018 1 rfl ?_
  refine vs_aload_n X dL_law_1019 0 rfl ?_
  refine vs_iload X dL_law_1020 5 rfl ?_
  refine vs_iconst X (v := 1) dL_law_1022 (by decide) ?_
  refine vs_iadd X dL_law_1023 ?_
  refine vu_sld X hX hb hA h1 dL_law_1024 ?_
  refine vs_aload_n X dL_law_1025 0 rfl ?_
  refine vs_iload X dL_law_1026 5 rfl ?_
  refine vs_iconst X (v := 2) dL_law_1028 (by decide) ?_
  refine vs_iadd X dL_law_1029 ?_
  refine vu_sld X hX hb hA h2 dL_law_1030 ?_
  refine vs_aload_n X dL_law_1031 0 rfl ?_
  refine vs_iload X dL_law_1032 5 rfl ?_
  refine vs_iconst X (v := 3) dL_law_1034 (by decide) ?_
  refine vs_iadd X dL_law_1035 ?_
  refine vu_sld X hX hb hA h3 dL_law_1036 ?_
  refine vs_aload_n X dL_law_1037 3 rfl ?_
  refine vu_callL (As := [rf G 0, .int (xs (ix (nI i + 1))), .int (xs (ix (nI i + 2))), .int (xs (ix (nI i + 3))), rf G 175]) (st' := []) (mtL_issue hl0 (xs (ix (nI i + 1))) (xs (ix (nI i + 2))) (xs (ix (nI i + 3)))) e1 X (vx_cwSW 5 X.2.2.2.2.1 gL_law_L_issue rfl rfl rfl (by decide +kernel) ⟨Nat.le_of_ble_eq_true rfl, Nat.le_of_ble_eq_true rfl⟩) rfl (Nat.le_of_ble_eq_true rfl) dL_law_1038 ⟨by show _ ≤ 603072; omega, by show _ ≤ 7170154; omega⟩ ?_
  refine vs_istore X (lv' := [(6, .int (nI q)), (0, .ref b), (1, rf G 0), (2, rf G 166), (3, rf G 175), (4, rf G 176), (5, .int (nI i))]) dL_law_1041 (by decide) rfl ?_
  refine vs_aload_n X dL_law_1043 3 rfl ?_
  refine vs_aload_n X dL_law_1044 1 rfl ?_
  refine vs_iload X dL_law_1045 6 rfl ?_
  refine vs_iconst X (v := 1) dL_law_1047 (by decide) ?_
  refine vs_iadd X dL_law_1048 ?_
  refine vu_sld X hX hb hA h1 dL_law_1049 ?_
  refine vs_aload_n X dL_law_1050 1 rfl ?_
  refine vs_iload X dL_law_1051 6 rfl ?_
  refine vs_iconst X (v := 2) dL_law_1053 (by decide) ?_
  refine vs_iadd X dL_law_1054 ?_
  refine vu_sld X hX hb hA h2 dL_law_1055 ?_
  refine vs_aload_n X dL_law_1056 1 rfl ?_
  refine vs_iload X dL_law_1057 6 rfl ?_
  refine vs_iconst X (v := 3) dL_law_1059 (by decide) ?_
  refine vs_iadd X dL_law_1060 ?_
  refine vu_sld X hX hb hA h3 dL_law_1061 ?_
  refine vu_callM (bi := 166) (As := [.int (xs (ix (nI i + 1))), .int (xs (ix (nI i + 2))), .int (xs (ix (nI i + 3)))]) (st' := []) (mtX7_issue hl0 (xs (ix (nI i + 1))) (xs (ix (nI i + 2))) (xs (ix (nI i + 3))) _ e2) X (cwV 3 X.2.2.2.2.1 gL_law_X7_issue rfl rfl rfl (by decide +kernel) ⟨Nat.le_of_ble_eq_true rfl, Nat.le_of_ble_eq_true rfl⟩) (by decide) (by decide) rfl rfl rfl (Nat.le_of_ble_eq_true rfl) dL_law_1062 ⟨by show _ ≤ 603072; omega, by show _ ≤ 7170154; omega⟩ ?_
  refine vs_istore X (lv' := [(7, .int v), (6, .int (nI q)), (0, .ref b), (1, rf G 0), (2, rf G 166), (3, rf G 175), (4, rf G 176), (5, .int (nI i))]) dL_law_1065 (by decide) rfl ?_
  refine vs_aload_n X dL_law_1067 4 rfl ?_
  refine vu_callM (bi := 166) (As := []) (st' := []) (mtX7_thrown hl0  _ rfl) X (cwV 0 X.2.2.2.2.1 gL_law_X7_thrown rfl rfl rfl (by decide +kernel) ⟨Nat.le_of_ble_eq_true rfl, Nat.le_of_ble_eq_true rfl⟩) (by decide) (by decide) rfl rfl rfl (Nat.le_of_ble_eq_true rfl) dL_law_1068 ⟨by show _ ≤ 603072; omega, by show _ ≤ 7170154; omega⟩ ?_
  refine vs_iload X dL_law_1071 1 rfl ?_
  refine vu_ieq X (tgt := 1078) dL_law_1073 (by decide) e3 ?_
  refine vs_iload X dL_law_1078 1 rfl ?_
  refine vu_ne X (tgt := 1095) dL_law_1080 (by decide) (fun _ => ?_) (fun h0 => ?_)
  · skip
    refine vs_goto X (tgt := 2568) dL_law_1095 (by decide) ?_
    refine vs_sub [2, 3, 4, 5, 6, 7] (lv' := [(0, .ref b), (1, rf G 0), (2, rf G 166), (3, rf G 175), (4, rf G 176), (5, .int (nI i))]) rfl ?_
    exact kk S2 _ _ _ (e5.up (by omega) (by omega)) (by omega) (by omega)
  · skip
    refine vs_aload_n X dL_law_1083 5 rfl ?_
    refine vs_iconst X (v := 0) dL_law_1084 (by decide) ?_
    refine vu_lald X dL_law_1085 ?_
    refine vs_iload X dL_law_1086 0 rfl ?_
    refine vs_i2lw X dL_law_1088 ?_
    refine vu_lcmp0 X (e4 h0) dL_law_1089 ?_
    refine vu_eq X (tgt := 1095) dL_law_1090 (by decide) (fun _ => ?_) (fun z => absurd rfl z)
    refine vs_goto X (tgt := 2568) dL_law_1095 (by decide) ?_
    refine vs_sub [2, 3, 4, 5, 6, 7] (lv' := [(0, .ref b), (1, rf G 0), (2, rf G 166), (3, rf G 175), (4, rf G 176), (5, .int (nI i))]) rfl ?_
    exact kk S2 _ _ _ (e5.up (by omega) (by omega)) (by omega) (by omega)
set_option maxHeartbeats 4000000 in
theorem lc_withdraw (hl0 : l.stackTraces = false) (X : Cx G p s m #[Value.ref b] meth c "ScarecrowRegistryLaw" wsL_law cL_law 9 rt) (hX : va_X b L xs s s.heap) (hb : b < s.heap.size) (hA : ¬ Af G b) (hi : i + 3 < L) (hL : L ≤ 2048) (hI : Inv D x S) (hD : D + 900 ≤ 900000) (hk : k + 2 ≤ 603072) (hn : n + 34 ≤ 7170154) (kk : ∀ T x' k' n', Inv (D + 900) x' T → k' ≤ k + 2 → n' ≤ n + 34 → LVW G p l e s m b below meth c Z k' n' T 2568 [(0, .ref b), (1, rf G 0), (2, rf G 166), (3, rf G 175), (4, rf G 176), (5, .int (nI i))] []) : LVW G p l e s m b below meth c Z k n S 1098 [(0, .ref b), (1, rf G 0), (2, rf G 166), (3, rf G 175), (4, rf G 176), (5, .int (nI i))] [] := by
  have h1 : vp_in (nI i + 1) L := vp_nI (a := 1) (by omega) (by omega)
  have h2 : vp_in (nI i + 2) L := vp_nI (a := 2) (by omega) (by omega)
  have h3 : vp_in (nI i + 3) L := vp_nI (a := 3) (by omega) (by omega)
  obtain ⟨q, S1, v, S2, x', e1, e2, e3, e4, e5⟩ := st_withdraw (xs (ix (nI i + 1))) hI (by omega)
  refine vs_aload_n X dL_law_1098 1 rfl ?_
  refine vs_aload_n X dL_law_1099 0 rfl ?_
  refine vs_iload X dL_law_1100 5 rfl ?_
  refine vs_iconst X (v := 1) dL_law_1102 (by decide) ?_
  refine vs_iadd X dL_law_1103 ?_
  refine vu_sld X hX hb hA h1 dL_law_1104 ?_
  refine vs_aload_n X dL_law_1105 3 rfl ?_
  refine vu_callL (As := [rf G 0, .int (xs (ix (nI i + 1))), rf G 175]) (st' := []) (mtL_withdraw hl0 (xs (ix (nI i + 1)))) e1 X (vx_cwSW 3 X.2.2.2.2.1 gL_law_L_withdraw rfl rfl rfl (by decide +kernel) ⟨Nat.le_of_ble_eq_true rfl, Nat.le_of_ble_eq_true rfl⟩) rfl (Nat.le_of_ble_eq_true rfl) dL_law_1106 ⟨by show _ ≤ 603072; omega, by show _ ≤ 7170154; omega⟩ ?_
  refine vs_istore X (lv' := [(6, .int (nI q)), (0, .ref b), (1, rf G 0), (2, rf G 166), (3, rf G 175), (4, rf G 176), (5, .int (nI i))]) dL_law_1109 (by decide) rfl ?_
  refine vs_aload_n X dL_law_1111 3 rfl ?_
  refine vs_aload_n X dL_law_1112 1 rfl ?_
  refine vs_iload X dL_law_1113 6 rfl ?_
  refine vs_iconst X (v := 1) dL_law_1115 (by decide) ?_
  refine vs_iadd X dL_law_1116 ?_
  refine vu_sld X hX hb hA h1 dL_law_1117 ?_
  refine vu_callM (bi := 166) (As := [.int (xs (ix (nI i + 1)))]) (st' := []) (mtX7_withdraw hl0 (xs (ix (nI i + 1))) _ e2) X (cwV 1 X.2.2.2.2.1 gL_law_X7_withdraw rfl rfl rfl (by decide +kernel) ⟨Nat.le_of_ble_eq_true rfl, Nat.le_of_ble_eq_true rfl⟩) (by decide) (by decide) rfl rfl rfl (Nat.le_of_ble_eq_true rfl) dL_law_1118 ⟨by show _ ≤ 603072; omega, by show _ ≤ 7170154; omega⟩ ?_
  refine vs_istore X (lv' := [(7, .int v), (6, .int (nI q)), (0, .ref b), (1, rf G 0), (2, rf G 166), (3, rf G 175), (4, rf G 176), (5, .int (nI i))]) dL_law_1121 (by decide) rfl ?_
  refine vs_aload_n X dL_law_1123 4 rfl ?_
  refine vu_callM (bi := 166) (As := []) (st' := []) (mtX7_thrown hl0  _ rfl) X (cwV 0 X.2.2.2.2.1 gL_law_X7_thrown rfl rfl rfl (by decide +kernel) ⟨Nat.le_of_ble_eq_true rfl, Nat.le_of_ble_eq_true rfl⟩) (by decide) (by decide) rfl rfl rfl (Nat.le_of_ble_eq_true rfl) dL_law_1124 ⟨by show _ ≤ 603072; omega, by show _ ≤ 7170154; omega⟩ ?_
  refine vs_iload X dL_law_1127 1 rfl ?_
  refine vu_ieq X (tgt := 1134) dL_law_1129 (by decide) e3 ?_
  refine vs_iload X dL_law_1134 1 rfl ?_
  refine vu_ne X (tgt := 1151) dL_law_1136 (by decide) (fun _ => ?_) (fun h0 => ?_)
  · skip
    refine vs_goto X (tgt := 2568) dL_law_1151 (by decide) ?_
    refine vs_sub [2, 3, 4, 5, 6, 7] (lv' := [(0, .ref b), (1, rf G 0), (2, rf G 166), (3, rf G 175), (4, rf G 176), (5, .int (nI i))]) rfl ?_
    exact kk S2 _ _ _ (e5.up (by omega) (by omega)) (by omega) (by omega)
  · skip
    refine vs_aload_n X dL_law_1139 5 rfl ?_
    refine vs_iconst X (v := 0) dL_law_1140 (by decide) ?_
    refine vu_lald X dL_law_1141 ?_
    refine vs_iload X dL_law_1142 0 rfl ?_
    refine vs_i2lw X dL_law_1144 ?_
    refine vu_lcmp0 X (e4 h0) dL_law_1145 ?_
    refine vu_eq X (tgt := 1151) dL_law_1146 (by decide) (fun _ => ?_) (fun z => absurd rfl z)
    refine vs_goto X (tgt := 2568) dL_law_1151 (by decide) ?_
    refine vs_sub [2, 3, 4, 5, 6, 7] (lv' := [(0, .ref b), (1, rf G 0), (2, rf G 166), (3, rf G 175), (4, rf G 176), (5, .int (nI i))]) rfl ?_
    exact kk S2 _ _ _ (e5.up (by omega) (by omega)) (by omega) (by omega)
set_option maxHeartbeats 4000000 in
theorem lc_certificateCount (hl0 : l.stackTraces = false) (X : Cx G p s m #[Value.ref b] meth c "ScarecrowRegistryLaw" wsL_law cL_law 9 rt) (hX : va_X b L xs s s.heap) (hb : b < s.heap.size) (hA : ¬ Af G b) (hi : i + 3 < L) (hL : L ≤ 2048) (hI : Inv D x S) (hD : D + 900 ≤ 900000) (hk : k + 2 ≤ 603072) (hn : n + 34 ≤ 7170154) (kk : ∀ T x' k' n', Inv (D + 900) x' T → k' ≤ k + 2 → n' ≤ n + 34 → LVW G p l e s m b below meth c Z k' n' T 2568 [(0, .ref b), (1, rf G 0), (2, rf G 166), (3, rf G 175), (4, rf G 176), (5, .int (nI i))] []) : LVW G p l e s m b below meth c Z k n S 1154 [(0, .ref b), (1, rf G 0), (2, rf G 166), (3, rf G 175), (4, rf G 176), (5, .int (nI i))] [] := by
  have h1 : vp_in (nI i + 1) L := vp_nI (a := 1) (by omega) (by omega)
  have h2 : vp_in (nI i + 2) L := vp_nI (a := 2) (by omega) (by omega)
  have h3 : vp_in (nI i + 3) L := vp_nI (a := 3) (by omega) (by omega)
  obtain ⟨v, S2, x', e1, e2, e5⟩ := sb_certificateCount hI
  refine vs_aload_n X dL_law_1154 1 rfl ?_
  refine vu_callM (bi := 0) (As := []) (st' := []) (mtX6_certificateCount hl0  _ e1) X (cwV 0 X.2.2.2.2.1 gL_law_X6_certificateCount rfl rfl rfl (by decide +kernel) ⟨Nat.le_of_ble_eq_true rfl, Nat.le_of_ble_eq_true rfl⟩) (by decide) (by decide) rfl rfl rfl (Nat.le_of_ble_eq_true rfl) dL_law_1155 ⟨by show _ ≤ 603072; omega, by show _ ≤ 7170154; omega⟩ ?_
  refine vs_aload_n X dL_law_1158 2 rfl ?_
  refine vu_callM (bi := 166) (As := []) (st' := [.int v]) (mtX7_certificateCount hl0  _ e2) X (cwV 0 X.2.2.2.2.1 gL_law_X7_certificateCount rfl rfl rfl (by decide +kernel) ⟨Nat.le_of_ble_eq_true rfl, Nat.le_of_ble_eq_true rfl⟩) (by decide) (by decide) rfl rfl rfl (Nat.le_of_ble_eq_true rfl) dL_law_1159 ⟨by show _ ≤ 603072; omega, by show _ ≤ 7170154; omega⟩ ?_
  refine vu_ieq X (tgt := 2568) dL_law_1162 (by decide) rfl ?_
  exact kk S2 _ _ _ (e5.up (by omega) (by omega)) (by omega) (by omega)
set_option maxHeartbeats 4000000 in
theorem lc_isByRegistry (hl0 : l.stackTraces = false) (X : Cx G p s m #[Value.ref b] meth c "ScarecrowRegistryLaw" wsL_law cL_law 9 rt) (hX : va_X b L xs s s.heap) (hb : b < s.heap.size) (hA : ¬ Af G b) (hi : i + 3 < L) (hL : L ≤ 2048) (hI : Inv D x S) (hD : D + 900 ≤ 900000) (hk : k + 2 ≤ 603072) (hn : n + 34 ≤ 7170154) (kk : ∀ T x' k' n', Inv (D + 900) x' T → k' ≤ k + 2 → n' ≤ n + 34 → LVW G p l e s m b below meth c Z k' n' T 2568 [(0, .ref b), (1, rf G 0), (2, rf G 166), (3, rf G 175), (4, rf G 176), (5, .int (nI i))] []) : LVW G p l e s m b below meth c Z k n S 1167 [(0, .ref b), (1, rf G 0), (2, rf G 166), (3, rf G 175), (4, rf G 176), (5, .int (nI i))] [] := by
  have h1 : vp_in (nI i + 1) L := vp_nI (a := 1) (by omega) (by omega)
  have h2 : vp_in (nI i + 2) L := vp_nI (a := 2) (by omega) (by omega)
  have h3 : vp_in (nI i + 3) L := vp_nI (a := 3) (by omega) (by omega)
  obtain ⟨q, S1, v, S2, x', e1, e2, e3, e4, e5⟩ := st_isByRegistry (xs (ix (nI i + 1))) hI 
  refine vs_aload_n X dL_law_1167 1 rfl ?_
  refine vs_aload_n X dL_law_1168 0 rfl ?_
  refine vs_iload X dL_law_1169 5 rfl ?_
  refine vs_iconst X (v := 1) dL_law_1171 (by decide) ?_
  refine vs_iadd X dL_law_1172 ?_
  refine vu_sld X hX hb hA h1 dL_law_1173 ?_
  refine vs_aload_n X dL_law_1174 3 rfl ?_
  refine vu_callL (As := [rf G 0, .int (xs (ix (nI i + 1))), rf G 175]) (st' := []) (mtL_isByRegistry hl0 (xs (ix (nI i + 1)))) e1 X (vx_cwSW 3 X.2.2.2.2.1 gL_law_L_isByRegistry rfl rfl rfl (by decide +kernel) ⟨Nat.le_of_ble_eq_true rfl, Nat.le_of_ble_eq_true rfl⟩) rfl (Nat.le_of_ble_eq_true rfl) dL_law_1175 ⟨by show _ ≤ 603072; omega, by show _ ≤ 7170154; omega⟩ ?_
  refine vs_istore X (lv' := [(6, .int (nI q)), (0, .ref b), (1, rf G 0), (2, rf G 166), (3, rf G 175), (4, rf G 176), (5, .int (nI i))]) dL_law_1178 (by decide) rfl ?_
  refine vs_aload_n X dL_law_1180 3 rfl ?_
  refine vs_aload_n X dL_law_1181 1 rfl ?_
  refine vs_iload X dL_law_1182 6 rfl ?_
  refine vs_iconst X (v := 1) dL_law_1184 (by decide) ?_
  refine vs_iadd X dL_law_1185 ?_
  refine vu_sld X hX hb hA h1 dL_law_1186 ?_
  refine vu_callM (bi := 166) (As := [.int (xs (ix (nI i + 1)))]) (st' := []) (mtX7_isByRegistry hl0 (xs (ix (nI i + 1))) _ e2) X (cwV 1 X.2.2.2.2.1 gL_law_X7_isByRegistry rfl rfl rfl (by decide +kernel) ⟨Nat.le_of_ble_eq_true rfl, Nat.le_of_ble_eq_true rfl⟩) (by decide) (by decide) rfl rfl rfl (Nat.le_of_ble_eq_true rfl) dL_law_1187 ⟨by show _ ≤ 603072; omega, by show _ ≤ 7170154; omega⟩ ?_
  refine vs_istore X (lv' := [(7, .int v), (6, .int (nI q)), (0, .ref b), (1, rf G 0), (2, rf G 166), (3, rf G 175), (4, rf G 176), (5, .int (nI i))]) dL_law_1190 (by decide) rfl ?_
  refine vs_aload_n X dL_law_1192 4 rfl ?_
  refine vu_callM (bi := 166) (As := []) (st' := []) (mtX7_thrown hl0  _ rfl) X (cwV 0 X.2.2.2.2.1 gL_law_X7_thrown rfl rfl rfl (by decide +kernel) ⟨Nat.le_of_ble_eq_true rfl, Nat.le_of_ble_eq_true rfl⟩) (by decide) (by decide) rfl rfl rfl (Nat.le_of_ble_eq_true rfl) dL_law_1193 ⟨by show _ ≤ 603072; omega, by show _ ≤ 7170154; omega⟩ ?_
  refine vs_iload X dL_law_1196 1 rfl ?_
  refine vu_ieq X (tgt := 1203) dL_law_1198 (by decide) e3 ?_
  refine vs_iload X dL_law_1203 1 rfl ?_
  refine vu_ne X (tgt := 1227) dL_law_1205 (by decide) (fun _ => ?_) (fun h0 => ?_)
  · skip
    refine vs_goto X (tgt := 2568) dL_law_1227 (by decide) ?_
    refine vs_sub [2, 3, 4, 5, 6, 7] (lv' := [(0, .ref b), (1, rf G 0), (2, rf G 166), (3, rf G 175), (4, rf G 176), (5, .int (nI i))]) rfl ?_
    exact kk S2 _ _ _ (e5.up (by omega) (by omega)) (by omega) (by omega)
  · skip
    refine vs_aload_n X dL_law_1208 5 rfl ?_
    refine vs_iconst X (v := 0) dL_law_1209 (by decide) ?_
    refine vu_lald X dL_law_1210 ?_
    refine vs_iload X dL_law_1211 0 rfl ?_
    refine vu_eq X (tgt := 1220) dL_law_1213 (by decide) (fun hv => ?_) (fun hv => ?_)
    · skip
      refine vs_lconst X (v := 0) dL_law_1220 rfl ?_
      refine vu_lcmp0 X ((e4 h0).trans (by rw [hv]; rfl)) dL_law_1221 ?_
      refine vu_eq X (tgt := 1227) dL_law_1222 (by decide) (fun _ => ?_) (fun z => absurd rfl z)
      refine vs_goto X (tgt := 2568) dL_law_1227 (by decide) ?_
      refine vs_sub [2, 3, 4, 5, 6, 7] (lv' := [(0, .ref b), (1, rf G 0), (2, rf G 166), (3, rf G 175), (4, rf G 176), (5, .int (nI i))]) rfl ?_
      exact kk S2 _ _ _ (e5.up (by omega) (by omega)) (by omega) (by omega)
    · skip
      have hv1 : v = 1 := (z_isByRegistry e2).resolve_left hv
      refine vs_lconst X (v := 1) dL_law_1216 rfl ?_
      refine vs_goto X (tgt := 1221) dL_law_1217 (by decide) ?_
      refine vu_lcmp0 X ((e4 h0).trans (by rw [hv1]; rfl)) dL_law_1221 ?_
      refine vu_eq X (tgt := 1227) dL_law_1222 (by decide) (fun _ => ?_) (fun z => absurd rfl z)
      refine vs_goto X (tgt := 2568) dL_law_1227 (by decide) ?_
      refine vs_sub [2, 3, 4, 5, 6, 7] (lv' := [(0, .ref b), (1, rf G 0), (2, rf G 166), (3, rf G 175), (4, rf G 176), (5, .int (nI i))]) rfl ?_
      exact kk S2 _ _ _ (e5.up (by omega) (by omega)) (by omega) (by omega)
set_option maxHeartbeats 4000000 in
theorem lc_issuerOf (hl0 : l.stackTraces = false) (X : Cx G p s m #[Value.ref b] meth c "ScarecrowRegistryLaw" wsL_law cL_law 9 rt) (hX : va_X b L xs s s.heap) (hb : b < s.heap.size) (hA : ¬ Af G b) (hi : i + 3 < L) (hL : L ≤ 2048) (hI : Inv D x S) (hD : D + 900 ≤ 900000) (hk : k + 2 ≤ 603072) (hn : n + 34 ≤ 7170154) (kk : ∀ T x' k' n', Inv (D + 900) x' T → k' ≤ k + 2 → n' ≤ n + 34 → LVW G p l e s m b below meth c Z k' n' T 2568 [(0, .ref b), (1, rf G 0), (2, rf G 166), (3, rf G 175), (4, rf G 176), (5, .int (nI i))] []) : LVW G p l e s m b below meth c Z k n S 1230 [(0, .ref b), (1, rf G 0), (2, rf G 166), (3, rf G 175), (4, rf G 176), (5, .int (nI i))] [] := by
  have h1 : vp_in (nI i + 1) L := vp_nI (a := 1) (by omega) (by omega)
  have h2 : vp_in (nI i + 2) L := vp_nI (a := 2) (by omega) (by omega)
  have h3 : vp_in (nI i + 3) L := vp_nI (a := 3) (by omega) (by omega)
  obtain ⟨q, S1, v, S2, x', e1, e2, e3, e4, e5⟩ := st_issuerOf (xs (ix (nI i + 1))) hI 
  refine vs_aload_n X dL_law_1230 1 rfl ?_
  refine vs_aload_n X dL_law_1231 0 rfl ?_
  refine vs_iload X dL_law_1232 5 rfl ?_
  refine vs_iconst X (v := 1) dL_law_1234 (by decide) ?_
  refine vs_iadd X dL_law_1235 ?_
  refine vu_sld X hX hb hA h1 dL_law_1236 ?_
  refine vs_aload_n X dL_law_1237 3 rfl ?_
  refine vu_callL (As := [rf G 0, .int (xs (ix (nI i + 1))), rf G 175]) (st' := []) (mtL_issuerOf hl0 (xs (ix (nI i + 1)))) e1 X (vx_cwSW 3 X.2.2.2.2.1 gL_law_L_issuerOf rfl rfl rfl (by decide +kernel) ⟨Nat.le_of_ble_eq_true rfl, Nat.le_of_ble_eq_true rfl⟩) rfl (Nat.le_of_ble_eq_true rfl) dL_law_1238 ⟨by show _ ≤ 603072; omega, by show _ ≤ 7170154; omega⟩ ?_
  refine vs_istore X (lv' := [(6, .int (nI q)), (0, .ref b), (1, rf G 0), (2, rf G 166), (3, rf G 175), (4, rf G 176), (5, .int (nI i))]) dL_law_1241 (by decide) rfl ?_
  refine vs_aload_n X dL_law_1243 3 rfl ?_
  refine vs_aload_n X dL_law_1244 1 rfl ?_
  refine vs_iload X dL_law_1245 6 rfl ?_
  refine vs_iconst X (v := 1) dL_law_1247 (by decide) ?_
  refine vs_iadd X dL_law_1248 ?_
  refine vu_sld X hX hb hA h1 dL_law_1249 ?_
  refine vu_callM (bi := 166) (As := [.int (xs (ix (nI i + 1)))]) (st' := []) (mtX7_issuerOf hl0 (xs (ix (nI i + 1))) _ e2) X (cwV 1 X.2.2.2.2.1 gL_law_X7_issuerOf rfl rfl rfl (by decide +kernel) ⟨Nat.le_of_ble_eq_true rfl, Nat.le_of_ble_eq_true rfl⟩) (by decide) (by decide) rfl rfl rfl (Nat.le_of_ble_eq_true rfl) dL_law_1250 ⟨by show _ ≤ 603072; omega, by show _ ≤ 7170154; omega⟩ ?_
  refine vs_istore X (lv' := [(7, .int v), (6, .int (nI q)), (0, .ref b), (1, rf G 0), (2, rf G 166), (3, rf G 175), (4, rf G 176), (5, .int (nI i))]) dL_law_1253 (by decide) rfl ?_
  refine vs_aload_n X dL_law_1255 4 rfl ?_
  refine vu_callM (bi := 166) (As := []) (st' := []) (mtX7_thrown hl0  _ rfl) X (cwV 0 X.2.2.2.2.1 gL_law_X7_thrown rfl rfl rfl (by decide +kernel) ⟨Nat.le_of_ble_eq_true rfl, Nat.le_of_ble_eq_true rfl⟩) (by decide) (by decide) rfl rfl rfl (Nat.le_of_ble_eq_true rfl) dL_law_1256 ⟨by show _ ≤ 603072; omega, by show _ ≤ 7170154; omega⟩ ?_
  refine vs_iload X dL_law_1259 1 rfl ?_
  refine vu_ieq X (tgt := 1266) dL_law_1261 (by decide) e3 ?_
  refine vs_iload X dL_law_1266 1 rfl ?_
  refine vu_ne X (tgt := 1283) dL_law_1268 (by decide) (fun _ => ?_) (fun h0 => ?_)
  · skip
    refine vs_goto X (tgt := 2568) dL_law_1283 (by decide) ?_
    refine vs_sub [2, 3, 4, 5, 6, 7] (lv' := [(0, .ref b), (1, rf G 0), (2, rf G 166), (3, rf G 175), (4, rf G 176), (5, .int (nI i))]) rfl ?_
    exact kk S2 _ _ _ (e5.up (by omega) (by omega)) (by omega) (by omega)
  · skip
    refine vs_aload_n X dL_law_1271 5 rfl ?_
    refine vs_iconst X (v := 0) dL_law_1272 (by decide) ?_
    refine vu_lald X dL_law_1273 ?_
    refine vs_iload X dL_law_1274 0 rfl ?_
    refine vs_i2lw X dL_law_1276 ?_
    refine vu_lcmp0 X (e4 h0) dL_law_1277 ?_
    refine vu_eq X (tgt := 1283) dL_law_1278 (by decide) (fun _ => ?_) (fun z => absurd rfl z)
    refine vs_goto X (tgt := 2568) dL_law_1283 (by decide) ?_
    refine vs_sub [2, 3, 4, 5, 6, 7] (lv' := [(0, .ref b), (1, rf G 0), (2, rf G 166), (3, rf G 175), (4, rf G 176), (5, .int (nI i))]) rfl ?_
    exact kk S2 _ _ _ (e5.up (by omega) (by omega)) (by omega) (by omega)
set_option maxHeartbeats 4000000 in
theorem lc_subjectOf (hl0 : l.stackTraces = false) (X : Cx G p s m #[Value.ref b] meth c "ScarecrowRegistryLaw" wsL_law cL_law 9 rt) (hX : va_X b L xs s s.heap) (hb : b < s.heap.size) (hA : ¬ Af G b) (hi : i + 3 < L) (hL : L ≤ 2048) (hI : Inv D x S) (hD : D + 900 ≤ 900000) (hk : k + 2 ≤ 603072) (hn : n + 34 ≤ 7170154) (kk : ∀ T x' k' n', Inv (D + 900) x' T → k' ≤ k + 2 → n' ≤ n + 34 → LVW G p l e s m b below meth c Z k' n' T 2568 [(0, .ref b), (1, rf G 0), (2, rf G 166), (3, rf G 175), (4, rf G 176), (5, .int (nI i))] []) : LVW G p l e s m b below meth c Z k n S 1286 [(0, .ref b), (1, rf G 0), (2, rf G 166), (3, rf G 175), (4, rf G 176), (5, .int (nI i))] [] := by
  have h1 : vp_in (nI i + 1) L := vp_nI (a := 1) (by omega) (by omega)
  have h2 : vp_in (nI i + 2) L := vp_nI (a := 2) (by omega) (by omega)
  have h3 : vp_in (nI i + 3) L := vp_nI (a := 3) (by omega) (by omega)
  obtain ⟨q, S1, v, S2, x', e1, e2, e3, e4, e5⟩ := st_subjectOf (xs (ix (nI i + 1))) hI 
  refine vs_aload_n X dL_law_1286 1 rfl ?_
  refine vs_aload_n X dL_law_1287 0 rfl ?_
  refine vs_iload X dL_law_1288 5 rfl ?_
  refine vs_iconst X (v := 1) dL_law_1290 (by decide) ?_
  refine vs_iadd X dL_law_1291 ?_
  refine vu_sld X hX hb hA h1 dL_law_1292 ?_
  refine vs_aload_n X dL_law_1293 3 rfl ?_
  refine vu_callL (As := [rf G 0, .int (xs (ix (nI i + 1))), rf G 175]) (st' := []) (mtL_subjectOf hl0 (xs (ix (nI i + 1)))) e1 X (vx_cwSW 3 X.2.2.2.2.1 gL_law_L_subjectOf rfl rfl rfl (by decide +kernel) ⟨Nat.le_of_ble_eq_true rfl, Nat.le_of_ble_eq_true rfl⟩) rfl (Nat.le_of_ble_eq_true rfl) dL_law_1294 ⟨by show _ ≤ 603072; omega, by show _ ≤ 7170154; omega⟩ ?_
  refine vs_istore X (lv' := [(6, .int (nI q)), (0, .ref b), (1, rf G 0), (2, rf G 166), (3, rf G 175), (4, rf G 176), (5, .int (nI i))]) dL_law_1297 (by decide) rfl ?_
  refine vs_aload_n X dL_law_1299 3 rfl ?_
  refine vs_aload_n X dL_law_1300 1 rfl ?_
  refine vs_iload X dL_law_1301 6 rfl ?_
  refine vs_iconst X (v := 1) dL_law_1303 (by decide) ?_
  refine vs_iadd X dL_law_1304 ?_
  refine vu_sld X hX hb hA h1 dL_law_1305 ?_
  refine vu_callM (bi := 166) (As := [.int (xs (ix (nI i + 1)))]) (st' := []) (mtX7_subjectOf hl0 (xs (ix (nI i + 1))) _ e2) X (cwV 1 X.2.2.2.2.1 gL_law_X7_subjectOf rfl rfl rfl (by decide +kernel) ⟨Nat.le_of_ble_eq_true rfl, Nat.le_of_ble_eq_true rfl⟩) (by decide) (by decide) rfl rfl rfl (Nat.le_of_ble_eq_true rfl) dL_law_1306 ⟨by show _ ≤ 603072; omega, by show _ ≤ 7170154; omega⟩ ?_
  refine vs_istore X (lv' := [(7, .int v), (6, .int (nI q)), (0, .ref b), (1, rf G 0), (2, rf G 166), (3, rf G 175), (4, rf G 176), (5, .int (nI i))]) dL_law_1309 (by decide) rfl ?_
  refine vs_aload_n X dL_law_1311 4 rfl ?_
  refine vu_callM (bi := 166) (As := []) (st' := []) (mtX7_thrown hl0  _ rfl) X (cwV 0 X.2.2.2.2.1 gL_law_X7_thrown rfl rfl rfl (by decide +kernel) ⟨Nat.le_of_ble_eq_true rfl, Nat.le_of_ble_eq_true rfl⟩) (by decide) (by decide) rfl rfl rfl (Nat.le_of_ble_eq_true rfl) dL_law_1312 ⟨by show _ ≤ 603072; omega, by show _ ≤ 7170154; omega⟩ ?_
  refine vs_iload X dL_law_1315 1 rfl ?_
  refine vu_ieq X (tgt := 1322) dL_law_1317 (by decide) e3 ?_
  refine vs_iload X dL_law_1322 1 rfl ?_
  refine vu_ne X (tgt := 1339) dL_law_1324 (by decide) (fun _ => ?_) (fun h0 => ?_)
  · skip
    refine vs_goto X (tgt := 2568) dL_law_1339 (by decide) ?_
    refine vs_sub [2, 3, 4, 5, 6, 7] (lv' := [(0, .ref b), (1, rf G 0), (2, rf G 166), (3, rf G 175), (4, rf G 176), (5, .int (nI i))]) rfl ?_
    exact kk S2 _ _ _ (e5.up (by omega) (by omega)) (by omega) (by omega)
  · skip
    refine vs_aload_n X dL_law_1327 5 rfl ?_
    refine vs_iconst X (v := 0) dL_law_1328 (by decide) ?_
    refine vu_lald X dL_law_1329 ?_
    refine vs_iload X dL_law_1330 0 rfl ?_
    refine vs_i2lw X dL_law_1332 ?_
    refine vu_lcmp0 X (e4 h0) dL_law_1333 ?_
    refine vu_eq X (tgt := 1339) dL_law_1334 (by decide) (fun _ => ?_) (fun z => absurd rfl z)
    refine vs_goto X (tgt := 2568) dL_law_1339 (by decide) ?_
    refine vs_sub [2, 3, 4, 5, 6, 7] (lv' := [(0, .ref b), (1, rf G 0), (2, rf G 166), (3, rf G 175), (4, rf G 176), (5, .int (nI i))]) rfl ?_
    exact kk S2 _ _ _ (e5.up (by omega) (by omega)) (by omega) (by omega)
set_option maxHeartbeats 4000000 in
theorem lc_addressOf (hl0 : l.stackTraces = false) (X : Cx G p s m #[Value.ref b] meth c "ScarecrowRegistryLaw" wsL_law cL_law 9 rt) (hX : va_X b L xs s s.heap) (hb : b < s.heap.size) (hA : ¬ Af G b) (hi : i + 3 < L) (hL : L ≤ 2048) (hI : Inv D x S) (hD : D + 900 ≤ 900000) (hk : k + 2 ≤ 603072) (hn : n + 34 ≤ 7170154) (kk : ∀ T x' k' n', Inv (D + 900) x' T → k' ≤ k + 2 → n' ≤ n + 34 → LVW G p l e s m b below meth c Z k' n' T 2568 [(0, .ref b), (1, rf G 0), (2, rf G 166), (3, rf G 175), (4, rf G 176), (5, .int (nI i))] []) : LVW G p l e s m b below meth c Z k n S 1342 [(0, .ref b), (1, rf G 0), (2, rf G 166), (3, rf G 175), (4, rf G 176), (5, .int (nI i))] [] := by
  have h1 : vp_in (nI i + 1) L := vp_nI (a := 1) (by omega) (by omega)
  have h2 : vp_in (nI i + 2) L := vp_nI (a := 2) (by omega) (by omega)
  have h3 : vp_in (nI i + 3) L := vp_nI (a := 3) (by omega) (by omega)
  obtain ⟨q, S1, v, S2, x', e1, e2, e3, e4, e5⟩ := st_addressOf (xs (ix (nI i + 1))) hI 
  refine vs_aload_n X dL_law_1342 1 rfl ?_
  refine vs_aload_n X dL_law_1343 0 rfl ?_
  refine vs_iload X dL_law_1344 5 rfl ?_
  refine vs_iconst X (v := 1) dL_law_1346 (by decide) ?_
  refine vs_iadd X dL_law_1347 ?_
  refine vu_sld X hX hb hA h1 dL_law_1348 ?_
  refine vs_aload_n X dL_law_1349 3 rfl ?_
  refine vu_callL (As := [rf G 0, .int (xs (ix (nI i + 1))), rf G 175]) (st' := []) (mtL_addressOf hl0 (xs (ix (nI i + 1)))) e1 X (vx_cwSW 3 X.2.2.2.2.1 gL_law_L_addressOf rfl rfl rfl (by decide +kernel) ⟨Nat.le_of_ble_eq_true rfl, Nat.le_of_ble_eq_true rfl⟩) rfl (Nat.le_of_ble_eq_true rfl) dL_law_1350 ⟨by show _ ≤ 603072; omega, by show _ ≤ 7170154; omega⟩ ?_
  refine vs_istore X (lv' := [(6, .int (nI q)), (0, .ref b), (1, rf G 0), (2, rf G 166), (3, rf G 175), (4, rf G 176), (5, .int (nI i))]) dL_law_1353 (by decide) rfl ?_
  refine vs_aload_n X dL_law_1355 3 rfl ?_
  refine vs_aload_n X dL_law_1356 1 rfl ?_
  refine vs_iload X dL_law_1357 6 rfl ?_
  refine vs_iconst X (v := 1) dL_law_1359 (by decide) ?_
  refine vs_iadd X dL_law_1360 ?_
  refine vu_sld X hX hb hA h1 dL_law_1361 ?_
  refine vu_callM (bi := 166) (As := [.int (xs (ix (nI i + 1)))]) (st' := []) (mtX7_addressOf hl0 (xs (ix (nI i + 1))) _ e2) X (cwV 1 X.2.2.2.2.1 gL_law_X7_addressOf rfl rfl rfl (by decide +kernel) ⟨Nat.le_of_ble_eq_true rfl, Nat.le_of_ble_eq_true rfl⟩) (by decide) (by decide) rfl rfl rfl (Nat.le_of_ble_eq_true rfl) dL_law_1362 ⟨by show _ ≤ 603072; omega, by show _ ≤ 7170154; omega⟩ ?_
  refine vs_istore X (lv' := [(7, .int v), (6, .int (nI q)), (0, .ref b), (1, rf G 0), (2, rf G 166), (3, rf G 175), (4, rf G 176), (5, .int (nI i))]) dL_law_1365 (by decide) rfl ?_
  refine vs_aload_n X dL_law_1367 4 rfl ?_
  refine vu_callM (bi := 166) (As := []) (st' := []) (mtX7_thrown hl0  _ rfl) X (cwV 0 X.2.2.2.2.1 gL_law_X7_thrown rfl rfl rfl (by decide +kernel) ⟨Nat.le_of_ble_eq_true rfl, Nat.le_of_ble_eq_true rfl⟩) (by decide) (by decide) rfl rfl rfl (Nat.le_of_ble_eq_true rfl) dL_law_1368 ⟨by show _ ≤ 603072; omega, by show _ ≤ 7170154; omega⟩ ?_
  refine vs_iload X dL_law_1371 1 rfl ?_
  refine vu_ieq X (tgt := 1378) dL_law_1373 (by decide) e3 ?_
  refine vs_iload X dL_law_1378 1 rfl ?_
  refine vu_ne X (tgt := 1395) dL_law_1380 (by decide) (fun _ => ?_) (fun h0 => ?_)
  · skip
    refine vs_goto X (tgt := 2568) dL_law_1395 (by decide) ?_
    refine vs_sub [2, 3, 4, 5, 6, 7] (lv' := [(0, .ref b), (1, rf G 0), (2, rf G 166), (3, rf G 175), (4, rf G 176), (5, .int (nI i))]) rfl ?_
    exact kk S2 _ _ _ (e5.up (by omega) (by omega)) (by omega) (by omega)
  · skip
    refine vs_aload_n X dL_law_1383 5 rfl ?_
    refine vs_iconst X (v := 0) dL_law_1384 (by decide) ?_
    refine vu_lald X dL_law_1385 ?_
    refine vs_iload X dL_law_1386 0 rfl ?_
    refine vs_i2lw X dL_law_1388 ?_
    refine vu_lcmp0 X (e4 h0) dL_law_1389 ?_
    refine vu_eq X (tgt := 1395) dL_law_1390 (by decide) (fun _ => ?_) (fun z => absurd rfl z)
    refine vs_goto X (tgt := 2568) dL_law_1395 (by decide) ?_
    refine vs_sub [2, 3, 4, 5, 6, 7] (lv' := [(0, .ref b), (1, rf G 0), (2, rf G 166), (3, rf G 175), (4, rf G 176), (5, .int (nI i))]) rfl ?_
    exact kk S2 _ _ _ (e5.up (by omega) (by omega)) (by omega) (by omega)
set_option maxHeartbeats 4000000 in
theorem lc_lastDayOf (hl0 : l.stackTraces = false) (X : Cx G p s m #[Value.ref b] meth c "ScarecrowRegistryLaw" wsL_law cL_law 9 rt) (hX : va_X b L xs s s.heap) (hb : b < s.heap.size) (hA : ¬ Af G b) (hi : i + 3 < L) (hL : L ≤ 2048) (hI : Inv D x S) (hD : D + 900 ≤ 900000) (hk : k + 2 ≤ 603072) (hn : n + 34 ≤ 7170154) (kk : ∀ T x' k' n', Inv (D + 900) x' T → k' ≤ k + 2 → n' ≤ n + 34 → LVW G p l e s m b below meth c Z k' n' T 2568 [(0, .ref b), (1, rf G 0), (2, rf G 166), (3, rf G 175), (4, rf G 176), (5, .int (nI i))] []) : LVW G p l e s m b below meth c Z k n S 1398 [(0, .ref b), (1, rf G 0), (2, rf G 166), (3, rf G 175), (4, rf G 176), (5, .int (nI i))] [] := by
  have h1 : vp_in (nI i + 1) L := vp_nI (a := 1) (by omega) (by omega)
  have h2 : vp_in (nI i + 2) L := vp_nI (a := 2) (by omega) (by omega)
  have h3 : vp_in (nI i + 3) L := vp_nI (a := 3) (by omega) (by omega)
  obtain ⟨q, S1, v, S2, x', e1, e2, e3, e4, e5⟩ := st_lastDayOf (xs (ix (nI i + 1))) hI 
  refine vs_aload_n X dL_law_1398 1 rfl ?_
  refine vs_aload_n X dL_law_1399 0 rfl ?_
  refine vs_iload X dL_law_1400 5 rfl ?_
  refine vs_iconst X (v := 1) dL_law_1402 (by decide) ?_
  refine vs_iadd X dL_law_1403 ?_
  refine vu_sld X hX hb hA h1 dL_law_1404 ?_
  refine vs_aload_n X dL_law_1405 3 rfl ?_
  refine vu_callL (As := [rf G 0, .int (xs (ix (nI i + 1))), rf G 175]) (st' := []) (mtL_lastDayOf hl0 (xs (ix (nI i + 1)))) e1 X (vx_cwSW 3 X.2.2.2.2.1 gL_law_L_lastDayOf rfl rfl rfl (by decide +kernel) ⟨Nat.le_of_ble_eq_true rfl, Nat.le_of_ble_eq_true rfl⟩) rfl (Nat.le_of_ble_eq_true rfl) dL_law_1406 ⟨by show _ ≤ 603072; omega, by show _ ≤ 7170154; omega⟩ ?_
  refine vs_istore X (lv' := [(6, .int (nI q)), (0, .ref b), (1, rf G 0), (2, rf G 166), (3, rf G 175), (4, rf G 176), (5, .int (nI i))]) dL_law_1409 (by decide) rfl ?_
  refine vs_aload_n X dL_law_1411 3 rfl ?_
  refine vs_aload_n X dL_law_1412 1 rfl ?_
  refine vs_iload X dL_law_1413 6 rfl ?_
  refine vs_iconst X (v := 1) dL_law_1415 (by decide) ?_
  refine vs_iadd X dL_law_1416 ?_
  refine vu_sld X hX hb hA h1 dL_law_1417 ?_
  refine vu_callM (bi := 166) (As := [.int (xs (ix (nI i + 1)))]) (st' := []) (mtX7_lastDayOf hl0 (xs (ix (nI i + 1))) _ e2) X (cwV 1 X.2.2.2.2.1 gL_law_X7_lastDayOf rfl rfl rfl (by decide +kernel) ⟨Nat.le_of_ble_eq_true rfl, Nat.le_of_ble_eq_true rfl⟩) (by decide) (by decide) rfl rfl rfl (Nat.le_of_ble_eq_true rfl) dL_law_1418 ⟨by show _ ≤ 603072; omega, by show _ ≤ 7170154; omega⟩ ?_
  refine vs_istore X (lv' := [(7, .int v), (6, .int (nI q)), (0, .ref b), (1, rf G 0), (2, rf G 166), (3, rf G 175), (4, rf G 176), (5, .int (nI i))]) dL_law_1421 (by decide) rfl ?_
  refine vs_aload_n X dL_law_1423 4 rfl ?_
  refine vu_callM (bi := 166) (As := []) (st' := []) (mtX7_thrown hl0  _ rfl) X (cwV 0 X.2.2.2.2.1 gL_law_X7_thrown rfl rfl rfl (by decide +kernel) ⟨Nat.le_of_ble_eq_true rfl, Nat.le_of_ble_eq_true rfl⟩) (by decide) (by decide) rfl rfl rfl (Nat.le_of_ble_eq_true rfl) dL_law_1424 ⟨by show _ ≤ 603072; omega, by show _ ≤ 7170154; omega⟩ ?_
  refine vs_iload X dL_law_1427 1 rfl ?_
  refine vu_ieq X (tgt := 1434) dL_law_1429 (by decide) e3 ?_
  refine vs_iload X dL_law_1434 1 rfl ?_
  refine vu_ne X (tgt := 1451) dL_law_1436 (by decide) (fun _ => ?_) (fun h0 => ?_)
  · skip
    refine vs_goto X (tgt := 2568) dL_law_1451 (by decide) ?_
    refine vs_sub [2, 3, 4, 5, 6, 7] (lv' := [(0, .ref b), (1, rf G 0), (2, rf G 166), (3, rf G 175), (4, rf G 176), (5, .int (nI i))]) rfl ?_
    exact kk S2 _ _ _ (e5.up (by omega) (by omega)) (by omega) (by omega)
  · skip
    refine vs_aload_n X dL_law_1439 5 rfl ?_
    refine vs_iconst X (v := 0) dL_law_1440 (by decide) ?_
    refine vu_lald X dL_law_1441 ?_
    refine vs_iload X dL_law_1442 0 rfl ?_
    refine vs_i2lw X dL_law_1444 ?_
    refine vu_lcmp0 X (e4 h0) dL_law_1445 ?_
    refine vu_eq X (tgt := 1451) dL_law_1446 (by decide) (fun _ => ?_) (fun z => absurd rfl z)
    refine vs_goto X (tgt := 2568) dL_law_1451 (by decide) ?_
    refine vs_sub [2, 3, 4, 5, 6, 7] (lv' := [(0, .ref b), (1, rf G 0), (2, rf G 166), (3, rf G 175), (4, rf G 176), (5, .int (nI i))]) rfl ?_
    exact kk S2 _ _ _ (e5.up (by omega) (by omega)) (by omega) (by omega)
set_option maxHeartbeats 4000000 in
theorem lc_isInForce (hl0 : l.stackTraces = false) (X : Cx G p s m #[Value.ref b] meth c "ScarecrowRegistryLaw" wsL_law cL_law 9 rt) (hX : va_X b L xs s s.heap) (hb : b < s.heap.size) (hA : ¬ Af G b) (hi : i + 3 < L) (hL : L ≤ 2048) (hI : Inv D x S) (hD : D + 900 ≤ 900000) (hk : k + 2 ≤ 603072) (hn : n + 34 ≤ 7170154) (kk : ∀ T x' k' n', Inv (D + 900) x' T → k' ≤ k + 2 → n' ≤ n + 34 → LVW G p l e s m b below meth c Z k' n' T 2568 [(0, .ref b), (1, rf G 0), (2, rf G 166), (3, rf G 175), (4, rf G 176), (5, .int (nI i))] []) : LVW G p l e s m b below meth c Z k n S 1454 [(0, .ref b), (1, rf G 0), (2, rf G 166), (3, rf G 175), (4, rf G 176), (5, .int (nI i))] [] := by
  have h1 : vp_in (nI i + 1) L := vp_nI (a := 1) (by omega) (by omega)
  have h2 : vp_in (nI i + 2) L := vp_nI (a := 2) (by omega) (by omega)
  have h3 : vp_in (nI i + 3) L := vp_nI (a := 3) (by omega) (by omega)
  obtain ⟨q, S1, v, S2, x', e1, e2, e3, e4, e5⟩ := st_isInForce (xs (ix (nI i + 1))) hI 
  refine vs_aload_n X dL_law_1454 1 rfl ?_
  refine vs_aload_n X dL_law_1455 0 rfl ?_
  refine vs_iload X dL_law_1456 5 rfl ?_
  refine vs_iconst X (v := 1) dL_law_1458 (by decide) ?_
  refine vs_iadd X dL_law_1459 ?_
  refine vu_sld X hX hb hA h1 dL_law_1460 ?_
  refine vs_aload_n X dL_law_1461 3 rfl ?_
  refine vu_callL (As := [rf G 0, .int (xs (ix (nI i + 1))), rf G 175]) (st' := []) (mtL_isInForce hl0 (xs (ix (nI i + 1)))) e1 X (vx_cwSW 3 X.2.2.2.2.1 gL_law_L_isInForce rfl rfl rfl (by decide +kernel) ⟨Nat.le_of_ble_eq_true rfl, Nat.le_of_ble_eq_true rfl⟩) rfl (Nat.le_of_ble_eq_true rfl) dL_law_1462 ⟨by show _ ≤ 603072; omega, by show _ ≤ 7170154; omega⟩ ?_
  refine vs_istore X (lv' := [(6, .int (nI q)), (0, .ref b), (1, rf G 0), (2, rf G 166), (3, rf G 175), (4, rf G 176), (5, .int (nI i))]) dL_law_1465 (by decide) rfl ?_
  refine vs_aload_n X dL_law_1467 3 rfl ?_
  refine vs_aload_n X dL_law_1468 1 rfl ?_
  refine vs_iload X dL_law_1469 6 rfl ?_
  refine vs_iconst X (v := 1) dL_law_1471 (by decide) ?_
  refine vs_iadd X dL_law_1472 ?_
  refine vu_sld X hX hb hA h1 dL_law_1473 ?_
  refine vu_callM (bi := 166) (As := [.int (xs (ix (nI i + 1)))]) (st' := []) (mtX7_isInForce hl0 (xs (ix (nI i + 1))) _ e2) X (cwV 1 X.2.2.2.2.1 gL_law_X7_isInForce rfl rfl rfl (by decide +kernel) ⟨Nat.le_of_ble_eq_true rfl, Nat.le_of_ble_eq_true rfl⟩) (by decide) (by decide) rfl rfl rfl (Nat.le_of_ble_eq_true rfl) dL_law_1474 ⟨by show _ ≤ 603072; omega, by show _ ≤ 7170154; omega⟩ ?_
  refine vs_istore X (lv' := [(7, .int v), (6, .int (nI q)), (0, .ref b), (1, rf G 0), (2, rf G 166), (3, rf G 175), (4, rf G 176), (5, .int (nI i))]) dL_law_1477 (by decide) rfl ?_
  refine vs_aload_n X dL_law_1479 4 rfl ?_
  refine vu_callM (bi := 166) (As := []) (st' := []) (mtX7_thrown hl0  _ rfl) X (cwV 0 X.2.2.2.2.1 gL_law_X7_thrown rfl rfl rfl (by decide +kernel) ⟨Nat.le_of_ble_eq_true rfl, Nat.le_of_ble_eq_true rfl⟩) (by decide) (by decide) rfl rfl rfl (Nat.le_of_ble_eq_true rfl) dL_law_1480 ⟨by show _ ≤ 603072; omega, by show _ ≤ 7170154; omega⟩ ?_
  refine vs_iload X dL_law_1483 1 rfl ?_
  refine vu_ieq X (tgt := 1490) dL_law_1485 (by decide) e3 ?_
  refine vs_iload X dL_law_1490 1 rfl ?_
  refine vu_ne X (tgt := 1514) dL_law_1492 (by decide) (fun _ => ?_) (fun h0 => ?_)
  · skip
    refine vs_goto X (tgt := 2568) dL_law_1514 (by decide) ?_
    refine vs_sub [2, 3, 4, 5, 6, 7] (lv' := [(0, .ref b), (1, rf G 0), (2, rf G 166), (3, rf G 175), (4, rf G 176), (5, .int (nI i))]) rfl ?_
    exact kk S2 _ _ _ (e5.up (by omega) (by omega)) (by omega) (by omega)
  · skip
    refine vs_aload_n X dL_law_1495 5 rfl ?_
    refine vs_iconst X (v := 0) dL_law_1496 (by decide) ?_
    refine vu_lald X dL_law_1497 ?_
    refine vs_iload X dL_law_1498 0 rfl ?_
    refine vu_eq X (tgt := 1507) dL_law_1500 (by decide) (fun hv => ?_) (fun hv => ?_)
    · skip
      refine vs_lconst X (v := 0) dL_law_1507 rfl ?_
      refine vu_lcmp0 X ((e4 h0).trans (by rw [hv]; rfl)) dL_law_1508 ?_
      refine vu_eq X (tgt := 1514) dL_law_1509 (by decide) (fun _ => ?_) (fun z => absurd rfl z)
      refine vs_goto X (tgt := 2568) dL_law_1514 (by decide) ?_
      refine vs_sub [2, 3, 4, 5, 6, 7] (lv' := [(0, .ref b), (1, rf G 0), (2, rf G 166), (3, rf G 175), (4, rf G 176), (5, .int (nI i))]) rfl ?_
      exact kk S2 _ _ _ (e5.up (by omega) (by omega)) (by omega) (by omega)
    · skip
      have hv1 : v = 1 := (z_isInForce e2).resolve_left hv
      refine vs_lconst X (v := 1) dL_law_1503 rfl ?_
      refine vs_goto X (tgt := 1508) dL_law_1504 (by decide) ?_
      refine vu_lcmp0 X ((e4 h0).trans (by rw [hv1]; rfl)) dL_law_1508 ?_
      refine vu_eq X (tgt := 1514) dL_law_1509 (by decide) (fun _ => ?_) (fun z => absurd rfl z)
      refine vs_goto X (tgt := 2568) dL_law_1514 (by decide) ?_
      refine vs_sub [2, 3, 4, 5, 6, 7] (lv' := [(0, .ref b), (1, rf G 0), (2, rf G 166), (3, rf G 175), (4, rf G 176), (5, .int (nI i))]) rfl ?_
      exact kk S2 _ _ _ (e5.up (by omega) (by omega)) (by omega) (by omega)
set_option maxHeartbeats 4000000 in
theorem lc_inForceCount (hl0 : l.stackTraces = false) (X : Cx G p s m #[Value.ref b] meth c "ScarecrowRegistryLaw" wsL_law cL_law 9 rt) (hX : va_X b L xs s s.heap) (hb : b < s.heap.size) (hA : ¬ Af G b) (hi : i + 3 < L) (hL : L ≤ 2048) (hI : Inv D x S) (hD : D + 900 ≤ 900000) (hk : k + 2 ≤ 603072) (hn : n + 34 ≤ 7170154) (kk : ∀ T x' k' n', Inv (D + 900) x' T → k' ≤ k + 2 → n' ≤ n + 34 → LVW G p l e s m b below meth c Z k' n' T 2568 [(0, .ref b), (1, rf G 0), (2, rf G 166), (3, rf G 175), (4, rf G 176), (5, .int (nI i))] []) : LVW G p l e s m b below meth c Z k n S 1517 [(0, .ref b), (1, rf G 0), (2, rf G 166), (3, rf G 175), (4, rf G 176), (5, .int (nI i))] [] := by
  have h1 : vp_in (nI i + 1) L := vp_nI (a := 1) (by omega) (by omega)
  have h2 : vp_in (nI i + 2) L := vp_nI (a := 2) (by omega) (by omega)
  have h3 : vp_in (nI i + 3) L := vp_nI (a := 3) (by omega) (by omega)
  obtain ⟨v, S2, x', e1, e2, e5⟩ := sb_inForceCount hI
  refine vs_aload_n X dL_law_1517 1 rfl ?_
  refine vu_callM (bi := 0) (As := []) (st' := []) (mtX6_inForceCount hl0  _ e1) X (cwV 0 X.2.2.2.2.1 gL_law_X6_inForceCount rfl rfl rfl (by decide +kernel) ⟨Nat.le_of_ble_eq_true rfl, Nat.le_of_ble_eq_true rfl⟩) (by decide) (by decide) rfl rfl rfl (Nat.le_of_ble_eq_true rfl) dL_law_1518 ⟨by show _ ≤ 603072; omega, by show _ ≤ 7170154; omega⟩ ?_
  refine vs_aload_n X dL_law_1521 2 rfl ?_
  refine vu_callM (bi := 166) (As := []) (st' := [.int v]) (mtX7_inForceCount hl0  _ e2) X (cwV 0 X.2.2.2.2.1 gL_law_X7_inForceCount rfl rfl rfl (by decide +kernel) ⟨Nat.le_of_ble_eq_true rfl, Nat.le_of_ble_eq_true rfl⟩) (by decide) (by decide) rfl rfl rfl (Nat.le_of_ble_eq_true rfl) dL_law_1522 ⟨by show _ ≤ 603072; omega, by show _ ≤ 7170154; omega⟩ ?_
  refine vu_ieq X (tgt := 2568) dL_law_1525 (by decide) rfl ?_
  exact kk S2 _ _ _ (e5.up (by omega) (by omega)) (by omega) (by omega)
set_option maxHeartbeats 4000000 in
theorem lc_sow (hl0 : l.stackTraces = false) (X : Cx G p s m #[Value.ref b] meth c "ScarecrowRegistryLaw" wsL_law cL_law 9 rt) (hX : va_X b L xs s s.heap) (hb : b < s.heap.size) (hA : ¬ Af G b) (hi : i + 3 < L) (hL : L ≤ 2048) (hI : Inv D x S) (hD : D + 900 ≤ 900000) (hk : k + 2 ≤ 603072) (hn : n + 34 ≤ 7170154) (kk : ∀ T x' k' n', Inv (D + 900) x' T → k' ≤ k + 2 → n' ≤ n + 34 → LVW G p l e s m b below meth c Z k' n' T 2568 [(0, .ref b), (1, rf G 0), (2, rf G 166), (3, rf G 175), (4, rf G 176), (5, .int (nI i))] []) : LVW G p l e s m b below meth c Z k n S 1530 [(0, .ref b), (1, rf G 0), (2, rf G 166), (3, rf G 175), (4, rf G 176), (5, .int (nI i))] [] := by
  have h1 : vp_in (nI i + 1) L := vp_nI (a := 1) (by omega) (by omega)
  have h2 : vp_in (nI i + 2) L := vp_nI (a := 2) (by omega) (by omega)
  have h3 : vp_in (nI i + 3) L := vp_nI (a := 3) (by omega) (by omega)
  obtain ⟨q, S1, v, S2, x', e1, e2, e3, e4, e5⟩ := st_sow (xs (ix (nI i + 1))) (xs (ix (nI i + 2))) hI (by omega)
  refine vs_aload_n X dL_law_1530 1 rfl ?_
  refine vs_aload_n X dL_law_1531 0 rfl ?_
  refine vs_iload X dL_law_1532 5 rfl ?_
  refine vs_iconst X (v := 1) dL_law_1534 (by decide) ?_
  refine vs_iadd X dL_law_1535 ?_
  refine vu_sld X hX hb hA h1 dL_law_1536 ?_
  refine vs_aload_n X dL_law_1537 0 rfl ?_
  refine vs_iload X dL_law_1538 5 rfl ?_
  refine vs_iconst X (v := 2) dL_law_1540 (by decide) ?_
  refine vs_iadd X dL_law_1541 ?_
  refine vu_sld X hX hb hA h2 dL_law_1542 ?_
  refine vs_aload_n X dL_law_1543 3 rfl ?_
  refine vu_callL (As := [rf G 0, .int (xs (ix (nI i + 1))), .int (xs (ix (nI i + 2))), rf G 175]) (st' := []) (mtL_sow hl0 (xs (ix (nI i + 1))) (xs (ix (nI i + 2)))) e1 X (vx_cwSW 4 X.2.2.2.2.1 gL_law_L_sow rfl rfl rfl (by decide +kernel) ⟨Nat.le_of_ble_eq_true rfl, Nat.le_of_ble_eq_true rfl⟩) rfl (Nat.le_of_ble_eq_true rfl) dL_law_1544 ⟨by show _ ≤ 603072; omega, by show _ ≤ 7170154; omega⟩ ?_
  refine vs_istore X (lv' := [(6, .int (nI q)), (0, .ref b), (1, rf G 0), (2, rf G 166), (3, rf G 175), (4, rf G 176), (5, .int (nI i))]) dL_law_1547 (by decide) rfl ?_
  refine vs_aload_n X dL_law_1549 3 rfl ?_
  refine vs_aload_n X dL_law_1550 1 rfl ?_
  refine vs_iload X dL_law_1551 6 rfl ?_
  refine vs_iconst X (v := 1) dL_law_1553 (by decide) ?_
  refine vs_iadd X dL_law_1554 ?_
  refine vu_sld X hX hb hA h1 dL_law_1555 ?_
  refine vs_aload_n X dL_law_1556 1 rfl ?_
  refine vs_iload X dL_law_1557 6 rfl ?_
  refine vs_iconst X (v := 2) dL_law_1559 (by decide) ?_
  refine vs_iadd X dL_law_1560 ?_
  refine vu_sld X hX hb hA h2 dL_law_1561 ?_
  refine vu_callM (bi := 166) (As := [.int (xs (ix (nI i + 1))), .int (xs (ix (nI i + 2)))]) (st' := []) (mtX7_sow hl0 (xs (ix (nI i + 1))) (xs (ix (nI i + 2))) _ e2) X (cwV 2 X.2.2.2.2.1 gL_law_X7_sow rfl rfl rfl (by decide +kernel) ⟨Nat.le_of_ble_eq_true rfl, Nat.le_of_ble_eq_true rfl⟩) (by decide) (by decide) rfl rfl rfl (Nat.le_of_ble_eq_true rfl) dL_law_1562 ⟨by show _ ≤ 603072; omega, by show _ ≤ 7170154; omega⟩ ?_
  refine vs_istore X (lv' := [(7, .int v), (6, .int (nI q)), (0, .ref b), (1, rf G 0), (2, rf G 166), (3, rf G 175), (4, rf G 176), (5, .int (nI i))]) dL_law_1565 (by decide) rfl ?_
  refine vs_aload_n X dL_law_1567 4 rfl ?_
  refine vu_callM (bi := 166) (As := []) (st' := []) (mtX7_thrown hl0  _ rfl) X (cwV 0 X.2.2.2.2.1 gL_law_X7_thrown rfl rfl rfl (by decide +kernel) ⟨Nat.le_of_ble_eq_true rfl, Nat.le_of_ble_eq_true rfl⟩) (by decide) (by decide) rfl rfl rfl (Nat.le_of_ble_eq_true rfl) dL_law_1568 ⟨by show _ ≤ 603072; omega, by show _ ≤ 7170154; omega⟩ ?_
  refine vs_iload X dL_law_1571 1 rfl ?_
  refine vu_ieq X (tgt := 1578) dL_law_1573 (by decide) e3 ?_
  refine vs_iload X dL_law_1578 1 rfl ?_
  refine vu_ne X (tgt := 1595) dL_law_1580 (by decide) (fun _ => ?_) (fun h0 => ?_)
  · skip
    refine vs_goto X (tgt := 2568) dL_law_1595 (by decide) ?_
    refine vs_sub [2, 3, 4, 5, 6, 7] (lv' := [(0, .ref b), (1, rf G 0), (2, rf G 166), (3, rf G 175), (4, rf G 176), (5, .int (nI i))]) rfl ?_
    exact kk S2 _ _ _ (e5.up (by omega) (by omega)) (by omega) (by omega)
  · skip
    refine vs_aload_n X dL_law_1583 5 rfl ?_
    refine vs_iconst X (v := 0) dL_law_1584 (by decide) ?_
    refine vu_lald X dL_law_1585 ?_
    refine vs_iload X dL_law_1586 0 rfl ?_
    refine vs_i2lw X dL_law_1588 ?_
    refine vu_lcmp0 X (e4 h0) dL_law_1589 ?_
    refine vu_eq X (tgt := 1595) dL_law_1590 (by decide) (fun _ => ?_) (fun z => absurd rfl z)
    refine vs_goto X (tgt := 2568) dL_law_1595 (by decide) ?_
    refine vs_sub [2, 3, 4, 5, 6, 7] (lv' := [(0, .ref b), (1, rf G 0), (2, rf G 166), (3, rf G 175), (4, rf G 176), (5, .int (nI i))]) rfl ?_
    exact kk S2 _ _ _ (e5.up (by omega) (by omega)) (by omega) (by omega)
set_option maxHeartbeats 4000000 in
theorem lc_pass (hl0 : l.stackTraces = false) (X : Cx G p s m #[Value.ref b] meth c "ScarecrowRegistryLaw" wsL_law cL_law 9 rt) (hX : va_X b L xs s s.heap) (hb : b < s.heap.size) (hA : ¬ Af G b) (hi : i + 3 < L) (hL : L ≤ 2048) (hI : Inv D x S) (hD : D + 900 ≤ 900000) (hk : k + 2 ≤ 603072) (hn : n + 34 ≤ 7170154) (kk : ∀ T x' k' n', Inv (D + 900) x' T → k' ≤ k + 2 → n' ≤ n + 34 → LVW G p l e s m b below meth c Z k' n' T 2568 [(0, .ref b), (1, rf G 0), (2, rf G 166), (3, rf G 175), (4, rf G 176), (5, .int (nI i))] []) : LVW G p l e s m b below meth c Z k n S 1598 [(0, .ref b), (1, rf G 0), (2, rf G 166), (3, rf G 175), (4, rf G 176), (5, .int (nI i))] [] := by
  have h1 : vp_in (nI i + 1) L := vp_nI (a := 1) (by omega) (by omega)
  have h2 : vp_in (nI i + 2) L := vp_nI (a := 2) (by omega) (by omega)
  have h3 : vp_in (nI i + 3) L := vp_nI (a := 3) (by omega) (by omega)
  obtain ⟨q, S1, v, S2, x', e1, e2, e3, e4, e5⟩ := st_pass (xs (ix (nI i + 1))) hI (by omega)
  refine vs_aload_n X dL_law_1598 1 rfl ?_
  refine vs_aload_n X dL_law_1599 0 rfl ?_
  refine vs_iload X dL_law_1600 5 rfl ?_
  refine vs_iconst X (v := 1) dL_law_1602 (by decide) ?_
  refine vs_iadd X dL_law_1603 ?_
  refine vu_sld X hX hb hA h1 dL_law_1604 ?_
  refine vs_aload_n X dL_law_1605 3 rfl ?_
  refine vu_callL (As := [rf G 0, .int (xs (ix (nI i + 1))), rf G 175]) (st' := []) (mtL_pass hl0 (xs (ix (nI i + 1)))) e1 X (vx_cwSW 3 X.2.2.2.2.1 gL_law_L_pass rfl rfl rfl (by decide +kernel) ⟨Nat.le_of_ble_eq_true rfl, Nat.le_of_ble_eq_true rfl⟩) rfl (Nat.le_of_ble_eq_true rfl) dL_law_1606 ⟨by show _ ≤ 603072; omega, by show _ ≤ 7170154; omega⟩ ?_
  refine vs_istore X (lv' := [(6, .int (nI q)), (0, .ref b), (1, rf G 0), (2, rf G 166), (3, rf G 175), (4, rf G 176), (5, .int (nI i))]) dL_law_1609 (by decide) rfl ?_
  refine vs_aload_n X dL_law_1611 3 rfl ?_
  refine vs_aload_n X dL_law_1612 1 rfl ?_
  refine vs_iload X dL_law_1613 6 rfl ?_
  refine vs_iconst X (v := 1) dL_law_1615 (by decide) ?_
  refine vs_iadd X dL_law_1616 ?_
  refine vu_sld X hX hb hA h1 dL_law_1617 ?_
  refine vu_callM (bi := 166) (As := [.int (xs (ix (nI i + 1)))]) (st' := []) (mtX7_pass hl0 (xs (ix (nI i + 1))) _ e2) X (cwV 1 X.2.2.2.2.1 gL_law_X7_pass rfl rfl rfl (by decide +kernel) ⟨Nat.le_of_ble_eq_true rfl, Nat.le_of_ble_eq_true rfl⟩) (by decide) (by decide) rfl rfl rfl (Nat.le_of_ble_eq_true rfl) dL_law_1618 ⟨by show _ ≤ 603072; omega, by show _ ≤ 7170154; omega⟩ ?_
  refine vs_istore X (lv' := [(7, .int v), (6, .int (nI q)), (0, .ref b), (1, rf G 0), (2, rf G 166), (3, rf G 175), (4, rf G 176), (5, .int (nI i))]) dL_law_1621 (by decide) rfl ?_
  refine vs_aload_n X dL_law_1623 4 rfl ?_
  refine vu_callM (bi := 166) (As := []) (st' := []) (mtX7_thrown hl0  _ rfl) X (cwV 0 X.2.2.2.2.1 gL_law_X7_thrown rfl rfl rfl (by decide +kernel) ⟨Nat.le_of_ble_eq_true rfl, Nat.le_of_ble_eq_true rfl⟩) (by decide) (by decide) rfl rfl rfl (Nat.le_of_ble_eq_true rfl) dL_law_1624 ⟨by show _ ≤ 603072; omega, by show _ ≤ 7170154; omega⟩ ?_
  refine vs_iload X dL_law_1627 1 rfl ?_
  refine vu_ieq X (tgt := 1634) dL_law_1629 (by decide) e3 ?_
  refine vs_iload X dL_law_1634 1 rfl ?_
  refine vu_ne X (tgt := 1651) dL_law_1636 (by decide) (fun _ => ?_) (fun h0 => ?_)
  · skip
    refine vs_goto X (tgt := 2568) dL_law_1651 (by decide) ?_
    refine vs_sub [2, 3, 4, 5, 6, 7] (lv' := [(0, .ref b), (1, rf G 0), (2, rf G 166), (3, rf G 175), (4, rf G 176), (5, .int (nI i))]) rfl ?_
    exact kk S2 _ _ _ (e5.up (by omega) (by omega)) (by omega) (by omega)
  · skip
    refine vs_aload_n X dL_law_1639 5 rfl ?_
    refine vs_iconst X (v := 0) dL_law_1640 (by decide) ?_
    refine vu_lald X dL_law_1641 ?_
    refine vs_iload X dL_law_1642 0 rfl ?_
    refine vs_i2lw X dL_law_1644 ?_
    refine vu_lcmp0 X (e4 h0) dL_law_1645 ?_
    refine vu_eq X (tgt := 1651) dL_law_1646 (by decide) (fun _ => ?_) (fun z => absurd rfl z)
    refine vs_goto X (tgt := 2568) dL_law_1651 (by decide) ?_
    refine vs_sub [2, 3, 4, 5, 6, 7] (lv' := [(0, .ref b), (1, rf G 0), (2, rf G 166), (3, rf G 175), (4, rf G 176), (5, .int (nI i))]) rfl ?_
    exact kk S2 _ _ _ (e5.up (by omega) (by omega)) (by omega) (by omega)
set_option maxHeartbeats 4000000 in
theorem lc_predictEaten (hl0 : l.stackTraces = false) (X : Cx G p s m #[Value.ref b] meth c "ScarecrowRegistryLaw" wsL_law cL_law 9 rt) (hX : va_X b L xs s s.heap) (hb : b < s.heap.size) (hA : ¬ Af G b) (hi : i + 3 < L) (hL : L ≤ 2048) (hI : Inv D x S) (hD : D + 900 ≤ 900000) (hk : k + 2 ≤ 603072) (hn : n + 34 ≤ 7170154) (kk : ∀ T x' k' n', Inv (D + 900) x' T → k' ≤ k + 2 → n' ≤ n + 34 → LVW G p l e s m b below meth c Z k' n' T 2568 [(0, .ref b), (1, rf G 0), (2, rf G 166), (3, rf G 175), (4, rf G 176), (5, .int (nI i))] []) : LVW G p l e s m b below meth c Z k n S 1654 [(0, .ref b), (1, rf G 0), (2, rf G 166), (3, rf G 175), (4, rf G 176), (5, .int (nI i))] [] := by
  have h1 : vp_in (nI i + 1) L := vp_nI (a := 1) (by omega) (by omega)
  have h2 : vp_in (nI i + 2) L := vp_nI (a := 2) (by omega) (by omega)
  have h3 : vp_in (nI i + 3) L := vp_nI (a := 3) (by omega) (by omega)
  obtain ⟨q, S1, v, S2, x', e1, e2, e3, e4, e5⟩ := st_predictEaten (xs (ix (nI i + 1))) hI (by omega)
  refine vs_aload_n X dL_law_1654 1 rfl ?_
  refine vs_aload_n X dL_law_1655 0 rfl ?_
  refine vs_iload X dL_law_1656 5 rfl ?_
  refine vs_iconst X (v := 1) dL_law_1658 (by decide) ?_
  refine vs_iadd X dL_law_1659 ?_
  refine vu_sld X hX hb hA h1 dL_law_1660 ?_
  refine vs_aload_n X dL_law_1661 3 rfl ?_
  refine vu_callL (As := [rf G 0, .int (xs (ix (nI i + 1))), rf G 175]) (st' := []) (mtL_predictEaten hl0 (xs (ix (nI i + 1)))) e1 X (vx_cwSW 3 X.2.2.2.2.1 gL_law_L_predictEaten rfl rfl rfl (by decide +kernel) ⟨Nat.le_of_ble_eq_true rfl, Nat.le_of_ble_eq_true rfl⟩) rfl (Nat.le_of_ble_eq_true rfl) dL_law_1662 ⟨by show _ ≤ 603072; omega, by show _ ≤ 7170154; omega⟩ ?_
  refine vs_istore X (lv' := [(6, .int (nI q)), (0, .ref b), (1, rf G 0), (2, rf G 166), (3, rf G 175), (4, rf G 176), (5, .int (nI i))]) dL_law_1665 (by decide) rfl ?_
  refine vs_aload_n X dL_law_1667 3 rfl ?_
  refine vs_aload_n X dL_law_1668 1 rfl ?_
  refine vs_iload X dL_law_1669 6 rfl ?_
  refine vs_iconst X (v := 1) dL_law_1671 (by decide) ?_
  refine vs_iadd X dL_law_1672 ?_
  refine vu_sld X hX hb hA h1 dL_law_1673 ?_
  refine vu_callM (bi := 166) (As := [.int (xs (ix (nI i + 1)))]) (st' := []) (mtX7_predictEaten hl0 (xs (ix (nI i + 1))) _ e2) X (cwV 1 X.2.2.2.2.1 gL_law_X7_predictEaten rfl rfl rfl (by decide +kernel) ⟨Nat.le_of_ble_eq_true rfl, Nat.le_of_ble_eq_true rfl⟩) (by decide) (by decide) rfl rfl rfl (Nat.le_of_ble_eq_true rfl) dL_law_1674 ⟨by show _ ≤ 603072; omega, by show _ ≤ 7170154; omega⟩ ?_
  refine vs_istore X (lv' := [(7, .int v), (6, .int (nI q)), (0, .ref b), (1, rf G 0), (2, rf G 166), (3, rf G 175), (4, rf G 176), (5, .int (nI i))]) dL_law_1677 (by decide) rfl ?_
  refine vs_aload_n X dL_law_1679 4 rfl ?_
  refine vu_callM (bi := 166) (As := []) (st' := []) (mtX7_thrown hl0  _ rfl) X (cwV 0 X.2.2.2.2.1 gL_law_X7_thrown rfl rfl rfl (by decide +kernel) ⟨Nat.le_of_ble_eq_true rfl, Nat.le_of_ble_eq_true rfl⟩) (by decide) (by decide) rfl rfl rfl (Nat.le_of_ble_eq_true rfl) dL_law_1680 ⟨by show _ ≤ 603072; omega, by show _ ≤ 7170154; omega⟩ ?_
  refine vs_iload X dL_law_1683 1 rfl ?_
  refine vu_ieq X (tgt := 1690) dL_law_1685 (by decide) e3 ?_
  refine vs_iload X dL_law_1690 1 rfl ?_
  refine vu_ne X (tgt := 1707) dL_law_1692 (by decide) (fun _ => ?_) (fun h0 => ?_)
  · skip
    refine vs_goto X (tgt := 2568) dL_law_1707 (by decide) ?_
    refine vs_sub [2, 3, 4, 5, 6, 7] (lv' := [(0, .ref b), (1, rf G 0), (2, rf G 166), (3, rf G 175), (4, rf G 176), (5, .int (nI i))]) rfl ?_
    exact kk S2 _ _ _ (e5.up (by omega) (by omega)) (by omega) (by omega)
  · skip
    refine vs_aload_n X dL_law_1695 5 rfl ?_
    refine vs_iconst X (v := 0) dL_law_1696 (by decide) ?_
    refine vu_lald X dL_law_1697 ?_
    refine vs_iload X dL_law_1698 0 rfl ?_
    refine vs_i2lw X dL_law_1700 ?_
    refine vu_lcmp0 X (e4 h0) dL_law_1701 ?_
    refine vu_eq X (tgt := 1707) dL_law_1702 (by decide) (fun _ => ?_) (fun z => absurd rfl z)
    refine vs_goto X (tgt := 2568) dL_law_1707 (by decide) ?_
    refine vs_sub [2, 3, 4, 5, 6, 7] (lv' := [(0, .ref b), (1, rf G 0), (2, rf G 166), (3, rf G 175), (4, rf G 176), (5, .int (nI i))]) rfl ?_
    exact kk S2 _ _ _ (e5.up (by omega) (by omega)) (by omega) (by omega)
set_option maxHeartbeats 4000000 in
theorem lc_day (hl0 : l.stackTraces = false) (X : Cx G p s m #[Value.ref b] meth c "ScarecrowRegistryLaw" wsL_law cL_law 9 rt) (hX : va_X b L xs s s.heap) (hb : b < s.heap.size) (hA : ¬ Af G b) (hi : i + 3 < L) (hL : L ≤ 2048) (hI : Inv D x S) (hD : D + 900 ≤ 900000) (hk : k + 2 ≤ 603072) (hn : n + 34 ≤ 7170154) (kk : ∀ T x' k' n', Inv (D + 900) x' T → k' ≤ k + 2 → n' ≤ n + 34 → LVW G p l e s m b below meth c Z k' n' T 2568 [(0, .ref b), (1, rf G 0), (2, rf G 166), (3, rf G 175), (4, rf G 176), (5, .int (nI i))] []) : LVW G p l e s m b below meth c Z k n S 1710 [(0, .ref b), (1, rf G 0), (2, rf G 166), (3, rf G 175), (4, rf G 176), (5, .int (nI i))] [] := by
  have h1 : vp_in (nI i + 1) L := vp_nI (a := 1) (by omega) (by omega)
  have h2 : vp_in (nI i + 2) L := vp_nI (a := 2) (by omega) (by omega)
  have h3 : vp_in (nI i + 3) L := vp_nI (a := 3) (by omega) (by omega)
  obtain ⟨v, S2, x', e1, e2, e5⟩ := sb_day hI
  refine vs_aload_n X dL_law_1710 1 rfl ?_
  refine vu_callM (bi := 0) (As := []) (st' := []) (mtX6_day hl0  _ e1) X (cwV 0 X.2.2.2.2.1 gL_law_X6_day rfl rfl rfl (by decide +kernel) ⟨Nat.le_of_ble_eq_true rfl, Nat.le_of_ble_eq_true rfl⟩) (by decide) (by decide) rfl rfl rfl (Nat.le_of_ble_eq_true rfl) dL_law_1711 ⟨by show _ ≤ 603072; omega, by show _ ≤ 7170154; omega⟩ ?_
  refine vs_aload_n X dL_law_1714 2 rfl ?_
  refine vu_callM (bi := 166) (As := []) (st' := [.int v]) (mtX7_day hl0  _ e2) X (cwV 0 X.2.2.2.2.1 gL_law_X7_day rfl rfl rfl (by decide +kernel) ⟨Nat.le_of_ble_eq_true rfl, Nat.le_of_ble_eq_true rfl⟩) (by decide) (by decide) rfl rfl rfl (Nat.le_of_ble_eq_true rfl) dL_law_1715 ⟨by show _ ≤ 603072; omega, by show _ ≤ 7170154; omega⟩ ?_
  refine vu_ieq X (tgt := 2568) dL_law_1718 (by decide) rfl ?_
  exact kk S2 _ _ _ (e5.up (by omega) (by omega)) (by omega) (by omega)
set_option maxHeartbeats 4000000 in
theorem lc_nextLook (hl0 : l.stackTraces = false) (X : Cx G p s m #[Value.ref b] meth c "ScarecrowRegistryLaw" wsL_law cL_law 9 rt) (hX : va_X b L xs s s.heap) (hb : b < s.heap.size) (hA : ¬ Af G b) (hi : i + 3 < L) (hL : L ≤ 2048) (hI : Inv D x S) (hD : D + 900 ≤ 900000) (hk : k + 2 ≤ 603072) (hn : n + 34 ≤ 7170154) (kk : ∀ T x' k' n', Inv (D + 900) x' T → k' ≤ k + 2 → n' ≤ n + 34 → LVW G p l e s m b below meth c Z k' n' T 2568 [(0, .ref b), (1, rf G 0), (2, rf G 166), (3, rf G 175), (4, rf G 176), (5, .int (nI i))] []) : LVW G p l e s m b below meth c Z k n S 1723 [(0, .ref b), (1, rf G 0), (2, rf G 166), (3, rf G 175), (4, rf G 176), (5, .int (nI i))] [] := by
  have h1 : vp_in (nI i + 1) L := vp_nI (a := 1) (by omega) (by omega)
  have h2 : vp_in (nI i + 2) L := vp_nI (a := 2) (by omega) (by omega)
  have h3 : vp_in (nI i + 3) L := vp_nI (a := 3) (by omega) (by omega)
  obtain ⟨v, S2, x', e1, e2, e5⟩ := sb_nextLook hI
  refine vs_aload_n X dL_law_1723 1 rfl ?_
  refine vu_callM (bi := 0) (As := []) (st' := []) (mtX6_nextLook hl0  _ e1) X (cwV 0 X.2.2.2.2.1 gL_law_X6_nextLook rfl rfl rfl (by decide +kernel) ⟨Nat.le_of_ble_eq_true rfl, Nat.le_of_ble_eq_true rfl⟩) (by decide) (by decide) rfl rfl rfl (Nat.le_of_ble_eq_true rfl) dL_law_1724 ⟨by show _ ≤ 603072; omega, by show _ ≤ 7170154; omega⟩ ?_
  refine vs_aload_n X dL_law_1727 2 rfl ?_
  refine vu_callM (bi := 166) (As := []) (st' := [.int v]) (mtX7_nextLook hl0  _ e2) X (cwV 0 X.2.2.2.2.1 gL_law_X7_nextLook rfl rfl rfl (by decide +kernel) ⟨Nat.le_of_ble_eq_true rfl, Nat.le_of_ble_eq_true rfl⟩) (by decide) (by decide) rfl rfl rfl (Nat.le_of_ble_eq_true rfl) dL_law_1728 ⟨by show _ ≤ 603072; omega, by show _ ≤ 7170154; omega⟩ ?_
  refine vu_ieq X (tgt := 2568) dL_law_1731 (by decide) rfl ?_
  exact kk S2 _ _ _ (e5.up (by omega) (by omega)) (by omega) (by omega)
set_option maxHeartbeats 4000000 in
theorem lc_grains (hl0 : l.stackTraces = false) (X : Cx G p s m #[Value.ref b] meth c "ScarecrowRegistryLaw" wsL_law cL_law 9 rt) (hX : va_X b L xs s s.heap) (hb : b < s.heap.size) (hA : ¬ Af G b) (hi : i + 3 < L) (hL : L ≤ 2048) (hI : Inv D x S) (hD : D + 900 ≤ 900000) (hk : k + 2 ≤ 603072) (hn : n + 34 ≤ 7170154) (kk : ∀ T x' k' n', Inv (D + 900) x' T → k' ≤ k + 2 → n' ≤ n + 34 → LVW G p l e s m b below meth c Z k' n' T 2568 [(0, .ref b), (1, rf G 0), (2, rf G 166), (3, rf G 175), (4, rf G 176), (5, .int (nI i))] []) : LVW G p l e s m b below meth c Z k n S 1736 [(0, .ref b), (1, rf G 0), (2, rf G 166), (3, rf G 175), (4, rf G 176), (5, .int (nI i))] [] := by
  have h1 : vp_in (nI i + 1) L := vp_nI (a := 1) (by omega) (by omega)
  have h2 : vp_in (nI i + 2) L := vp_nI (a := 2) (by omega) (by omega)
  have h3 : vp_in (nI i + 3) L := vp_nI (a := 3) (by omega) (by omega)
  obtain ⟨q, S1, v, S2, x', e1, e2, e3, e4, e5⟩ := st_grains (xs (ix (nI i + 1))) hI 
  refine vs_aload_n X dL_law_1736 1 rfl ?_
  refine vs_aload_n X dL_law_1737 0 rfl ?_
  refine vs_iload X dL_law_1738 5 rfl ?_
  refine vs_iconst X (v := 1) dL_law_1740 (by decide) ?_
  refine vs_iadd X dL_law_1741 ?_
  refine vu_sld X hX hb hA h1 dL_law_1742 ?_
  refine vs_aload_n X dL_law_1743 3 rfl ?_
  refine vu_callL (As := [rf G 0, .int (xs (ix (nI i + 1))), rf G 175]) (st' := []) (mtL_grains hl0 (xs (ix (nI i + 1)))) e1 X (vx_cwSW 3 X.2.2.2.2.1 gL_law_L_grains rfl rfl rfl (by decide +kernel) ⟨Nat.le_of_ble_eq_true rfl, Nat.le_of_ble_eq_true rfl⟩) rfl (Nat.le_of_ble_eq_true rfl) dL_law_1744 ⟨by show _ ≤ 603072; omega, by show _ ≤ 7170154; omega⟩ ?_
  refine vs_istore X (lv' := [(6, .int (nI q)), (0, .ref b), (1, rf G 0), (2, rf G 166), (3, rf G 175), (4, rf G 176), (5, .int (nI i))]) dL_law_1747 (by decide) rfl ?_
  refine vs_aload_n X dL_law_1749 3 rfl ?_
  refine vs_aload_n X dL_law_1750 1 rfl ?_
  refine vs_iload X dL_law_1751 6 rfl ?_
  refine vs_iconst X (v := 1) dL_law_1753 (by decide) ?_
  refine vs_iadd X dL_law_1754 ?_
  refine vu_sld X hX hb hA h1 dL_law_1755 ?_
  refine vu_callM (bi := 166) (As := [.int (xs (ix (nI i + 1)))]) (st' := []) (mtX7_grains hl0 (xs (ix (nI i + 1))) _ e2) X (cwV 1 X.2.2.2.2.1 gL_law_X7_grains rfl rfl rfl (by decide +kernel) ⟨Nat.le_of_ble_eq_true rfl, Nat.le_of_ble_eq_true rfl⟩) (by decide) (by decide) rfl rfl rfl (Nat.le_of_ble_eq_true rfl) dL_law_1756 ⟨by show _ ≤ 603072; omega, by show _ ≤ 7170154; omega⟩ ?_
  refine vs_istore X (lv' := [(7, .int v), (6, .int (nI q)), (0, .ref b), (1, rf G 0), (2, rf G 166), (3, rf G 175), (4, rf G 176), (5, .int (nI i))]) dL_law_1759 (by decide) rfl ?_
  refine vs_aload_n X dL_law_1761 4 rfl ?_
  refine vu_callM (bi := 166) (As := []) (st' := []) (mtX7_thrown hl0  _ rfl) X (cwV 0 X.2.2.2.2.1 gL_law_X7_thrown rfl rfl rfl (by decide +kernel) ⟨Nat.le_of_ble_eq_true rfl, Nat.le_of_ble_eq_true rfl⟩) (by decide) (by decide) rfl rfl rfl (Nat.le_of_ble_eq_true rfl) dL_law_1762 ⟨by show _ ≤ 603072; omega, by show _ ≤ 7170154; omega⟩ ?_
  refine vs_iload X dL_law_1765 1 rfl ?_
  refine vu_ieq X (tgt := 1772) dL_law_1767 (by decide) e3 ?_
  refine vs_iload X dL_law_1772 1 rfl ?_
  refine vu_ne X (tgt := 1789) dL_law_1774 (by decide) (fun _ => ?_) (fun h0 => ?_)
  · skip
    refine vs_goto X (tgt := 2568) dL_law_1789 (by decide) ?_
    refine vs_sub [2, 3, 4, 5, 6, 7] (lv' := [(0, .ref b), (1, rf G 0), (2, rf G 166), (3, rf G 175), (4, rf G 176), (5, .int (nI i))]) rfl ?_
    exact kk S2 _ _ _ (e5.up (by omega) (by omega)) (by omega) (by omega)
  · skip
    refine vs_aload_n X dL_law_1777 5 rfl ?_
    refine vs_iconst X (v := 0) dL_law_1778 (by decide) ?_
    refine vu_lald X dL_law_1779 ?_
    refine vs_iload X dL_law_1780 0 rfl ?_
    refine vs_i2lw X dL_law_1782 ?_
    refine vu_lcmp0 X (e4 h0) dL_law_1783 ?_
    refine vu_eq X (tgt := 1789) dL_law_1784 (by decide) (fun _ => ?_) (fun z => absurd rfl z)
    refine vs_goto X (tgt := 2568) dL_law_1789 (by decide) ?_
    refine vs_sub [2, 3, 4, 5, 6, 7] (lv' := [(0, .ref b), (1, rf G 0), (2, rf G 166), (3, rf G 175), (4, rf G 176), (5, .int (nI i))]) rfl ?_
    exact kk S2 _ _ _ (e5.up (by omega) (by omega)) (by omega) (by omega)
set_option maxHeartbeats 4000000 in
theorem lc_isGuarded (hl0 : l.stackTraces = false) (X : Cx G p s m #[Value.ref b] meth c "ScarecrowRegistryLaw" wsL_law cL_law 9 rt) (hX : va_X b L xs s s.heap) (hb : b < s.heap.size) (hA : ¬ Af G b) (hi : i + 3 < L) (hL : L ≤ 2048) (hI : Inv D x S) (hD : D + 900 ≤ 900000) (hk : k + 2 ≤ 603072) (hn : n + 34 ≤ 7170154) (kk : ∀ T x' k' n', Inv (D + 900) x' T → k' ≤ k + 2 → n' ≤ n + 34 → LVW G p l e s m b below meth c Z k' n' T 2568 [(0, .ref b), (1, rf G 0), (2, rf G 166), (3, rf G 175), (4, rf G 176), (5, .int (nI i))] []) : LVW G p l e s m b below meth c Z k n S 1792 [(0, .ref b), (1, rf G 0), (2, rf G 166), (3, rf G 175), (4, rf G 176), (5, .int (nI i))] [] := by
  have h1 : vp_in (nI i + 1) L := vp_nI (a := 1) (by omega) (by omega)
  have h2 : vp_in (nI i + 2) L := vp_nI (a := 2) (by omega) (by omega)
  have h3 : vp_in (nI i + 3) L := vp_nI (a := 3) (by omega) (by omega)
  obtain ⟨q, S1, v, S2, x', e1, e2, e3, e4, e5⟩ := st_isGuarded (xs (ix (nI i + 1))) hI 
  refine vs_aload_n X dL_law_1792 1 rfl ?_
  refine vs_aload_n X dL_law_1793 0 rfl ?_
  refine vs_iload X dL_law_1794 5 rfl ?_
  refine vs_iconst X (v := 1) dL_law_1796 (by decide) ?_
  refine vs_iadd X dL_law_1797 ?_
  refine vu_sld X hX hb hA h1 dL_law_1798 ?_
  refine vs_aload_n X dL_law_1799 3 rfl ?_
  refine vu_callL (As := [rf G 0, .int (xs (ix (nI i + 1))), rf G 175]) (st' := []) (mtL_isGuarded hl0 (xs (ix (nI i + 1)))) e1 X (vx_cwSW 3 X.2.2.2.2.1 gL_law_L_isGuarded rfl rfl rfl (by decide +kernel) ⟨Nat.le_of_ble_eq_true rfl, Nat.le_of_ble_eq_true rfl⟩) rfl (Nat.le_of_ble_eq_true rfl) dL_law_1800 ⟨by show _ ≤ 603072; omega, by show _ ≤ 7170154; omega⟩ ?_
  refine vs_istore X (lv' := [(6, .int (nI q)), (0, .ref b), (1, rf G 0), (2, rf G 166), (3, rf G 175), (4, rf G 176), (5, .int (nI i))]) dL_law_1803 (by decide) rfl ?_
  refine vs_aload_n X dL_law_1805 3 rfl ?_
  refine vs_aload_n X dL_law_1806 1 rfl ?_
  refine vs_iload X dL_law_1807 6 rfl ?_
  refine vs_iconst X (v := 1) dL_law_1809 (by decide) ?_
  refine vs_iadd X dL_law_1810 ?_
  refine vu_sld X hX hb hA h1 dL_law_1811 ?_
  refine vu_callM (bi := 166) (As := [.int (xs (ix (nI i + 1)))]) (st' := []) (mtX7_isGuarded hl0 (xs (ix (nI i + 1))) _ e2) X (cwV 1 X.2.2.2.2.1 gL_law_X7_isGuarded rfl rfl rfl (by decide +kernel) ⟨Nat.le_of_ble_eq_true rfl, Nat.le_of_ble_eq_true rfl⟩) (by decide) (by decide) rfl rfl rfl (Nat.le_of_ble_eq_true rfl) dL_law_1812 ⟨by show _ ≤ 603072; omega, by show _ ≤ 7170154; omega⟩ ?_
  refine vs_istore X (lv' := [(7, .int v), (6, .int (nI q)), (0, .ref b), (1, rf G 0), (2, rf G 166), (3, rf G 175), (4, rf G 176), (5, .int (nI i))]) dL_law_1815 (by decide) rfl ?_
  refine vs_aload_n X dL_law_1817 4 rfl ?_
  refine vu_callM (bi := 166) (As := []) (st' := []) (mtX7_thrown hl0  _ rfl) X (cwV 0 X.2.2.2.2.1 gL_law_X7_thrown rfl rfl rfl (by decide +kernel) ⟨Nat.le_of_ble_eq_true rfl, Nat.le_of_ble_eq_true rfl⟩) (by decide) (by decide) rfl rfl rfl (Nat.le_of_ble_eq_true rfl) dL_law_1818 ⟨by show _ ≤ 603072; omega, by show _ ≤ 7170154; omega⟩ ?_
  refine vs_iload X dL_law_1821 1 rfl ?_
  refine vu_ieq X (tgt := 1828) dL_law_1823 (by decide) e3 ?_
  refine vs_iload X dL_law_1828 1 rfl ?_
  refine vu_ne X (tgt := 1852) dL_law_1830 (by decide) (fun _ => ?_) (fun h0 => ?_)
  · skip
    refine vs_goto X (tgt := 2568) dL_law_1852 (by decide) ?_
    refine vs_sub [2, 3, 4, 5, 6, 7] (lv' := [(0, .ref b), (1, rf G 0), (2, rf G 166), (3, rf G 175), (4, rf G 176), (5, .int (nI i))]) rfl ?_
    exact kk S2 _ _ _ (e5.up (by omega) (by omega)) (by omega) (by omega)
  · skip
    refine vs_aload_n X dL_law_1833 5 rfl ?_
    refine vs_iconst X (v := 0) dL_law_1834 (by decide) ?_
    refine vu_lald X dL_law_1835 ?_
    refine vs_iload X dL_law_1836 0 rfl ?_
    refine vu_eq X (tgt := 1845) dL_law_1838 (by decide) (fun hv => ?_) (fun hv => ?_)
    · skip
      refine vs_lconst X (v := 0) dL_law_1845 rfl ?_
      refine vu_lcmp0 X ((e4 h0).trans (by rw [hv]; rfl)) dL_law_1846 ?_
      refine vu_eq X (tgt := 1852) dL_law_1847 (by decide) (fun _ => ?_) (fun z => absurd rfl z)
      refine vs_goto X (tgt := 2568) dL_law_1852 (by decide) ?_
      refine vs_sub [2, 3, 4, 5, 6, 7] (lv' := [(0, .ref b), (1, rf G 0), (2, rf G 166), (3, rf G 175), (4, rf G 176), (5, .int (nI i))]) rfl ?_
      exact kk S2 _ _ _ (e5.up (by omega) (by omega)) (by omega) (by omega)
    · skip
      have hv1 : v = 1 := (z_isGuarded e2).resolve_left hv
      refine vs_lconst X (v := 1) dL_law_1841 rfl ?_
      refine vs_goto X (tgt := 1846) dL_law_1842 (by decide) ?_
      refine vu_lcmp0 X ((e4 h0).trans (by rw [hv1]; rfl)) dL_law_1846 ?_
      refine vu_eq X (tgt := 1852) dL_law_1847 (by decide) (fun _ => ?_) (fun z => absurd rfl z)
      refine vs_goto X (tgt := 2568) dL_law_1852 (by decide) ?_
      refine vs_sub [2, 3, 4, 5, 6, 7] (lv' := [(0, .ref b), (1, rf G 0), (2, rf G 166), (3, rf G 175), (4, rf G 176), (5, .int (nI i))]) rfl ?_
      exact kk S2 _ _ _ (e5.up (by omega) (by omega)) (by omega) (by omega)
set_option maxHeartbeats 4000000 in
theorem lc_guardedFields (hl0 : l.stackTraces = false) (X : Cx G p s m #[Value.ref b] meth c "ScarecrowRegistryLaw" wsL_law cL_law 9 rt) (hX : va_X b L xs s s.heap) (hb : b < s.heap.size) (hA : ¬ Af G b) (hi : i + 3 < L) (hL : L ≤ 2048) (hI : Inv D x S) (hD : D + 900 ≤ 900000) (hk : k + 2 ≤ 603072) (hn : n + 34 ≤ 7170154) (kk : ∀ T x' k' n', Inv (D + 900) x' T → k' ≤ k + 2 → n' ≤ n + 34 → LVW G p l e s m b below meth c Z k' n' T 2568 [(0, .ref b), (1, rf G 0), (2, rf G 166), (3, rf G 175), (4, rf G 176), (5, .int (nI i))] []) : LVW G p l e s m b below meth c Z k n S 1855 [(0, .ref b), (1, rf G 0), (2, rf G 166), (3, rf G 175), (4, rf G 176), (5, .int (nI i))] [] := by
  have h1 : vp_in (nI i + 1) L := vp_nI (a := 1) (by omega) (by omega)
  have h2 : vp_in (nI i + 2) L := vp_nI (a := 2) (by omega) (by omega)
  have h3 : vp_in (nI i + 3) L := vp_nI (a := 3) (by omega) (by omega)
  obtain ⟨v, S2, x', e1, e2, e5⟩ := sb_guardedFields hI
  refine vs_aload_n X dL_law_1855 1 rfl ?_
  refine vu_callM (bi := 0) (As := []) (st' := []) (mtX6_guardedFields hl0  _ e1) X (cwV 0 X.2.2.2.2.1 gL_law_X6_guardedFields rfl rfl rfl (by decide +kernel) ⟨Nat.le_of_ble_eq_true rfl, Nat.le_of_ble_eq_true rfl⟩) (by decide) (by decide) rfl rfl rfl (Nat.le_of_ble_eq_true rfl) dL_law_1856 ⟨by show _ ≤ 603072; omega, by show _ ≤ 7170154; omega⟩ ?_
  refine vs_aload_n X dL_law_1859 2 rfl ?_
  refine vu_callM (bi := 166) (As := []) (st' := [.int v]) (mtX7_guardedFields hl0  _ e2) X (cwV 0 X.2.2.2.2.1 gL_law_X7_guardedFields rfl rfl rfl (by decide +kernel) ⟨Nat.le_of_ble_eq_true rfl, Nat.le_of_ble_eq_true rfl⟩) (by decide) (by decide) rfl rfl rfl (Nat.le_of_ble_eq_true rfl) dL_law_1860 ⟨by show _ ≤ 603072; omega, by show _ ≤ 7170154; omega⟩ ?_
  refine vu_ieq X (tgt := 2568) dL_law_1863 (by decide) rfl ?_
  exact kk S2 _ _ _ (e5.up (by omega) (by omega)) (by omega) (by omega)
set_option maxHeartbeats 4000000 in
theorem lc_guardedFieldsByScarecrows (hl0 : l.stackTraces = false) (X : Cx G p s m #[Value.ref b] meth c "ScarecrowRegistryLaw" wsL_law cL_law 9 rt) (hX : va_X b L xs s s.heap) (hb : b < s.heap.size) (hA : ¬ Af G b) (hi : i + 3 < L) (hL : L ≤ 2048) (hI : Inv D x S) (hD : D + 900 ≤ 900000) (hk : k + 2 ≤ 603072) (hn : n + 34 ≤ 7170154) (kk : ∀ T x' k' n', Inv (D + 900) x' T → k' ≤ k + 2 → n' ≤ n + 34 → LVW G p l e s m b below meth c Z k' n' T 2568 [(0, .ref b), (1, rf G 0), (2, rf G 166), (3, rf G 175), (4, rf G 176), (5, .int (nI i))] []) : LVW G p l e s m b below meth c Z k n S 1868 [(0, .ref b), (1, rf G 0), (2, rf G 166), (3, rf G 175), (4, rf G 176), (5, .int (nI i))] [] := by
  have h1 : vp_in (nI i + 1) L := vp_nI (a := 1) (by omega) (by omega)
  have h2 : vp_in (nI i + 2) L := vp_nI (a := 2) (by omega) (by omega)
  have h3 : vp_in (nI i + 3) L := vp_nI (a := 3) (by omega) (by omega)
  obtain ⟨v, S2, x', e1, e2, e5⟩ := sb_guardedFieldsByScarecrows hI
  refine vs_aload_n X dL_law_1868 1 rfl ?_
  refine vu_callM (bi := 0) (As := []) (st' := []) (mtX6_guardedFieldsByScarecrows hl0  _ e1) X (cwV 0 X.2.2.2.2.1 gL_law_X6_guardedFieldsByScarecrows rfl rfl rfl (by decide +kernel) ⟨Nat.le_of_ble_eq_true rfl, Nat.le_of_ble_eq_true rfl⟩) (by decide) (by decide) rfl rfl rfl (Nat.le_of_ble_eq_true rfl) dL_law_1869 ⟨by show _ ≤ 603072; omega, by show _ ≤ 7170154; omega⟩ ?_
  refine vs_aload_n X dL_law_1872 2 rfl ?_
  refine vu_callM (bi := 166) (As := []) (st' := [.int v]) (mtX7_guardedFieldsByScarecrows hl0  _ e2) X (cwV 0 X.2.2.2.2.1 gL_law_X7_guardedFieldsByScarecrows rfl rfl rfl (by decide +kernel) ⟨Nat.le_of_ble_eq_true rfl, Nat.le_of_ble_eq_true rfl⟩) (by decide) (by decide) rfl rfl rfl (Nat.le_of_ble_eq_true rfl) dL_law_1873 ⟨by show _ ≤ 603072; omega, by show _ ≤ 7170154; omega⟩ ?_
  refine vu_ieq X (tgt := 2568) dL_law_1876 (by decide) rfl ?_
  exact kk S2 _ _ _ (e5.up (by omega) (by omega)) (by omega) (by omega)
set_option maxHeartbeats 4000000 in
theorem lc_totalGrains (hl0 : l.stackTraces = false) (X : Cx G p s m #[Value.ref b] meth c "ScarecrowRegistryLaw" wsL_law cL_law 9 rt) (hX : va_X b L xs s s.heap) (hb : b < s.heap.size) (hA : ¬ Af G b) (hi : i + 3 < L) (hL : L ≤ 2048) (hI : Inv D x S) (hD : D + 900 ≤ 900000) (hk : k + 2 ≤ 603072) (hn : n + 34 ≤ 7170154) (kk : ∀ T x' k' n', Inv (D + 900) x' T → k' ≤ k + 2 → n' ≤ n + 34 → LVW G p l e s m b below meth c Z k' n' T 2568 [(0, .ref b), (1, rf G 0), (2, rf G 166), (3, rf G 175), (4, rf G 176), (5, .int (nI i))] []) : LVW G p l e s m b below meth c Z k n S 1881 [(0, .ref b), (1, rf G 0), (2, rf G 166), (3, rf G 175), (4, rf G 176), (5, .int (nI i))] [] := by
  have h1 : vp_in (nI i + 1) L := vp_nI (a := 1) (by omega) (by omega)
  have h2 : vp_in (nI i + 2) L := vp_nI (a := 2) (by omega) (by omega)
  have h3 : vp_in (nI i + 3) L := vp_nI (a := 3) (by omega) (by omega)
  obtain ⟨v, S2, x', e1, e2, e5⟩ := sb_totalGrains hI
  refine vs_aload_n X dL_law_1881 1 rfl ?_
  refine vu_callM (bi := 0) (As := []) (st' := []) (mtX6_totalGrains hl0  _ e1) X (cwV 0 X.2.2.2.2.1 gL_law_X6_totalGrains rfl rfl rfl (by decide +kernel) ⟨Nat.le_of_ble_eq_true rfl, Nat.le_of_ble_eq_true rfl⟩) (by decide) (by decide) rfl rfl rfl (Nat.le_of_ble_eq_true rfl) dL_law_1882 ⟨by show _ ≤ 603072; omega, by show _ ≤ 7170154; omega⟩ ?_
  refine vs_aload_n X dL_law_1885 2 rfl ?_
  refine vu_callM (bi := 166) (As := []) (st' := [.int v]) (mtX7_totalGrains hl0  _ e2) X (cwV 0 X.2.2.2.2.1 gL_law_X7_totalGrains rfl rfl rfl (by decide +kernel) ⟨Nat.le_of_ble_eq_true rfl, Nat.le_of_ble_eq_true rfl⟩) (by decide) (by decide) rfl rfl rfl (Nat.le_of_ble_eq_true rfl) dL_law_1886 ⟨by show _ ≤ 603072; omega, by show _ ≤ 7170154; omega⟩ ?_
  refine vu_ieq X (tgt := 2568) dL_law_1889 (by decide) rfl ?_
  exact kk S2 _ _ _ (e5.up (by omega) (by omega)) (by omega) (by omega)
set_option maxHeartbeats 4000000 in
theorem lc_eaten (hl0 : l.stackTraces = false) (X : Cx G p s m #[Value.ref b] meth c "ScarecrowRegistryLaw" wsL_law cL_law 9 rt) (hX : va_X b L xs s s.heap) (hb : b < s.heap.size) (hA : ¬ Af G b) (hi : i + 3 < L) (hL : L ≤ 2048) (hI : Inv D x S) (hD : D + 900 ≤ 900000) (hk : k + 2 ≤ 603072) (hn : n + 34 ≤ 7170154) (kk : ∀ T x' k' n', Inv (D + 900) x' T → k' ≤ k + 2 → n' ≤ n + 34 → LVW G p l e s m b below meth c Z k' n' T 2568 [(0, .ref b), (1, rf G 0), (2, rf G 166), (3, rf G 175), (4, rf G 176), (5, .int (nI i))] []) : LVW G p l e s m b below meth c Z k n S 1894 [(0, .ref b), (1, rf G 0), (2, rf G 166), (3, rf G 175), (4, rf G 176), (5, .int (nI i))] [] := by
  have h1 : vp_in (nI i + 1) L := vp_nI (a := 1) (by omega) (by omega)
  have h2 : vp_in (nI i + 2) L := vp_nI (a := 2) (by omega) (by omega)
  have h3 : vp_in (nI i + 3) L := vp_nI (a := 3) (by omega) (by omega)
  obtain ⟨v, S2, x', e1, e2, e5⟩ := sb_eaten hI
  refine vs_aload_n X dL_law_1894 1 rfl ?_
  refine vu_callM (bi := 0) (As := []) (st' := []) (mtX6_eaten hl0  _ e1) X (cwV 0 X.2.2.2.2.1 gL_law_X6_eaten rfl rfl rfl (by decide +kernel) ⟨Nat.le_of_ble_eq_true rfl, Nat.le_of_ble_eq_true rfl⟩) (by decide) (by decide) rfl rfl rfl (Nat.le_of_ble_eq_true rfl) dL_law_1895 ⟨by show _ ≤ 603072; omega, by show _ ≤ 7170154; omega⟩ ?_
  refine vs_aload_n X dL_law_1898 2 rfl ?_
  refine vu_callM (bi := 166) (As := []) (st' := [.int v]) (mtX7_eaten hl0  _ e2) X (cwV 0 X.2.2.2.2.1 gL_law_X7_eaten rfl rfl rfl (by decide +kernel) ⟨Nat.le_of_ble_eq_true rfl, Nat.le_of_ble_eq_true rfl⟩) (by decide) (by decide) rfl rfl rfl (Nat.le_of_ble_eq_true rfl) dL_law_1899 ⟨by show _ ≤ 603072; omega, by show _ ≤ 7170154; omega⟩ ?_
  refine vu_ieq X (tgt := 2568) dL_law_1902 (by decide) rfl ?_
  exact kk S2 _ _ _ (e5.up (by omega) (by omega)) (by omega) (by omega)
set_option maxHeartbeats 4000000 in
theorem lc_sown (hl0 : l.stackTraces = false) (X : Cx G p s m #[Value.ref b] meth c "ScarecrowRegistryLaw" wsL_law cL_law 9 rt) (hX : va_X b L xs s s.heap) (hb : b < s.heap.size) (hA : ¬ Af G b) (hi : i + 3 < L) (hL : L ≤ 2048) (hI : Inv D x S) (hD : D + 900 ≤ 900000) (hk : k + 2 ≤ 603072) (hn : n + 34 ≤ 7170154) (kk : ∀ T x' k' n', Inv (D + 900) x' T → k' ≤ k + 2 → n' ≤ n + 34 → LVW G p l e s m b below meth c Z k' n' T 2568 [(0, .ref b), (1, rf G 0), (2, rf G 166), (3, rf G 175), (4, rf G 176), (5, .int (nI i))] []) : LVW G p l e s m b below meth c Z k n S 1907 [(0, .ref b), (1, rf G 0), (2, rf G 166), (3, rf G 175), (4, rf G 176), (5, .int (nI i))] [] := by
  have h1 : vp_in (nI i + 1) L := vp_nI (a := 1) (by omega) (by omega)
  have h2 : vp_in (nI i + 2) L := vp_nI (a := 2) (by omega) (by omega)
  have h3 : vp_in (nI i + 3) L := vp_nI (a := 3) (by omega) (by omega)
  obtain ⟨v, S2, x', e1, e2, e5⟩ := sb_sown hI
  refine vs_aload_n X dL_law_1907 1 rfl ?_
  refine vu_callM (bi := 0) (As := []) (st' := []) (mtX6_sown hl0  _ e1) X (cwV 0 X.2.2.2.2.1 gL_law_X6_sown rfl rfl rfl (by decide +kernel) ⟨Nat.le_of_ble_eq_true rfl, Nat.le_of_ble_eq_true rfl⟩) (by decide) (by decide) rfl rfl rfl (Nat.le_of_ble_eq_true rfl) dL_law_1908 ⟨by show _ ≤ 603072; omega, by show _ ≤ 7170154; omega⟩ ?_
  refine vs_aload_n X dL_law_1911 2 rfl ?_
  refine vu_callM (bi := 166) (As := []) (st' := [.int v]) (mtX7_sown hl0  _ e2) X (cwV 0 X.2.2.2.2.1 gL_law_X7_sown rfl rfl rfl (by decide +kernel) ⟨Nat.le_of_ble_eq_true rfl, Nat.le_of_ble_eq_true rfl⟩) (by decide) (by decide) rfl rfl rfl (Nat.le_of_ble_eq_true rfl) dL_law_1912 ⟨by show _ ≤ 603072; omega, by show _ ≤ 7170154; omega⟩ ?_
  refine vu_ieq X (tgt := 2568) dL_law_1915 (by decide) rfl ?_
  exact kk S2 _ _ _ (e5.up (by omega) (by omega)) (by omega) (by omega)
set_option maxHeartbeats 4000000 in
theorem lc_meanDaysLeft (hl0 : l.stackTraces = false) (X : Cx G p s m #[Value.ref b] meth c "ScarecrowRegistryLaw" wsL_law cL_law 9 rt) (hX : va_X b L xs s s.heap) (hb : b < s.heap.size) (hA : ¬ Af G b) (hi : i + 3 < L) (hL : L ≤ 2048) (hI : Inv D x S) (hD : D + 900 ≤ 900000) (hk : k + 2 ≤ 603072) (hn : n + 34 ≤ 7170154) (kk : ∀ T x' k' n', Inv (D + 900) x' T → k' ≤ k + 2 → n' ≤ n + 34 → LVW G p l e s m b below meth c Z k' n' T 2568 [(0, .ref b), (1, rf G 0), (2, rf G 166), (3, rf G 175), (4, rf G 176), (5, .int (nI i))] []) : LVW G p l e s m b below meth c Z k n S 1920 [(0, .ref b), (1, rf G 0), (2, rf G 166), (3, rf G 175), (4, rf G 176), (5, .int (nI i))] [] := by
  have h1 : vp_in (nI i + 1) L := vp_nI (a := 1) (by omega) (by omega)
  have h2 : vp_in (nI i + 2) L := vp_nI (a := 2) (by omega) (by omega)
  have h3 : vp_in (nI i + 3) L := vp_nI (a := 3) (by omega) (by omega)
  obtain ⟨q, S1, v, S2, e1, e2, e3, e4, e5⟩ := st_meanDaysLeft hI
  refine vs_aload_n X dL_law_1920 1 rfl ?_
  refine vs_aload X dL_law_1921 4 rfl ?_
  refine vu_callL (As := [rf G 0, rf G 176]) (st' := []) (mtL_meanDaysLeft hl0 ) e1 X (vx_cwSW 2 X.2.2.2.2.1 gL_law_L_meanDaysLeft rfl rfl rfl (by decide +kernel) ⟨Nat.le_of_ble_eq_true rfl, Nat.le_of_ble_eq_true rfl⟩) rfl (Nat.le_of_ble_eq_true rfl) dL_law_1923 ⟨by show _ ≤ 603072; omega, by show _ ≤ 7170154; omega⟩ ?_
  refine vs_istore X (lv' := [(6, .int (nI q)), (0, .ref b), (1, rf G 0), (2, rf G 166), (3, rf G 175), (4, rf G 176), (5, .int (nI i))]) dL_law_1926 (by decide) rfl ?_
  refine vs_aload_n X dL_law_1928 3 rfl ?_
  refine vu_callMD (bi := 166) (As := []) (st' := []) (mtX7_meanDaysLeft hl0  _ e2) X (cwV 0 X.2.2.2.2.1 gL_law_X7_meanDaysLeft rfl rfl rfl (by decide +kernel) ⟨Nat.le_of_ble_eq_true rfl, Nat.le_of_ble_eq_true rfl⟩) (by decide) (by decide) rfl rfl rfl (Nat.le_of_ble_eq_true rfl) dL_law_1929 ⟨by show _ ≤ 603072; omega, by show _ ≤ 7170154; omega⟩ ?_
  refine vu_dstore X (lv' := [(7, .double v), (6, .int (nI q)), (0, .ref b), (1, rf G 0), (2, rf G 166), (3, rf G 175), (4, rf G 176), (5, .int (nI i))]) dL_law_1932 (by decide) rfl ?_
  refine vs_aload_n X dL_law_1934 4 rfl ?_
  refine vu_callM (bi := 166) (As := []) (st' := []) (mtX7_thrown hl0  _ rfl) X (cwV 0 X.2.2.2.2.1 gL_law_X7_thrown rfl rfl rfl (by decide +kernel) ⟨Nat.le_of_ble_eq_true rfl, Nat.le_of_ble_eq_true rfl⟩) (by decide) (by decide) rfl rfl rfl (Nat.le_of_ble_eq_true rfl) dL_law_1935 ⟨by show _ ≤ 603072; omega, by show _ ≤ 7170154; omega⟩ ?_
  refine vs_iload X dL_law_1938 1 rfl ?_
  refine vu_ieq X (tgt := 1945) dL_law_1940 (by decide) e3 ?_
  refine vs_iload X dL_law_1945 1 rfl ?_
  refine vu_ne X (tgt := 1982) dL_law_1947 (by decide) (fun _ => ?_) (fun h0 => ?_)
  · skip
    refine vs_goto X (tgt := 2568) dL_law_1982 (by decide) ?_
    refine vs_sub [2, 3, 4, 5, 6, 7] (lv' := [(0, .ref b), (1, rf G 0), (2, rf G 166), (3, rf G 175), (4, rf G 176), (5, .int (nI i))]) rfl ?_
    exact kk S2 _ _ _ (e5.up (by omega) (by omega)) (by omega) (by omega)
  · skip
    refine vs_aload X dL_law_1950 6 rfl ?_
    refine vs_iconst X (v := 0) dL_law_1952 (by decide) ?_
    refine vu_dald X dL_law_1953 ?_
    refine vu_dload X dL_law_1954 0 rfl ?_
    refine vu_dcmp X dL_law_1956 ?_
    have hc : Op.cmpValue (FP.dcmp S2.2.2.2.2 v) .l = 0 := by rw [(e4 h0).1, dc_self _ (e4 h0).2]; rfl
    refine vu_eq X (tgt := 1982) dL_law_1957 (by decide) (fun _ => ?_) (fun z => absurd hc z)
    refine vs_goto X (tgt := 2568) dL_law_1982 (by decide) ?_
    refine vs_sub [2, 3, 4, 5, 6, 7] (lv' := [(0, .ref b), (1, rf G 0), (2, rf G 166), (3, rf G 175), (4, rf G 176), (5, .int (nI i))]) rfl ?_
    exact kk S2 _ _ _ (e5.up (by omega) (by omega)) (by omega) (by omega)
set_option maxHeartbeats 4000000 in
theorem lc_inForceShare (hl0 : l.stackTraces = false) (X : Cx G p s m #[Value.ref b] meth c "ScarecrowRegistryLaw" wsL_law cL_law 9 rt) (hX : va_X b L xs s s.heap) (hb : b < s.heap.size) (hA : ¬ Af G b) (hi : i + 3 < L) (hL : L ≤ 2048) (hI : Inv D x S) (hD : D + 900 ≤ 900000) (hk : k + 2 ≤ 603072) (hn : n + 34 ≤ 7170154) (kk : ∀ T x' k' n', Inv (D + 900) x' T → k' ≤ k + 2 → n' ≤ n + 34 → LVW G p l e s m b below meth c Z k' n' T 2568 [(0, .ref b), (1, rf G 0), (2, rf G 166), (3, rf G 175), (4, rf G 176), (5, .int (nI i))] []) : LVW G p l e s m b below meth c Z k n S 1985 [(0, .ref b), (1, rf G 0), (2, rf G 166), (3, rf G 175), (4, rf G 176), (5, .int (nI i))] [] := by
  have h1 : vp_in (nI i + 1) L := vp_nI (a := 1) (by omega) (by omega)
  have h2 : vp_in (nI i + 2) L := vp_nI (a := 2) (by omega) (by omega)
  have h3 : vp_in (nI i + 3) L := vp_nI (a := 3) (by omega) (by omega)
  obtain ⟨q, S1, v, S2, e1, e2, e3, e4, e5⟩ := st_inForceShare hI
  refine vs_aload_n X dL_law_1985 1 rfl ?_
  refine vs_aload X dL_law_1986 4 rfl ?_
  refine vu_callL (As := [rf G 0, rf G 176]) (st' := []) (mtL_inForceShare hl0 ) e1 X (vx_cwSW 2 X.2.2.2.2.1 gL_law_L_inForceShare rfl rfl rfl (by decide +kernel) ⟨Nat.le_of_ble_eq_true rfl, Nat.le_of_ble_eq_true rfl⟩) rfl (Nat.le_of_ble_eq_true rfl) dL_law_1988 ⟨by show _ ≤ 603072; omega, by show _ ≤ 7170154; omega⟩ ?_
  refine vs_istore X (lv' := [(6, .int (nI q)), (0, .ref b), (1, rf G 0), (2, rf G 166), (3, rf G 175), (4, rf G 176), (5, .int (nI i))]) dL_law_1991 (by decide) rfl ?_
  refine vs_aload_n X dL_law_1993 3 rfl ?_
  refine vu_callMF (bi := 166) (As := []) (st' := []) (mtX7_inForceShare hl0  _ e2) X (cwV 0 X.2.2.2.2.1 gL_law_X7_inForceShare rfl rfl rfl (by decide +kernel) ⟨Nat.le_of_ble_eq_true rfl, Nat.le_of_ble_eq_true rfl⟩) (by decide) (by decide) rfl rfl rfl (Nat.le_of_ble_eq_true rfl) dL_law_1994 ⟨by show _ ≤ 603072; omega, by show _ ≤ 7170154; omega⟩ ?_
  refine vu_fstore X (lv' := [(7, .float v), (6, .int (nI q)), (0, .ref b), (1, rf G 0), (2, rf G 166), (3, rf G 175), (4, rf G 176), (5, .int (nI i))]) dL_law_1997 (by decide) rfl ?_
  refine vs_aload_n X dL_law_1999 4 rfl ?_
  refine vu_callM (bi := 166) (As := []) (st' := []) (mtX7_thrown hl0  _ rfl) X (cwV 0 X.2.2.2.2.1 gL_law_X7_thrown rfl rfl rfl (by decide +kernel) ⟨Nat.le_of_ble_eq_true rfl, Nat.le_of_ble_eq_true rfl⟩) (by decide) (by decide) rfl rfl rfl (Nat.le_of_ble_eq_true rfl) dL_law_2000 ⟨by show _ ≤ 603072; omega, by show _ ≤ 7170154; omega⟩ ?_
  refine vs_iload X dL_law_2003 1 rfl ?_
  refine vu_ieq X (tgt := 2010) dL_law_2005 (by decide) e3 ?_
  refine vs_iload X dL_law_2010 1 rfl ?_
  refine vu_ne X (tgt := 2048) dL_law_2012 (by decide) (fun _ => ?_) (fun h0 => ?_)
  · skip
    refine vs_goto X (tgt := 2568) dL_law_2048 (by decide) ?_
    refine vs_sub [2, 3, 4, 5, 6, 7] (lv' := [(0, .ref b), (1, rf G 0), (2, rf G 166), (3, rf G 175), (4, rf G 176), (5, .int (nI i))]) rfl ?_
    exact kk S2 _ _ _ (e5.up (by omega) (by omega)) (by omega) (by omega)
  · skip
    refine vs_aload X dL_law_2015 6 rfl ?_
    refine vs_iconst X (v := 0) dL_law_2017 (by decide) ?_
    refine vu_dald X dL_law_2018 ?_
    refine vu_fload X dL_law_2019 0 rfl ?_
    refine vu_f2d X (e4 h0).2 dL_law_2021 ?_
    refine vu_dcmp X dL_law_2022 ?_
    have hc : Op.cmpValue (FP.dcmp S2.2.2.2.2 (FP.f2d v)) .l = 0 := by rw [(e4 h0).1, dc_self _ (e4 h0).2]; rfl
    refine vu_eq X (tgt := 2048) dL_law_2023 (by decide) (fun _ => ?_) (fun z => absurd hc z)
    refine vs_goto X (tgt := 2568) dL_law_2048 (by decide) ?_
    refine vs_sub [2, 3, 4, 5, 6, 7] (lv' := [(0, .ref b), (1, rf G 0), (2, rf G 166), (3, rf G 175), (4, rf G 176), (5, .int (nI i))]) rfl ?_
    exact kk S2 _ _ _ (e5.up (by omega) (by omega)) (by omega) (by omega)
set_option maxHeartbeats 4000000 in
theorem lc_feed (hl0 : l.stackTraces = false) (X : Cx G p s m #[Value.ref b] meth c "ScarecrowRegistryLaw" wsL_law cL_law 9 rt) (hX : va_X b L xs s s.heap) (hb : b < s.heap.size) (hA : ¬ Af G b) (hi : i + 3 < L) (hL : L ≤ 2048) (hI : Inv D x S) (hD : D + 900 ≤ 900000) (hk : k + 2 ≤ 603072) (hn : n + 34 ≤ 7170154) (kk : ∀ T x' k' n', Inv (D + 900) x' T → k' ≤ k + 2 → n' ≤ n + 34 → LVW G p l e s m b below meth c Z k' n' T 2568 [(0, .ref b), (1, rf G 0), (2, rf G 166), (3, rf G 175), (4, rf G 176), (5, .int (nI i))] []) : LVW G p l e s m b below meth c Z k n S 2051 [(0, .ref b), (1, rf G 0), (2, rf G 166), (3, rf G 175), (4, rf G 176), (5, .int (nI i))] [] := by
  have h1 : vp_in (nI i + 1) L := vp_nI (a := 1) (by omega) (by omega)
  have h2 : vp_in (nI i + 2) L := vp_nI (a := 2) (by omega) (by omega)
  have h3 : vp_in (nI i + 3) L := vp_nI (a := 3) (by omega) (by omega)
  obtain ⟨q, S1, v, S2, x', e1, e2, e3, e4, e5⟩ := st_feed (((xs (ix (nI i + 1))).toUInt32 % 65536).toInt32) hI 
  refine vs_aload_n X dL_law_2051 1 rfl ?_
  refine vs_aload_n X dL_law_2052 0 rfl ?_
  refine vs_iload X dL_law_2053 5 rfl ?_
  refine vs_iconst X (v := 1) dL_law_2055 (by decide) ?_
  refine vs_iadd X dL_law_2056 ?_
  refine vu_sld X hX hb hA h1 dL_law_2057 ?_
  refine vs_i2c X (v := ((((xs (ix (nI i + 1)))).toUInt32 % 65536).toInt32)) dL_law_2058 rfl ?_
  refine vs_aload_n X dL_law_2059 3 rfl ?_
  refine vu_callL (As := [rf G 0, .int ((((xs (ix (nI i + 1)))).toUInt32 % 65536).toInt32), rf G 175]) (st' := []) (mtL_feed hl0 ((((xs (ix (nI i + 1)))).toUInt32 % 65536).toInt32)) e1 X (vx_cwSW 3 X.2.2.2.2.1 gL_law_L_feed rfl rfl rfl (by decide +kernel) ⟨Nat.le_of_ble_eq_true rfl, Nat.le_of_ble_eq_true rfl⟩) rfl (Nat.le_of_ble_eq_true rfl) dL_law_2060 ⟨by show _ ≤ 603072; omega, by show _ ≤ 7170154; omega⟩ ?_
  refine vs_istore X (lv' := [(6, .int (nI q)), (0, .ref b), (1, rf G 0), (2, rf G 166), (3, rf G 175), (4, rf G 176), (5, .int (nI i))]) dL_law_2063 (by decide) rfl ?_
  refine vs_aload_n X dL_law_2065 3 rfl ?_
  refine vs_aload_n X dL_law_2066 1 rfl ?_
  refine vs_iload X dL_law_2067 6 rfl ?_
  refine vs_iconst X (v := 1) dL_law_2069 (by decide) ?_
  refine vs_iadd X dL_law_2070 ?_
  refine vu_sld X hX hb hA h1 dL_law_2071 ?_
  refine vs_i2c X (v := ((((xs (ix (nI i + 1)))).toUInt32 % 65536).toInt32)) dL_law_2072 rfl ?_
  refine vu_callM (bi := 166) (As := [.int ((((xs (ix (nI i + 1)))).toUInt32 % 65536).toInt32)]) (st' := []) (mtX7_feed hl0 ((((xs (ix (nI i + 1)))).toUInt32 % 65536).toInt32) _ e2) X (cwV 1 X.2.2.2.2.1 gL_law_X7_feed rfl rfl rfl (by decide +kernel) ⟨Nat.le_of_ble_eq_true rfl, Nat.le_of_ble_eq_true rfl⟩) (by decide) (by decide) rfl rfl rfl (Nat.le_of_ble_eq_true rfl) dL_law_2073 ⟨by show _ ≤ 603072; omega, by show _ ≤ 7170154; omega⟩ ?_
  refine vs_istore X (lv' := [(7, .int v), (6, .int (nI q)), (0, .ref b), (1, rf G 0), (2, rf G 166), (3, rf G 175), (4, rf G 176), (5, .int (nI i))]) dL_law_2076 (by decide) rfl ?_
  refine vs_aload_n X dL_law_2078 4 rfl ?_
  refine vu_callM (bi := 166) (As := []) (st' := []) (mtX7_thrown hl0  _ rfl) X (cwV 0 X.2.2.2.2.1 gL_law_X7_thrown rfl rfl rfl (by decide +kernel) ⟨Nat.le_of_ble_eq_true rfl, Nat.le_of_ble_eq_true rfl⟩) (by decide) (by decide) rfl rfl rfl (Nat.le_of_ble_eq_true rfl) dL_law_2079 ⟨by show _ ≤ 603072; omega, by show _ ≤ 7170154; omega⟩ ?_
  refine vs_iload X dL_law_2082 1 rfl ?_
  refine vu_ieq X (tgt := 2089) dL_law_2084 (by decide) e3 ?_
  refine vs_iload X dL_law_2089 1 rfl ?_
  refine vu_ne X (tgt := 2106) dL_law_2091 (by decide) (fun _ => ?_) (fun h0 => ?_)
  · skip
    refine vs_goto X (tgt := 2568) dL_law_2106 (by decide) ?_
    refine vs_sub [2, 3, 4, 5, 6, 7] (lv' := [(0, .ref b), (1, rf G 0), (2, rf G 166), (3, rf G 175), (4, rf G 176), (5, .int (nI i))]) rfl ?_
    exact kk S2 _ _ _ (e5.up (by omega) (by omega)) (by omega) (by omega)
  · skip
    refine vs_aload_n X dL_law_2094 5 rfl ?_
    refine vs_iconst X (v := 0) dL_law_2095 (by decide) ?_
    refine vu_lald X dL_law_2096 ?_
    refine vs_iload X dL_law_2097 0 rfl ?_
    refine vs_i2lw X dL_law_2099 ?_
    refine vu_lcmp0 X (e4 h0) dL_law_2100 ?_
    refine vu_eq X (tgt := 2106) dL_law_2101 (by decide) (fun _ => ?_) (fun z => absurd rfl z)
    refine vs_goto X (tgt := 2568) dL_law_2106 (by decide) ?_
    refine vs_sub [2, 3, 4, 5, 6, 7] (lv' := [(0, .ref b), (1, rf G 0), (2, rf G 166), (3, rf G 175), (4, rf G 176), (5, .int (nI i))]) rfl ?_
    exact kk S2 _ _ _ (e5.up (by omega) (by omega)) (by omega) (by omega)
set_option maxHeartbeats 4000000 in
theorem lc_execute (hl0 : l.stackTraces = false) (X : Cx G p s m #[Value.ref b] meth c "ScarecrowRegistryLaw" wsL_law cL_law 9 rt) (hX : va_X b L xs s s.heap) (hb : b < s.heap.size) (hA : ¬ Af G b) (hi : i + 3 < L) (hL : L ≤ 2048) (hI : Inv D x S) (hD : D + 900 ≤ 900000) (hk : k + 2 ≤ 603072) (hn : n + 34 ≤ 7170154) (kk : ∀ T x' k' n', Inv (D + 900) x' T → k' ≤ k + 2 → n' ≤ n + 34 → LVW G p l e s m b below meth c Z k' n' T 2568 [(0, .ref b), (1, rf G 0), (2, rf G 166), (3, rf G 175), (4, rf G 176), (5, .int (nI i))] []) : LVW G p l e s m b below meth c Z k n S 2109 [(0, .ref b), (1, rf G 0), (2, rf G 166), (3, rf G 175), (4, rf G 176), (5, .int (nI i))] [] := by
  have h1 : vp_in (nI i + 1) L := vp_nI (a := 1) (by omega) (by omega)
  have h2 : vp_in (nI i + 2) L := vp_nI (a := 2) (by omega) (by omega)
  have h3 : vp_in (nI i + 3) L := vp_nI (a := 3) (by omega) (by omega)
  obtain ⟨q, S1, v, S2, x', e1, e2, e3, e4, e5⟩ := st_execute  hI (by omega)
  refine vs_aload_n X dL_law_2109 1 rfl ?_
  refine vs_aload_n X dL_law_2110 3 rfl ?_
  refine vu_callL (As := [rf G 0, rf G 175]) (st' := []) (mtL_execute hl0 ) e1 X (vx_cwSW 2 X.2.2.2.2.1 gL_law_L_execute rfl rfl rfl (by decide +kernel) ⟨Nat.le_of_ble_eq_true rfl, Nat.le_of_ble_eq_true rfl⟩) rfl (Nat.le_of_ble_eq_true rfl) dL_law_2111 ⟨by show _ ≤ 603072; omega, by show _ ≤ 7170154; omega⟩ ?_
  refine vs_istore X (lv' := [(6, .int (nI q)), (0, .ref b), (1, rf G 0), (2, rf G 166), (3, rf G 175), (4, rf G 176), (5, .int (nI i))]) dL_law_2114 (by decide) rfl ?_
  refine vs_aload_n X dL_law_2116 3 rfl ?_
  refine vu_callM (bi := 166) (As := []) (st' := []) (mtX7_execute hl0  _ e2) X (cwV 0 X.2.2.2.2.1 gL_law_X7_execute rfl rfl rfl (by decide +kernel) ⟨Nat.le_of_ble_eq_true rfl, Nat.le_of_ble_eq_true rfl⟩) (by decide) (by decide) rfl rfl rfl (Nat.le_of_ble_eq_true rfl) dL_law_2117 ⟨by show _ ≤ 603072; omega, by show _ ≤ 7170154; omega⟩ ?_
  refine vs_istore X (lv' := [(7, .int v), (6, .int (nI q)), (0, .ref b), (1, rf G 0), (2, rf G 166), (3, rf G 175), (4, rf G 176), (5, .int (nI i))]) dL_law_2120 (by decide) rfl ?_
  refine vs_aload_n X dL_law_2122 4 rfl ?_
  refine vu_callM (bi := 166) (As := []) (st' := []) (mtX7_thrown hl0  _ rfl) X (cwV 0 X.2.2.2.2.1 gL_law_X7_thrown rfl rfl rfl (by decide +kernel) ⟨Nat.le_of_ble_eq_true rfl, Nat.le_of_ble_eq_true rfl⟩) (by decide) (by decide) rfl rfl rfl (Nat.le_of_ble_eq_true rfl) dL_law_2123 ⟨by show _ ≤ 603072; omega, by show _ ≤ 7170154; omega⟩ ?_
  refine vs_iload X dL_law_2126 1 rfl ?_
  refine vu_ieq X (tgt := 2133) dL_law_2128 (by decide) e3 ?_
  refine vs_iload X dL_law_2133 1 rfl ?_
  refine vu_ne X (tgt := 2150) dL_law_2135 (by decide) (fun _ => ?_) (fun h0 => ?_)
  · skip
    refine vs_goto X (tgt := 2568) dL_law_2150 (by decide) ?_
    refine vs_sub [2, 3, 4, 5, 6, 7] (lv' := [(0, .ref b), (1, rf G 0), (2, rf G 166), (3, rf G 175), (4, rf G 176), (5, .int (nI i))]) rfl ?_
    exact kk S2 _ _ _ (e5.up (by omega) (by omega)) (by omega) (by omega)
  · skip
    refine vs_aload_n X dL_law_2138 5 rfl ?_
    refine vs_iconst X (v := 0) dL_law_2139 (by decide) ?_
    refine vu_lald X dL_law_2140 ?_
    refine vs_iload X dL_law_2141 0 rfl ?_
    refine vs_i2lw X dL_law_2143 ?_
    refine vu_lcmp0 X (e4 h0) dL_law_2144 ?_
    refine vu_eq X (tgt := 2150) dL_law_2145 (by decide) (fun _ => ?_) (fun z => absurd rfl z)
    refine vs_goto X (tgt := 2568) dL_law_2150 (by decide) ?_
    refine vs_sub [2, 3, 4, 5, 6, 7] (lv' := [(0, .ref b), (1, rf G 0), (2, rf G 166), (3, rf G 175), (4, rf G 176), (5, .int (nI i))]) rfl ?_
    exact kk S2 _ _ _ (e5.up (by omega) (by omega)) (by omega) (by omega)
set_option maxHeartbeats 4000000 in
theorem lc_faultPosition (hl0 : l.stackTraces = false) (X : Cx G p s m #[Value.ref b] meth c "ScarecrowRegistryLaw" wsL_law cL_law 9 rt) (hX : va_X b L xs s s.heap) (hb : b < s.heap.size) (hA : ¬ Af G b) (hi : i + 3 < L) (hL : L ≤ 2048) (hI : Inv D x S) (hD : D + 900 ≤ 900000) (hk : k + 2 ≤ 603072) (hn : n + 34 ≤ 7170154) (kk : ∀ T x' k' n', Inv (D + 900) x' T → k' ≤ k + 2 → n' ≤ n + 34 → LVW G p l e s m b below meth c Z k' n' T 2568 [(0, .ref b), (1, rf G 0), (2, rf G 166), (3, rf G 175), (4, rf G 176), (5, .int (nI i))] []) : LVW G p l e s m b below meth c Z k n S 2153 [(0, .ref b), (1, rf G 0), (2, rf G 166), (3, rf G 175), (4, rf G 176), (5, .int (nI i))] [] := by
  have h1 : vp_in (nI i + 1) L := vp_nI (a := 1) (by omega) (by omega)
  have h2 : vp_in (nI i + 2) L := vp_nI (a := 2) (by omega) (by omega)
  have h3 : vp_in (nI i + 3) L := vp_nI (a := 3) (by omega) (by omega)
  obtain ⟨q, S1, v, S2, x', e1, e2, e3, e4, e5⟩ := st_faultPosition  hI 
  refine vs_aload_n X dL_law_2153 1 rfl ?_
  refine vs_aload_n X dL_law_2154 3 rfl ?_
  refine vu_callL (As := [rf G 0, rf G 175]) (st' := []) (mtL_faultPosition hl0 ) e1 X (vx_cwSW 2 X.2.2.2.2.1 gL_law_L_faultPosition rfl rfl rfl (by decide +kernel) ⟨Nat.le_of_ble_eq_true rfl, Nat.le_of_ble_eq_true rfl⟩) rfl (Nat.le_of_ble_eq_true rfl) dL_law_2155 ⟨by show _ ≤ 603072; omega, by show _ ≤ 7170154; omega⟩ ?_
  refine vs_istore X (lv' := [(6, .int (nI q)), (0, .ref b), (1, rf G 0), (2, rf G 166), (3, rf G 175), (4, rf G 176), (5, .int (nI i))]) dL_law_2158 (by decide) rfl ?_
  refine vs_aload_n X dL_law_2160 3 rfl ?_
  refine vu_callM (bi := 166) (As := []) (st' := []) (mtX7_faultPosition hl0  _ e2) X (cwV 0 X.2.2.2.2.1 gL_law_X7_faultPosition rfl rfl rfl (by decide +kernel) ⟨Nat.le_of_ble_eq_true rfl, Nat.le_of_ble_eq_true rfl⟩) (by decide) (by decide) rfl rfl rfl (Nat.le_of_ble_eq_true rfl) dL_law_2161 ⟨by show _ ≤ 603072; omega, by show _ ≤ 7170154; omega⟩ ?_
  refine vs_istore X (lv' := [(7, .int v), (6, .int (nI q)), (0, .ref b), (1, rf G 0), (2, rf G 166), (3, rf G 175), (4, rf G 176), (5, .int (nI i))]) dL_law_2164 (by decide) rfl ?_
  refine vs_aload_n X dL_law_2166 4 rfl ?_
  refine vu_callM (bi := 166) (As := []) (st' := []) (mtX7_thrown hl0  _ rfl) X (cwV 0 X.2.2.2.2.1 gL_law_X7_thrown rfl rfl rfl (by decide +kernel) ⟨Nat.le_of_ble_eq_true rfl, Nat.le_of_ble_eq_true rfl⟩) (by decide) (by decide) rfl rfl rfl (Nat.le_of_ble_eq_true rfl) dL_law_2167 ⟨by show _ ≤ 603072; omega, by show _ ≤ 7170154; omega⟩ ?_
  refine vs_iload X dL_law_2170 1 rfl ?_
  refine vu_ieq X (tgt := 2177) dL_law_2172 (by decide) e3 ?_
  refine vs_iload X dL_law_2177 1 rfl ?_
  refine vu_ne X (tgt := 2194) dL_law_2179 (by decide) (fun _ => ?_) (fun h0 => ?_)
  · skip
    refine vs_goto X (tgt := 2568) dL_law_2194 (by decide) ?_
    refine vs_sub [2, 3, 4, 5, 6, 7] (lv' := [(0, .ref b), (1, rf G 0), (2, rf G 166), (3, rf G 175), (4, rf G 176), (5, .int (nI i))]) rfl ?_
    exact kk S2 _ _ _ (e5.up (by omega) (by omega)) (by omega) (by omega)
  · skip
    refine vs_aload_n X dL_law_2182 5 rfl ?_
    refine vs_iconst X (v := 0) dL_law_2183 (by decide) ?_
    refine vu_lald X dL_law_2184 ?_
    refine vs_iload X dL_law_2185 0 rfl ?_
    refine vs_i2lw X dL_law_2187 ?_
    refine vu_lcmp0 X (e4 h0) dL_law_2188 ?_
    refine vu_eq X (tgt := 2194) dL_law_2189 (by decide) (fun _ => ?_) (fun z => absurd rfl z)
    refine vs_goto X (tgt := 2568) dL_law_2194 (by decide) ?_
    refine vs_sub [2, 3, 4, 5, 6, 7] (lv' := [(0, .ref b), (1, rf G 0), (2, rf G 166), (3, rf G 175), (4, rf G 176), (5, .int (nI i))]) rfl ?_
    exact kk S2 _ _ _ (e5.up (by omega) (by omega)) (by omega) (by omega)
set_option maxHeartbeats 4000000 in
theorem lc_writeCertificate (hl0 : l.stackTraces = false) (X : Cx G p s m #[Value.ref b] meth c "ScarecrowRegistryLaw" wsL_law cL_law 9 rt) (hX : va_X b L xs s s.heap) (hb : b < s.heap.size) (hA : ¬ Af G b) (hi : i + 3 < L) (hL : L ≤ 2048) (hI : Inv D x S) (hD : D + 900 ≤ 900000) (hk : k + 2 ≤ 603072) (hn : n + 34 ≤ 7170154) (kk : ∀ T x' k' n', Inv (D + 900) x' T → k' ≤ k + 2 → n' ≤ n + 34 → LVW G p l e s m b below meth c Z k' n' T 2568 [(0, .ref b), (1, rf G 0), (2, rf G 166), (3, rf G 175), (4, rf G 176), (5, .int (nI i))] []) : LVW G p l e s m b below meth c Z k n S 2197 [(0, .ref b), (1, rf G 0), (2, rf G 166), (3, rf G 175), (4, rf G 176), (5, .int (nI i))] [] := by
  have h1 : vp_in (nI i + 1) L := vp_nI (a := 1) (by omega) (by omega)
  have h2 : vp_in (nI i + 2) L := vp_nI (a := 2) (by omega) (by omega)
  have h3 : vp_in (nI i + 3) L := vp_nI (a := 3) (by omega) (by omega)
  obtain ⟨q, S1, v, S2, x', e1, e2, e3, e4, e5⟩ := st_writeCertificate (xs (ix (nI i + 1))) hI (by omega)
  refine vs_aload_n X dL_law_2197 1 rfl ?_
  refine vs_aload_n X dL_law_2198 0 rfl ?_
  refine vs_iload X dL_law_2199 5 rfl ?_
  refine vs_iconst X (v := 1) dL_law_2201 (by decide) ?_
  refine vs_iadd X dL_law_2202 ?_
  refine vu_sld X hX hb hA h1 dL_law_2203 ?_
  refine vs_aload_n X dL_law_2204 3 rfl ?_
  refine vu_callL (As := [rf G 0, .int (xs (ix (nI i + 1))), rf G 175]) (st' := []) (mtL_writeCertificate hl0 (xs (ix (nI i + 1)))) e1 X (vx_cwSW 3 X.2.2.2.2.1 gL_law_L_writeCertificate rfl rfl rfl (by decide +kernel) ⟨Nat.le_of_ble_eq_true rfl, Nat.le_of_ble_eq_true rfl⟩) rfl (Nat.le_of_ble_eq_true rfl) dL_law_2205 ⟨by show _ ≤ 603072; omega, by show _ ≤ 7170154; omega⟩ ?_
  refine vs_istore X (lv' := [(6, .int (nI q)), (0, .ref b), (1, rf G 0), (2, rf G 166), (3, rf G 175), (4, rf G 176), (5, .int (nI i))]) dL_law_2208 (by decide) rfl ?_
  refine vs_aload_n X dL_law_2210 3 rfl ?_
  refine vs_aload_n X dL_law_2211 1 rfl ?_
  refine vs_iload X dL_law_2212 6 rfl ?_
  refine vs_iconst X (v := 1) dL_law_2214 (by decide) ?_
  refine vs_iadd X dL_law_2215 ?_
  refine vu_sld X hX hb hA h1 dL_law_2216 ?_
  refine vu_callM (bi := 166) (As := [.int (xs (ix (nI i + 1)))]) (st' := []) (mtX7_writeCertificate hl0 (xs (ix (nI i + 1))) _ e2) X (cwV 1 X.2.2.2.2.1 gL_law_X7_writeCertificate rfl rfl rfl (by decide +kernel) ⟨Nat.le_of_ble_eq_true rfl, Nat.le_of_ble_eq_true rfl⟩) (by decide) (by decide) rfl rfl rfl (Nat.le_of_ble_eq_true rfl) dL_law_2217 ⟨by show _ ≤ 603072; omega, by show _ ≤ 7170154; omega⟩ ?_
  refine vs_istore X (lv' := [(7, .int v), (6, .int (nI q)), (0, .ref b), (1, rf G 0), (2, rf G 166), (3, rf G 175), (4, rf G 176), (5, .int (nI i))]) dL_law_2220 (by decide) rfl ?_
  refine vs_aload_n X dL_law_2222 4 rfl ?_
  refine vu_callM (bi := 166) (As := []) (st' := []) (mtX7_thrown hl0  _ rfl) X (cwV 0 X.2.2.2.2.1 gL_law_X7_thrown rfl rfl rfl (by decide +kernel) ⟨Nat.le_of_ble_eq_true rfl, Nat.le_of_ble_eq_true rfl⟩) (by decide) (by decide) rfl rfl rfl (Nat.le_of_ble_eq_true rfl) dL_law_2223 ⟨by show _ ≤ 603072; omega, by show _ ≤ 7170154; omega⟩ ?_
  refine vs_iload X dL_law_2226 1 rfl ?_
  refine vu_ieq X (tgt := 2233) dL_law_2228 (by decide) e3 ?_
  refine vs_iload X dL_law_2233 1 rfl ?_
  refine vu_ne X (tgt := 2250) dL_law_2235 (by decide) (fun _ => ?_) (fun h0 => ?_)
  · skip
    refine vs_goto X (tgt := 2568) dL_law_2250 (by decide) ?_
    refine vs_sub [2, 3, 4, 5, 6, 7] (lv' := [(0, .ref b), (1, rf G 0), (2, rf G 166), (3, rf G 175), (4, rf G 176), (5, .int (nI i))]) rfl ?_
    exact kk S2 _ _ _ (e5.up (by omega) (by omega)) (by omega) (by omega)
  · skip
    refine vs_aload_n X dL_law_2238 5 rfl ?_
    refine vs_iconst X (v := 0) dL_law_2239 (by decide) ?_
    refine vu_lald X dL_law_2240 ?_
    refine vs_iload X dL_law_2241 0 rfl ?_
    refine vs_i2lw X dL_law_2243 ?_
    refine vu_lcmp0 X (e4 h0) dL_law_2244 ?_
    refine vu_eq X (tgt := 2250) dL_law_2245 (by decide) (fun _ => ?_) (fun z => absurd rfl z)
    refine vs_goto X (tgt := 2568) dL_law_2250 (by decide) ?_
    refine vs_sub [2, 3, 4, 5, 6, 7] (lv' := [(0, .ref b), (1, rf G 0), (2, rf G 166), (3, rf G 175), (4, rf G 176), (5, .int (nI i))]) rfl ?_
    exact kk S2 _ _ _ (e5.up (by omega) (by omega)) (by omega) (by omega)
set_option maxHeartbeats 4000000 in
theorem lc_writeFields (hl0 : l.stackTraces = false) (X : Cx G p s m #[Value.ref b] meth c "ScarecrowRegistryLaw" wsL_law cL_law 9 rt) (hX : va_X b L xs s s.heap) (hb : b < s.heap.size) (hA : ¬ Af G b) (hi : i + 3 < L) (hL : L ≤ 2048) (hI : Inv D x S) (hD : D + 900 ≤ 900000) (hk : k + 2 ≤ 603072) (hn : n + 34 ≤ 7170154) (kk : ∀ T x' k' n', Inv (D + 900) x' T → k' ≤ k + 2 → n' ≤ n + 34 → LVW G p l e s m b below meth c Z k' n' T 2568 [(0, .ref b), (1, rf G 0), (2, rf G 166), (3, rf G 175), (4, rf G 176), (5, .int (nI i))] []) : LVW G p l e s m b below meth c Z k n S 2253 [(0, .ref b), (1, rf G 0), (2, rf G 166), (3, rf G 175), (4, rf G 176), (5, .int (nI i))] [] := by
  have h1 : vp_in (nI i + 1) L := vp_nI (a := 1) (by omega) (by omega)
  have h2 : vp_in (nI i + 2) L := vp_nI (a := 2) (by omega) (by omega)
  have h3 : vp_in (nI i + 3) L := vp_nI (a := 3) (by omega) (by omega)
  obtain ⟨F, e1, e2⟩ := sb_writeFields hI
  refine vs_aload_n X dL_law_2253 1 rfl ?_
  refine vu_callMz (bi := 0) (As := []) (st' := []) (mtX6_writeFields hl0  _ e1) X (cwV 0 X.2.2.2.2.1 gL_law_X6_writeFields rfl rfl rfl (by decide +kernel) ⟨Nat.le_of_ble_eq_true rfl, Nat.le_of_ble_eq_true rfl⟩) (by decide) (by decide) rfl rfl rfl (Nat.le_of_ble_eq_true rfl) dL_law_2254 ⟨by show _ ≤ 603072; omega, by show _ ≤ 7170154; omega⟩ (fun z => ?_)
  obtain ⟨S2, x', e3, e5⟩ := e2 z
  refine vs_aload_n X dL_law_2257 2 rfl ?_
  refine vu_callM (bi := 166) (As := []) (st' := [.int (F z).1]) (mtX7_writeFields hl0  _ e3) X (cwV 0 X.2.2.2.2.1 gL_law_X7_writeFields rfl rfl rfl (by decide +kernel) ⟨Nat.le_of_ble_eq_true rfl, Nat.le_of_ble_eq_true rfl⟩) (by decide) (by decide) rfl rfl rfl (Nat.le_of_ble_eq_true rfl) dL_law_2258 ⟨by show _ ≤ 603072; omega, by show _ ≤ 7170154; omega⟩ ?_
  refine vu_ieq X (tgt := 2568) dL_law_2261 (by decide) rfl ?_
  exact kk S2 _ _ _ (e5.up (by omega) (by omega)) (by omega) (by omega)
set_option maxHeartbeats 4000000 in
theorem lc_lineCharacter (hl0 : l.stackTraces = false) (X : Cx G p s m #[Value.ref b] meth c "ScarecrowRegistryLaw" wsL_law cL_law 9 rt) (hX : va_X b L xs s s.heap) (hb : b < s.heap.size) (hA : ¬ Af G b) (hi : i + 3 < L) (hL : L ≤ 2048) (hI : Inv D x S) (hD : D + 900 ≤ 900000) (hk : k + 2 ≤ 603072) (hn : n + 34 ≤ 7170154) (kk : ∀ T x' k' n', Inv (D + 900) x' T → k' ≤ k + 2 → n' ≤ n + 34 → LVW G p l e s m b below meth c Z k' n' T 2568 [(0, .ref b), (1, rf G 0), (2, rf G 166), (3, rf G 175), (4, rf G 176), (5, .int (nI i))] []) : LVW G p l e s m b below meth c Z k n S 2266 [(0, .ref b), (1, rf G 0), (2, rf G 166), (3, rf G 175), (4, rf G 176), (5, .int (nI i))] [] := by
  have h1 : vp_in (nI i + 1) L := vp_nI (a := 1) (by omega) (by omega)
  have h2 : vp_in (nI i + 2) L := vp_nI (a := 2) (by omega) (by omega)
  have h3 : vp_in (nI i + 3) L := vp_nI (a := 3) (by omega) (by omega)
  obtain ⟨q, S1, v, S2, x', e1, e2, e3, e4, e5⟩ := st_lineCharacter (xs (ix (nI i + 1))) hI 
  refine vs_aload_n X dL_law_2266 1 rfl ?_
  refine vs_aload_n X dL_law_2267 0 rfl ?_
  refine vs_iload X dL_law_2268 5 rfl ?_
  refine vs_iconst X (v := 1) dL_law_2270 (by decide) ?_
  refine vs_iadd X dL_law_2271 ?_
  refine vu_sld X hX hb hA h1 dL_law_2272 ?_
  refine vs_aload_n X dL_law_2273 3 rfl ?_
  refine vu_callL (As := [rf G 0, .int (xs (ix (nI i + 1))), rf G 175]) (st' := []) (mtL_lineCharacter hl0 (xs (ix (nI i + 1)))) e1 X (vx_cwSW 3 X.2.2.2.2.1 gL_law_L_lineCharacter rfl rfl rfl (by decide +kernel) ⟨Nat.le_of_ble_eq_true rfl, Nat.le_of_ble_eq_true rfl⟩) rfl (Nat.le_of_ble_eq_true rfl) dL_law_2274 ⟨by show _ ≤ 603072; omega, by show _ ≤ 7170154; omega⟩ ?_
  refine vs_istore X (lv' := [(6, .int (nI q)), (0, .ref b), (1, rf G 0), (2, rf G 166), (3, rf G 175), (4, rf G 176), (5, .int (nI i))]) dL_law_2277 (by decide) rfl ?_
  refine vs_aload_n X dL_law_2279 3 rfl ?_
  refine vs_aload_n X dL_law_2280 1 rfl ?_
  refine vs_iload X dL_law_2281 6 rfl ?_
  refine vs_iconst X (v := 1) dL_law_2283 (by decide) ?_
  refine vs_iadd X dL_law_2284 ?_
  refine vu_sld X hX hb hA h1 dL_law_2285 ?_
  refine vu_callM (bi := 166) (As := [.int (xs (ix (nI i + 1)))]) (st' := []) (mtX7_lineCharacter hl0 (xs (ix (nI i + 1))) _ e2) X (cwV 1 X.2.2.2.2.1 gL_law_X7_lineCharacter rfl rfl rfl (by decide +kernel) ⟨Nat.le_of_ble_eq_true rfl, Nat.le_of_ble_eq_true rfl⟩) (by decide) (by decide) rfl rfl rfl (Nat.le_of_ble_eq_true rfl) dL_law_2286 ⟨by show _ ≤ 603072; omega, by show _ ≤ 7170154; omega⟩ ?_
  refine vs_istore X (lv' := [(7, .int v), (6, .int (nI q)), (0, .ref b), (1, rf G 0), (2, rf G 166), (3, rf G 175), (4, rf G 176), (5, .int (nI i))]) dL_law_2289 (by decide) rfl ?_
  refine vs_aload_n X dL_law_2291 4 rfl ?_
  refine vu_callM (bi := 166) (As := []) (st' := []) (mtX7_thrown hl0  _ rfl) X (cwV 0 X.2.2.2.2.1 gL_law_X7_thrown rfl rfl rfl (by decide +kernel) ⟨Nat.le_of_ble_eq_true rfl, Nat.le_of_ble_eq_true rfl⟩) (by decide) (by decide) rfl rfl rfl (Nat.le_of_ble_eq_true rfl) dL_law_2292 ⟨by show _ ≤ 603072; omega, by show _ ≤ 7170154; omega⟩ ?_
  refine vs_iload X dL_law_2295 1 rfl ?_
  refine vu_ieq X (tgt := 2302) dL_law_2297 (by decide) e3 ?_
  refine vs_iload X dL_law_2302 1 rfl ?_
  refine vu_ne X (tgt := 2319) dL_law_2304 (by decide) (fun _ => ?_) (fun h0 => ?_)
  · skip
    refine vs_goto X (tgt := 2568) dL_law_2319 (by decide) ?_
    refine vs_sub [2, 3, 4, 5, 6, 7] (lv' := [(0, .ref b), (1, rf G 0), (2, rf G 166), (3, rf G 175), (4, rf G 176), (5, .int (nI i))]) rfl ?_
    exact kk S2 _ _ _ (e5.up (by omega) (by omega)) (by omega) (by omega)
  · skip
    refine vs_aload_n X dL_law_2307 5 rfl ?_
    refine vs_iconst X (v := 0) dL_law_2308 (by decide) ?_
    refine vu_lald X dL_law_2309 ?_
    refine vs_iload X dL_law_2310 0 rfl ?_
    refine vs_i2lw X dL_law_2312 ?_
    refine vu_lcmp0 X (e4 h0) dL_law_2313 ?_
    refine vu_eq X (tgt := 2319) dL_law_2314 (by decide) (fun _ => ?_) (fun z => absurd rfl z)
    refine vs_goto X (tgt := 2568) dL_law_2319 (by decide) ?_
    refine vs_sub [2, 3, 4, 5, 6, 7] (lv' := [(0, .ref b), (1, rf G 0), (2, rf G 166), (3, rf G 175), (4, rf G 176), (5, .int (nI i))]) rfl ?_
    exact kk S2 _ _ _ (e5.up (by omega) (by omega)) (by omega) (by omega)
set_option maxHeartbeats 4000000 in
theorem lc_denial (hl0 : l.stackTraces = false) (X : Cx G p s m #[Value.ref b] meth c "ScarecrowRegistryLaw" wsL_law cL_law 9 rt) (hX : va_X b L xs s s.heap) (hb : b < s.heap.size) (hA : ¬ Af G b) (hi : i + 3 < L) (hL : L ≤ 2048) (hI : Inv D x S) (hD : D + 900 ≤ 900000) (hk : k + 2 ≤ 603072) (hn : n + 34 ≤ 7170154) (kk : ∀ T x' k' n', Inv (D + 900) x' T → k' ≤ k + 2 → n' ≤ n + 34 → LVW G p l e s m b below meth c Z k' n' T 2568 [(0, .ref b), (1, rf G 0), (2, rf G 166), (3, rf G 175), (4, rf G 176), (5, .int (nI i))] []) : LVW G p l e s m b below meth c Z k n S 2322 [(0, .ref b), (1, rf G 0), (2, rf G 166), (3, rf G 175), (4, rf G 176), (5, .int (nI i))] [] := by
  have h1 : vp_in (nI i + 1) L := vp_nI (a := 1) (by omega) (by omega)
  have h2 : vp_in (nI i + 2) L := vp_nI (a := 2) (by omega) (by omega)
  have h3 : vp_in (nI i + 3) L := vp_nI (a := 3) (by omega) (by omega)
  obtain ⟨q, S1, v, S2, x', e1, e2, e3, e4, e5⟩ := st_denial  hI 
  refine vs_aload_n X dL_law_2322 1 rfl ?_
  refine vs_aload_n X dL_law_2323 3 rfl ?_
  refine vu_callL (As := [rf G 0, rf G 175]) (st' := []) (mtL_denial hl0 ) e1 X (vx_cwSW 2 X.2.2.2.2.1 gL_law_L_denial rfl rfl rfl (by decide +kernel) ⟨Nat.le_of_ble_eq_true rfl, Nat.le_of_ble_eq_true rfl⟩) rfl (Nat.le_of_ble_eq_true rfl) dL_law_2324 ⟨by show _ ≤ 603072; omega, by show _ ≤ 7170154; omega⟩ ?_
  refine vs_istore X (lv' := [(6, .int (nI q)), (0, .ref b), (1, rf G 0), (2, rf G 166), (3, rf G 175), (4, rf G 176), (5, .int (nI i))]) dL_law_2327 (by decide) rfl ?_
  refine vs_aload_n X dL_law_2329 3 rfl ?_
  refine vu_callM (bi := 166) (As := []) (st' := []) (mtX7_denial hl0  _ e2) X (cwV 0 X.2.2.2.2.1 gL_law_X7_denial rfl rfl rfl (by decide +kernel) ⟨Nat.le_of_ble_eq_true rfl, Nat.le_of_ble_eq_true rfl⟩) (by decide) (by decide) rfl rfl rfl (Nat.le_of_ble_eq_true rfl) dL_law_2330 ⟨by show _ ≤ 603072; omega, by show _ ≤ 7170154; omega⟩ ?_
  refine vs_istore X (lv' := [(7, .int v), (6, .int (nI q)), (0, .ref b), (1, rf G 0), (2, rf G 166), (3, rf G 175), (4, rf G 176), (5, .int (nI i))]) dL_law_2333 (by decide) rfl ?_
  refine vs_aload_n X dL_law_2335 4 rfl ?_
  refine vu_callM (bi := 166) (As := []) (st' := []) (mtX7_thrown hl0  _ rfl) X (cwV 0 X.2.2.2.2.1 gL_law_X7_thrown rfl rfl rfl (by decide +kernel) ⟨Nat.le_of_ble_eq_true rfl, Nat.le_of_ble_eq_true rfl⟩) (by decide) (by decide) rfl rfl rfl (Nat.le_of_ble_eq_true rfl) dL_law_2336 ⟨by show _ ≤ 603072; omega, by show _ ≤ 7170154; omega⟩ ?_
  refine vs_iload X dL_law_2339 1 rfl ?_
  refine vu_ieq X (tgt := 2346) dL_law_2341 (by decide) e3 ?_
  refine vs_iload X dL_law_2346 1 rfl ?_
  refine vu_ne X (tgt := 2363) dL_law_2348 (by decide) (fun _ => ?_) (fun h0 => ?_)
  · skip
    refine vs_goto X (tgt := 2568) dL_law_2363 (by decide) ?_
    refine vs_sub [2, 3, 4, 5, 6, 7] (lv' := [(0, .ref b), (1, rf G 0), (2, rf G 166), (3, rf G 175), (4, rf G 176), (5, .int (nI i))]) rfl ?_
    exact kk S2 _ _ _ (e5.up (by omega) (by omega)) (by omega) (by omega)
  · skip
    refine vs_aload_n X dL_law_2351 5 rfl ?_
    refine vs_iconst X (v := 0) dL_law_2352 (by decide) ?_
    refine vu_lald X dL_law_2353 ?_
    refine vs_iload X dL_law_2354 0 rfl ?_
    refine vs_i2lw X dL_law_2356 ?_
    refine vu_lcmp0 X (e4 h0) dL_law_2357 ?_
    refine vu_eq X (tgt := 2363) dL_law_2358 (by decide) (fun _ => ?_) (fun z => absurd rfl z)
    refine vs_goto X (tgt := 2568) dL_law_2363 (by decide) ?_
    refine vs_sub [2, 3, 4, 5, 6, 7] (lv' := [(0, .ref b), (1, rf G 0), (2, rf G 166), (3, rf G 175), (4, rf G 176), (5, .int (nI i))]) rfl ?_
    exact kk S2 _ _ _ (e5.up (by omega) (by omega)) (by omega) (by omega)
set_option maxHeartbeats 4000000 in
theorem lc_denialDetail (hl0 : l.stackTraces = false) (X : Cx G p s m #[Value.ref b] meth c "ScarecrowRegistryLaw" wsL_law cL_law 9 rt) (hX : va_X b L xs s s.heap) (hb : b < s.heap.size) (hA : ¬ Af G b) (hi : i + 3 < L) (hL : L ≤ 2048) (hI : Inv D x S) (hD : D + 900 ≤ 900000) (hk : k + 2 ≤ 603072) (hn : n + 34 ≤ 7170154) (kk : ∀ T x' k' n', Inv (D + 900) x' T → k' ≤ k + 2 → n' ≤ n + 34 → LVW G p l e s m b below meth c Z k' n' T 2568 [(0, .ref b), (1, rf G 0), (2, rf G 166), (3, rf G 175), (4, rf G 176), (5, .int (nI i))] []) : LVW G p l e s m b below meth c Z k n S 2366 [(0, .ref b), (1, rf G 0), (2, rf G 166), (3, rf G 175), (4, rf G 176), (5, .int (nI i))] [] := by
  have h1 : vp_in (nI i + 1) L := vp_nI (a := 1) (by omega) (by omega)
  have h2 : vp_in (nI i + 2) L := vp_nI (a := 2) (by omega) (by omega)
  have h3 : vp_in (nI i + 3) L := vp_nI (a := 3) (by omega) (by omega)
  obtain ⟨q, S1, v, S2, x', e1, e2, e3, e4, e5⟩ := st_denialDetail  hI 
  refine vs_aload_n X dL_law_2366 1 rfl ?_
  refine vs_aload_n X dL_law_2367 3 rfl ?_
  refine vu_callL (As := [rf G 0, rf G 175]) (st' := []) (mtL_denialDetail hl0 ) e1 X (vx_cwSW 2 X.2.2.2.2.1 gL_law_L_denialDetail rfl rfl rfl (by decide +kernel) ⟨Nat.le_of_ble_eq_true rfl, Nat.le_of_ble_eq_true rfl⟩) rfl (Nat.le_of_ble_eq_true rfl) dL_law_2368 ⟨by show _ ≤ 603072; omega, by show _ ≤ 7170154; omega⟩ ?_
  refine vs_istore X (lv' := [(6, .int (nI q)), (0, .ref b), (1, rf G 0), (2, rf G 166), (3, rf G 175), (4, rf G 176), (5, .int (nI i))]) dL_law_2371 (by decide) rfl ?_
  refine vs_aload_n X dL_law_2373 3 rfl ?_
  refine vu_callM (bi := 166) (As := []) (st' := []) (mtX7_denialDetail hl0  _ e2) X (cwV 0 X.2.2.2.2.1 gL_law_X7_denialDetail rfl rfl rfl (by decide +kernel) ⟨Nat.le_of_ble_eq_true rfl, Nat.le_of_ble_eq_true rfl⟩) (by decide) (by decide) rfl rfl rfl (Nat.le_of_ble_eq_true rfl) dL_law_2374 ⟨by show _ ≤ 603072; omega, by show _ ≤ 7170154; omega⟩ ?_
  refine vs_istore X (lv' := [(7, .int v), (6, .int (nI q)), (0, .ref b), (1, rf G 0), (2, rf G 166), (3, rf G 175), (4, rf G 176), (5, .int (nI i))]) dL_law_2377 (by decide) rfl ?_
  refine vs_aload_n X dL_law_2379 4 rfl ?_
  refine vu_callM (bi := 166) (As := []) (st' := []) (mtX7_thrown hl0  _ rfl) X (cwV 0 X.2.2.2.2.1 gL_law_X7_thrown rfl rfl rfl (by decide +kernel) ⟨Nat.le_of_ble_eq_true rfl, Nat.le_of_ble_eq_true rfl⟩) (by decide) (by decide) rfl rfl rfl (Nat.le_of_ble_eq_true rfl) dL_law_2380 ⟨by show _ ≤ 603072; omega, by show _ ≤ 7170154; omega⟩ ?_
  refine vs_iload X dL_law_2383 1 rfl ?_
  refine vu_ieq X (tgt := 2390) dL_law_2385 (by decide) e3 ?_
  refine vs_iload X dL_law_2390 1 rfl ?_
  refine vu_ne X (tgt := 2407) dL_law_2392 (by decide) (fun _ => ?_) (fun h0 => ?_)
  · skip
    refine vs_goto X (tgt := 2568) dL_law_2407 (by decide) ?_
    refine vs_sub [2, 3, 4, 5, 6, 7] (lv' := [(0, .ref b), (1, rf G 0), (2, rf G 166), (3, rf G 175), (4, rf G 176), (5, .int (nI i))]) rfl ?_
    exact kk S2 _ _ _ (e5.up (by omega) (by omega)) (by omega) (by omega)
  · skip
    refine vs_aload_n X dL_law_2395 5 rfl ?_
    refine vs_iconst X (v := 0) dL_law_2396 (by decide) ?_
    refine vu_lald X dL_law_2397 ?_
    refine vs_iload X dL_law_2398 0 rfl ?_
    refine vs_i2lw X dL_law_2400 ?_
    refine vu_lcmp0 X (e4 h0) dL_law_2401 ?_
    refine vu_eq X (tgt := 2407) dL_law_2402 (by decide) (fun _ => ?_) (fun z => absurd rfl z)
    refine vs_goto X (tgt := 2568) dL_law_2407 (by decide) ?_
    refine vs_sub [2, 3, 4, 5, 6, 7] (lv' := [(0, .ref b), (1, rf G 0), (2, rf G 166), (3, rf G 175), (4, rf G 176), (5, .int (nI i))]) rfl ?_
    exact kk S2 _ _ _ (e5.up (by omega) (by omega)) (by omega) (by omega)
set_option maxHeartbeats 4000000 in
theorem lc_denialCause (hl0 : l.stackTraces = false) (X : Cx G p s m #[Value.ref b] meth c "ScarecrowRegistryLaw" wsL_law cL_law 9 rt) (hX : va_X b L xs s s.heap) (hb : b < s.heap.size) (hA : ¬ Af G b) (hi : i + 3 < L) (hL : L ≤ 2048) (hI : Inv D x S) (hD : D + 900 ≤ 900000) (hk : k + 2 ≤ 603072) (hn : n + 34 ≤ 7170154) (kk : ∀ T x' k' n', Inv (D + 900) x' T → k' ≤ k + 2 → n' ≤ n + 34 → LVW G p l e s m b below meth c Z k' n' T 2568 [(0, .ref b), (1, rf G 0), (2, rf G 166), (3, rf G 175), (4, rf G 176), (5, .int (nI i))] []) : LVW G p l e s m b below meth c Z k n S 2410 [(0, .ref b), (1, rf G 0), (2, rf G 166), (3, rf G 175), (4, rf G 176), (5, .int (nI i))] [] := by
  have h1 : vp_in (nI i + 1) L := vp_nI (a := 1) (by omega) (by omega)
  have h2 : vp_in (nI i + 2) L := vp_nI (a := 2) (by omega) (by omega)
  have h3 : vp_in (nI i + 3) L := vp_nI (a := 3) (by omega) (by omega)
  obtain ⟨q, S1, v, S2, x', e1, e2, e3, e4, e5⟩ := st_denialCause  hI 
  refine vs_aload_n X dL_law_2410 1 rfl ?_
  refine vs_aload_n X dL_law_2411 3 rfl ?_
  refine vu_callL (As := [rf G 0, rf G 175]) (st' := []) (mtL_denialCause hl0 ) e1 X (vx_cwSW 2 X.2.2.2.2.1 gL_law_L_denialCause rfl rfl rfl (by decide +kernel) ⟨Nat.le_of_ble_eq_true rfl, Nat.le_of_ble_eq_true rfl⟩) rfl (Nat.le_of_ble_eq_true rfl) dL_law_2412 ⟨by show _ ≤ 603072; omega, by show _ ≤ 7170154; omega⟩ ?_
  refine vs_istore X (lv' := [(6, .int (nI q)), (0, .ref b), (1, rf G 0), (2, rf G 166), (3, rf G 175), (4, rf G 176), (5, .int (nI i))]) dL_law_2415 (by decide) rfl ?_
  refine vs_aload_n X dL_law_2417 3 rfl ?_
  refine vu_callM (bi := 166) (As := []) (st' := []) (mtX7_denialCause hl0  _ e2) X (cwV 0 X.2.2.2.2.1 gL_law_X7_denialCause rfl rfl rfl (by decide +kernel) ⟨Nat.le_of_ble_eq_true rfl, Nat.le_of_ble_eq_true rfl⟩) (by decide) (by decide) rfl rfl rfl (Nat.le_of_ble_eq_true rfl) dL_law_2418 ⟨by show _ ≤ 603072; omega, by show _ ≤ 7170154; omega⟩ ?_
  refine vs_istore X (lv' := [(7, .int v), (6, .int (nI q)), (0, .ref b), (1, rf G 0), (2, rf G 166), (3, rf G 175), (4, rf G 176), (5, .int (nI i))]) dL_law_2421 (by decide) rfl ?_
  refine vs_aload_n X dL_law_2423 4 rfl ?_
  refine vu_callM (bi := 166) (As := []) (st' := []) (mtX7_thrown hl0  _ rfl) X (cwV 0 X.2.2.2.2.1 gL_law_X7_thrown rfl rfl rfl (by decide +kernel) ⟨Nat.le_of_ble_eq_true rfl, Nat.le_of_ble_eq_true rfl⟩) (by decide) (by decide) rfl rfl rfl (Nat.le_of_ble_eq_true rfl) dL_law_2424 ⟨by show _ ≤ 603072; omega, by show _ ≤ 7170154; omega⟩ ?_
  refine vs_iload X dL_law_2427 1 rfl ?_
  refine vu_ieq X (tgt := 2434) dL_law_2429 (by decide) e3 ?_
  refine vs_iload X dL_law_2434 1 rfl ?_
  refine vu_ne X (tgt := 2451) dL_law_2436 (by decide) (fun _ => ?_) (fun h0 => ?_)
  · skip
    refine vs_goto X (tgt := 2568) dL_law_2451 (by decide) ?_
    refine vs_sub [2, 3, 4, 5, 6, 7] (lv' := [(0, .ref b), (1, rf G 0), (2, rf G 166), (3, rf G 175), (4, rf G 176), (5, .int (nI i))]) rfl ?_
    exact kk S2 _ _ _ (e5.up (by omega) (by omega)) (by omega) (by omega)
  · skip
    refine vs_aload_n X dL_law_2439 5 rfl ?_
    refine vs_iconst X (v := 0) dL_law_2440 (by decide) ?_
    refine vu_lald X dL_law_2441 ?_
    refine vs_iload X dL_law_2442 0 rfl ?_
    refine vs_i2lw X dL_law_2444 ?_
    refine vu_lcmp0 X (e4 h0) dL_law_2445 ?_
    refine vu_eq X (tgt := 2451) dL_law_2446 (by decide) (fun _ => ?_) (fun z => absurd rfl z)
    refine vs_goto X (tgt := 2568) dL_law_2451 (by decide) ?_
    refine vs_sub [2, 3, 4, 5, 6, 7] (lv' := [(0, .ref b), (1, rf G 0), (2, rf G 166), (3, rf G 175), (4, rf G 176), (5, .int (nI i))]) rfl ?_
    exact kk S2 _ _ _ (e5.up (by omega) (by omega)) (by omega) (by omega)
set_option maxHeartbeats 4000000 in
theorem lc_undo (hl0 : l.stackTraces = false) (X : Cx G p s m #[Value.ref b] meth c "ScarecrowRegistryLaw" wsL_law cL_law 9 rt) (hX : va_X b L xs s s.heap) (hb : b < s.heap.size) (hA : ¬ Af G b) (hi : i + 3 < L) (hL : L ≤ 2048) (hI : Inv D x S) (hD : D + 900 ≤ 900000) (hk : k + 2 ≤ 603072) (hn : n + 34 ≤ 7170154) (kk : ∀ T x' k' n', Inv (D + 900) x' T → k' ≤ k + 2 → n' ≤ n + 34 → LVW G p l e s m b below meth c Z k' n' T 2568 [(0, .ref b), (1, rf G 0), (2, rf G 166), (3, rf G 175), (4, rf G 176), (5, .int (nI i))] []) : LVW G p l e s m b below meth c Z k n S 2454 [(0, .ref b), (1, rf G 0), (2, rf G 166), (3, rf G 175), (4, rf G 176), (5, .int (nI i))] [] := by
  have h1 : vp_in (nI i + 1) L := vp_nI (a := 1) (by omega) (by omega)
  have h2 : vp_in (nI i + 2) L := vp_nI (a := 2) (by omega) (by omega)
  have h3 : vp_in (nI i + 3) L := vp_nI (a := 3) (by omega) (by omega)
  obtain ⟨q, S1, v, S2, x', e1, e2, e3, e4, e5⟩ := st_undo  hI 
  refine vs_aload_n X dL_law_2454 1 rfl ?_
  refine vs_aload_n X dL_law_2455 3 rfl ?_
  refine vu_callL (As := [rf G 0, rf G 175]) (st' := []) (mtL_undo hl0 ) e1 X (vx_cwSW 2 X.2.2.2.2.1 gL_law_L_undo rfl rfl rfl (by decide +kernel) ⟨Nat.le_of_ble_eq_true rfl, Nat.le_of_ble_eq_true rfl⟩) rfl (Nat.le_of_ble_eq_true rfl) dL_law_2456 ⟨by show _ ≤ 603072; omega, by show _ ≤ 7170154; omega⟩ ?_
  refine vs_istore X (lv' := [(6, .int (nI q)), (0, .ref b), (1, rf G 0), (2, rf G 166), (3, rf G 175), (4, rf G 176), (5, .int (nI i))]) dL_law_2459 (by decide) rfl ?_
  refine vs_aload_n X dL_law_2461 3 rfl ?_
  refine vu_callM (bi := 166) (As := []) (st' := []) (mtX7_undo hl0  _ e2) X (cwV 0 X.2.2.2.2.1 gL_law_X7_undo rfl rfl rfl (by decide +kernel) ⟨Nat.le_of_ble_eq_true rfl, Nat.le_of_ble_eq_true rfl⟩) (by decide) (by decide) rfl rfl rfl (Nat.le_of_ble_eq_true rfl) dL_law_2462 ⟨by show _ ≤ 603072; omega, by show _ ≤ 7170154; omega⟩ ?_
  refine vs_istore X (lv' := [(7, .int v), (6, .int (nI q)), (0, .ref b), (1, rf G 0), (2, rf G 166), (3, rf G 175), (4, rf G 176), (5, .int (nI i))]) dL_law_2465 (by decide) rfl ?_
  refine vs_aload_n X dL_law_2467 4 rfl ?_
  refine vu_callM (bi := 166) (As := []) (st' := []) (mtX7_thrown hl0  _ rfl) X (cwV 0 X.2.2.2.2.1 gL_law_X7_thrown rfl rfl rfl (by decide +kernel) ⟨Nat.le_of_ble_eq_true rfl, Nat.le_of_ble_eq_true rfl⟩) (by decide) (by decide) rfl rfl rfl (Nat.le_of_ble_eq_true rfl) dL_law_2468 ⟨by show _ ≤ 603072; omega, by show _ ≤ 7170154; omega⟩ ?_
  refine vs_iload X dL_law_2471 1 rfl ?_
  refine vu_ieq X (tgt := 2478) dL_law_2473 (by decide) e3 ?_
  refine vs_iload X dL_law_2478 1 rfl ?_
  refine vu_ne X (tgt := 2495) dL_law_2480 (by decide) (fun _ => ?_) (fun h0 => ?_)
  · skip
    refine vs_goto X (tgt := 2568) dL_law_2495 (by decide) ?_
    refine vs_sub [2, 3, 4, 5, 6, 7] (lv' := [(0, .ref b), (1, rf G 0), (2, rf G 166), (3, rf G 175), (4, rf G 176), (5, .int (nI i))]) rfl ?_
    exact kk S2 _ _ _ (e5.up (by omega) (by omega)) (by omega) (by omega)
  · skip
    refine vs_aload_n X dL_law_2483 5 rfl ?_
    refine vs_iconst X (v := 0) dL_law_2484 (by decide) ?_
    refine vu_lald X dL_law_2485 ?_
    refine vs_iload X dL_law_2486 0 rfl ?_
    refine vs_i2lw X dL_law_2488 ?_
    refine vu_lcmp0 X (e4 h0) dL_law_2489 ?_
    refine vu_eq X (tgt := 2495) dL_law_2490 (by decide) (fun _ => ?_) (fun z => absurd rfl z)
    refine vs_goto X (tgt := 2568) dL_law_2495 (by decide) ?_
    refine vs_sub [2, 3, 4, 5, 6, 7] (lv' := [(0, .ref b), (1, rf G 0), (2, rf G 166), (3, rf G 175), (4, rf G 176), (5, .int (nI i))]) rfl ?_
    exact kk S2 _ _ _ (e5.up (by omega) (by omega)) (by omega) (by omega)
set_option maxHeartbeats 4000000 in
theorem lc_undoCount (hl0 : l.stackTraces = false) (X : Cx G p s m #[Value.ref b] meth c "ScarecrowRegistryLaw" wsL_law cL_law 9 rt) (hX : va_X b L xs s s.heap) (hb : b < s.heap.size) (hA : ¬ Af G b) (hi : i + 3 < L) (hL : L ≤ 2048) (hI : Inv D x S) (hD : D + 900 ≤ 900000) (hk : k + 2 ≤ 603072) (hn : n + 34 ≤ 7170154) (kk : ∀ T x' k' n', Inv (D + 900) x' T → k' ≤ k + 2 → n' ≤ n + 34 → LVW G p l e s m b below meth c Z k' n' T 2568 [(0, .ref b), (1, rf G 0), (2, rf G 166), (3, rf G 175), (4, rf G 176), (5, .int (nI i))] []) : LVW G p l e s m b below meth c Z k n S 2498 [(0, .ref b), (1, rf G 0), (2, rf G 166), (3, rf G 175), (4, rf G 176), (5, .int (nI i))] [] := by
  have h1 : vp_in (nI i + 1) L := vp_nI (a := 1) (by omega) (by omega)
  have h2 : vp_in (nI i + 2) L := vp_nI (a := 2) (by omega) (by omega)
  have h3 : vp_in (nI i + 3) L := vp_nI (a := 3) (by omega) (by omega)
  obtain ⟨v, S2, x', e1, e2, e5⟩ := sb_undoCount hI
  refine vs_aload_n X dL_law_2498 1 rfl ?_
  refine vu_callM (bi := 0) (As := []) (st' := []) (mtX6_undoCount hl0  _ e1) X (cwV 0 X.2.2.2.2.1 gL_law_X6_undoCount rfl rfl rfl (by decide +kernel) ⟨Nat.le_of_ble_eq_true rfl, Nat.le_of_ble_eq_true rfl⟩) (by decide) (by decide) rfl rfl rfl (Nat.le_of_ble_eq_true rfl) dL_law_2499 ⟨by show _ ≤ 603072; omega, by show _ ≤ 7170154; omega⟩ ?_
  refine vs_aload_n X dL_law_2502 2 rfl ?_
  refine vu_callM (bi := 166) (As := []) (st' := [.int v]) (mtX7_undoCount hl0  _ e2) X (cwV 0 X.2.2.2.2.1 gL_law_X7_undoCount rfl rfl rfl (by decide +kernel) ⟨Nat.le_of_ble_eq_true rfl, Nat.le_of_ble_eq_true rfl⟩) (by decide) (by decide) rfl rfl rfl (Nat.le_of_ble_eq_true rfl) dL_law_2503 ⟨by show _ ≤ 603072; omega, by show _ ≤ 7170154; omega⟩ ?_
  refine vu_ieq X (tgt := 2568) dL_law_2506 (by decide) rfl ?_
  exact kk S2 _ _ _ (e5.up (by omega) (by omega)) (by omega) (by omega)
set_option maxHeartbeats 4000000 in
theorem lc_saveSnapshot (hl0 : l.stackTraces = false) (X : Cx G p s m #[Value.ref b] meth c "ScarecrowRegistryLaw" wsL_law cL_law 9 rt) (hX : va_X b L xs s s.heap) (hb : b < s.heap.size) (hA : ¬ Af G b) (hi : i + 3 < L) (hL : L ≤ 2048) (hI : Inv D x S) (hD : D + 900 ≤ 900000) (hk : k + 2 ≤ 603072) (hn : n + 34 ≤ 7170154) (kk : ∀ T x' k' n', Inv (D + 900) x' T → k' ≤ k + 2 → n' ≤ n + 34 → LVW G p l e s m b below meth c Z k' n' T 2568 [(0, .ref b), (1, rf G 0), (2, rf G 166), (3, rf G 175), (4, rf G 176), (5, .int (nI i))] []) : LVW G p l e s m b below meth c Z k n S 2511 [(0, .ref b), (1, rf G 0), (2, rf G 166), (3, rf G 175), (4, rf G 176), (5, .int (nI i))] [] := by
  have h1 : vp_in (nI i + 1) L := vp_nI (a := 1) (by omega) (by omega)
  have h2 : vp_in (nI i + 2) L := vp_nI (a := 2) (by omega) (by omega)
  have h3 : vp_in (nI i + 3) L := vp_nI (a := 3) (by omega) (by omega)
  obtain ⟨v, S1, S2, x', e1, e2, e5⟩ := sb_saveSnapshot hI
  refine vs_aload_n X dL_law_2511 1 rfl ?_
  refine vu_callM (bi := 0) (As := []) (st' := []) (mtX6_saveSnapshot hl0  _ e1) X (cwV 0 X.2.2.2.2.1 gL_law_X6_saveSnapshot rfl rfl rfl (by decide +kernel) ⟨Nat.le_of_ble_eq_true rfl, Nat.le_of_ble_eq_true rfl⟩) (by decide) (by decide) rfl rfl rfl (Nat.le_of_ble_eq_true rfl) dL_law_2512 ⟨by show _ ≤ 603072; omega, by show _ ≤ 7170154; omega⟩ ?_
  refine vs_aload_n X dL_law_2515 2 rfl ?_
  refine vu_callM (bi := 166) (As := []) (st' := [.int v]) (mtX7_saveSnapshot hl0  _ e2) X (cwV 0 X.2.2.2.2.1 gL_law_X7_saveSnapshot rfl rfl rfl (by decide +kernel) ⟨Nat.le_of_ble_eq_true rfl, Nat.le_of_ble_eq_true rfl⟩) (by decide) (by decide) rfl rfl rfl (Nat.le_of_ble_eq_true rfl) dL_law_2516 ⟨by show _ ≤ 603072; omega, by show _ ≤ 7170154; omega⟩ ?_
  refine vu_ieq X (tgt := 2568) dL_law_2519 (by decide) rfl ?_
  exact kk S2 _ _ _ (e5.up (by omega) (by omega)) (by omega) (by omega)
set_option maxHeartbeats 4000000 in
theorem lc_restoreSnapshot (hl0 : l.stackTraces = false) (X : Cx G p s m #[Value.ref b] meth c "ScarecrowRegistryLaw" wsL_law cL_law 9 rt) (hX : va_X b L xs s s.heap) (hb : b < s.heap.size) (hA : ¬ Af G b) (hi : i + 3 < L) (hL : L ≤ 2048) (hI : Inv D x S) (hD : D + 900 ≤ 900000) (hk : k + 2 ≤ 603072) (hn : n + 34 ≤ 7170154) (kk : ∀ T x' k' n', Inv (D + 900) x' T → k' ≤ k + 2 → n' ≤ n + 34 → LVW G p l e s m b below meth c Z k' n' T 2568 [(0, .ref b), (1, rf G 0), (2, rf G 166), (3, rf G 175), (4, rf G 176), (5, .int (nI i))] []) : LVW G p l e s m b below meth c Z k n S 2524 [(0, .ref b), (1, rf G 0), (2, rf G 166), (3, rf G 175), (4, rf G 176), (5, .int (nI i))] [] := by
  have h1 : vp_in (nI i + 1) L := vp_nI (a := 1) (by omega) (by omega)
  have h2 : vp_in (nI i + 2) L := vp_nI (a := 2) (by omega) (by omega)
  have h3 : vp_in (nI i + 3) L := vp_nI (a := 3) (by omega) (by omega)
  obtain ⟨q, S1, v, S2, x', e1, e2, e3, e4, e5⟩ := st_restoreSnapshot  hI 
  refine vs_aload_n X dL_law_2524 1 rfl ?_
  refine vs_aload_n X dL_law_2525 3 rfl ?_
  refine vu_callL (As := [rf G 0, rf G 175]) (st' := []) (mtL_restoreSnapshot hl0 ) e1 X (vx_cwSW 2 X.2.2.2.2.1 gL_law_L_restoreSnapshot rfl rfl rfl (by decide +kernel) ⟨Nat.le_of_ble_eq_true rfl, Nat.le_of_ble_eq_true rfl⟩) rfl (Nat.le_of_ble_eq_true rfl) dL_law_2526 ⟨by show _ ≤ 603072; omega, by show _ ≤ 7170154; omega⟩ ?_
  refine vs_istore X (lv' := [(6, .int (nI q)), (0, .ref b), (1, rf G 0), (2, rf G 166), (3, rf G 175), (4, rf G 176), (5, .int (nI i))]) dL_law_2529 (by decide) rfl ?_
  refine vs_aload_n X dL_law_2531 3 rfl ?_
  refine vu_callM (bi := 166) (As := []) (st' := []) (mtX7_restoreSnapshot hl0  _ e2) X (cwV 0 X.2.2.2.2.1 gL_law_X7_restoreSnapshot rfl rfl rfl (by decide +kernel) ⟨Nat.le_of_ble_eq_true rfl, Nat.le_of_ble_eq_true rfl⟩) (by decide) (by decide) rfl rfl rfl (Nat.le_of_ble_eq_true rfl) dL_law_2532 ⟨by show _ ≤ 603072; omega, by show _ ≤ 7170154; omega⟩ ?_
  refine vs_istore X (lv' := [(7, .int v), (6, .int (nI q)), (0, .ref b), (1, rf G 0), (2, rf G 166), (3, rf G 175), (4, rf G 176), (5, .int (nI i))]) dL_law_2535 (by decide) rfl ?_
  refine vs_aload_n X dL_law_2537 4 rfl ?_
  refine vu_callM (bi := 166) (As := []) (st' := []) (mtX7_thrown hl0  _ rfl) X (cwV 0 X.2.2.2.2.1 gL_law_X7_thrown rfl rfl rfl (by decide +kernel) ⟨Nat.le_of_ble_eq_true rfl, Nat.le_of_ble_eq_true rfl⟩) (by decide) (by decide) rfl rfl rfl (Nat.le_of_ble_eq_true rfl) dL_law_2538 ⟨by show _ ≤ 603072; omega, by show _ ≤ 7170154; omega⟩ ?_
  refine vs_iload X dL_law_2541 1 rfl ?_
  refine vu_ieq X (tgt := 2548) dL_law_2543 (by decide) e3 ?_
  refine vs_iload X dL_law_2548 1 rfl ?_
  refine vu_ne X (tgt := 2565) dL_law_2550 (by decide) (fun _ => ?_) (fun h0 => ?_)
  · skip
    refine vs_goto X (tgt := 2568) dL_law_2565 (by decide) ?_
    refine vs_sub [2, 3, 4, 5, 6, 7] (lv' := [(0, .ref b), (1, rf G 0), (2, rf G 166), (3, rf G 175), (4, rf G 176), (5, .int (nI i))]) rfl ?_
    exact kk S2 _ _ _ (e5.up (by omega) (by omega)) (by omega) (by omega)
  · skip
    refine vs_aload_n X dL_law_2553 5 rfl ?_
    refine vs_iconst X (v := 0) dL_law_2554 (by decide) ?_
    refine vu_lald X dL_law_2555 ?_
    refine vs_iload X dL_law_2556 0 rfl ?_
    refine vs_i2lw X dL_law_2558 ?_
    refine vu_lcmp0 X (e4 h0) dL_law_2559 ?_
    refine vu_eq X (tgt := 2565) dL_law_2560 (by decide) (fun _ => ?_) (fun z => absurd rfl z)
    refine vs_goto X (tgt := 2568) dL_law_2565 (by decide) ?_
    refine vs_sub [2, 3, 4, 5, 6, 7] (lv' := [(0, .ref b), (1, rf G 0), (2, rf G 166), (3, rf G 175), (4, rf G 176), (5, .int (nI i))]) rfl ?_
    exact kk S2 _ _ _ (e5.up (by omega) (by omega)) (by omega) (by omega)
end LAWC

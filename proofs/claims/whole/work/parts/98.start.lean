/-! ===== the law's walk from its entry ===== -/
theorem law_from {p : Program} {e : Env} {s : State} {m : MethodId} {below : List Frame} {meth : Method} {c : Code} (l : Launch) (hflags : l.flags = flags0) {b L : Nat} {xs : Nat → Int32} (hL : L ≤ 2048) (C0 : lw_At p s m meth c b L xs) (hKK : ∃ G : Gt, KK G s ∧ gB G = s.heap.size) : W p l e room_1 s m #[Value.ref b] below meth c s.heap [] 0 0 (lw_Z below #[Value.ref b] s) (entryFrame m ([Value.ref b] : List Value).toArray 9) := by
  obtain ⟨G, hK, hG⟩ := hKK
  obtain ⟨hx, hc, hret, hml, hown, hts, hX, hbl, hlocks, -⟩ := C0
  have X : Cx G p s m #[Value.ref b] meth c "ScarecrowRegistryLaw" wsL_law cL_law 9 ret := ⟨hx, hc, hml, hown, fun w h => xt_hts hts w (wsL_law_in w h), hret, hlocks, hK⟩
  have hA : ¬ Af G b := by
    show ¬ gB G ≤ b
    omega
  have hl0 : l.stackTraces = false := by
    unfold Launch.stackTraces
    rw [hflags]; decide
  rw [lg_entry_eq]
  have hl := lv_entry [Value.ref b] (n := 9) (Nat.le_of_ble_eq_true rfl)
  have hend : ∀ k n (S : Wo) i, k ≤ 603072 → n ≤ 7170154 → LVW G p l e s m b below meth c (lw_Z below #[Value.ref b] s) k n S 2574 [(0, .ref b), (1, rf G 0), (2, rf G 166), (3, rf G 175), (4, rf G 176), (5, .int (nI i))] [] := by
    intro k n S i hk hn
    refine vs_iconst X (v := 1) dL_law_2574 (by decide) ?_
    intro r hr H locs ls hP hD hS hl
    refine va_forget (fun q hq => ?_) ?_
    · have := hS.2.2 q hq
      have : gB G ≤ q.base := this
      omega
    · refine W.widen hk hn ?_
      exact lw_ret (Drawn.sameBut.refl s.drawn lw_cs) hx hc hret hlocks dL_law_2575
  have h := law_make (F := fun _ => .inr (0, [])) X (law_loop hl0 X hX hbl hA hL hend 512 0 177 3192 (S0 G) 0 x00 (by omega) (by omega) (inv0 G) (by omega) (by omega) (by omega))
  refine h s.heap [] _ (fun k q hq => ?_) ⟨fun i j p q hp => ?_, fun k q hq => ?_⟩ ⟨Nat.le_refl _, fun _ _ _ => rfl, fun q hq => by cases hq⟩ hG.symm hl
  · cases hq
  · cases hp
  · cases hq

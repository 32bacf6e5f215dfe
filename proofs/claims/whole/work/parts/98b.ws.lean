/-! ===== the start ===== -/
theorem lw_cls : ∀ (c : Nat) (q : vw_C), vwCl[c]? = some q → (∀ w ∈ u_ws q.1 q.2.1 q.2.2, w ∈ lw_tbl) ∧ ∃ n, Cond.instantiable q.1 n ∈ lw_tbl := by
  intro c q hq
  have hin : ∃ n, Cond.instantiable q.1 n ∈ lw_tbl := ⟨q.2.2, List.mem_append_right _ (insW_in _ (List.mem_map.mpr ⟨q, List.mem_of_getElem? hq, rfl⟩))⟩
  refine ⟨?_, hin⟩
  have hc : c < 10 := (List.getElem?_eq_some_iff.mp hq).1
  rcases (by omega : c = 0 ∨ c = 1 ∨ c = 2 ∨ c = 3 ∨ c = 4 ∨ c = 5 ∨ c = 6 ∨ c = 7 ∨ c = 8 ∨ c = 9) with z | z | z | z | z | z | z | z | z | z
  · subst z; cases hq; exact inJ0
  · subst z; cases hq; exact inJ4
  · subst z; cases hq; exact inJx00060
  · subst z; cases hq; exact inJx7c733
  · subst z; cases hq; exact inX1
  · subst z; cases hq; exact inX2
  · subst z; cases hq; exact inX4
  · subst z; cases hq; exact inX5
  · subst z; cases hq; exact inX6
  · subst z; cases hq; exact inX7
theorem whole_start {p : Program} {e : Env} {s : State} {m : MethodId} {below : List Frame} {meth : Method} {c : Code} (l : Launch) (hflags : l.flags = flags0) {b L : Nat} {xs : Nat → Int32} (hL : L ≤ 2048) (C0 : lw_At p s m meth c b L xs) : W p l e room_1 s m #[Value.ref b] below meth c s.heap [] 0 0 (lw_Z below #[Value.ref b] s) (entryFrame m ([Value.ref b] : List Value).toArray 9) := by
  obtain ⟨-, -, -, -, -, hts, -, -, -, hgv⟩ := id C0
  exact law_from l hflags hL C0 (kk_all (flat_of_before _ hgv) (fun w h => hts w (List.mem_append_right _ h)) (kk_cls hts lw_cls))

/-! ===== what the start gives: the classes ===== -/
section KKC
variable {s : State} {b : Nat}
theorem kk_arr {ty : FieldType} (hty : ∀ C, ty ≠ .object C) (h : (Cond.arrayClass ty).before #[Value.ref b] s = true) : ∃ cA : ClassId, ArrOfT s cA ty ∧ va_RA s cA ty := by
  obtain ⟨cA, kA, comp, h1, h2, h3⟩ := Cond.arrayClass_spec h
  refine ⟨cA, fun n z => ⟨fun k h => ?_, kA, h2, comp, h3⟩, ?_⟩
  · cases h
  · cases ty with
    | object C => exact absurd rfl (hty C)
    | _ => exact h1
theorem kk_cls (hts : ∀ w ∈ lw_tbl, w.before #[Value.ref b] s = true) (hin : ∀ (c : Nat) (q : vw_C), vwCl[c]? = some q → (∀ w ∈ u_ws q.1 q.2.1 q.2.2, w ∈ lw_tbl) ∧ ∃ n, Cond.instantiable q.1 n ∈ lw_tbl) : ∃ D : va_G, ∀ (c : Nat) (q : vw_C), vwCl[c]? = some q → u_Kn s q.1 q.2.1 q.2.2 (D.1 c) (D.2 c) := by
  have h0 : ∀ c : Nat, ∃ d : ClassId × (Nat → Nat), ∀ q : vw_C, vwCl[c]? = some q → u_Kn s q.1 q.2.1 q.2.2 d.1 d.2 := by
    intro c
    cases hq : vwCl[c]? with
    | none => exact ⟨(0, fun _ => 0), fun q h => by cases h⟩
    | some q =>
      obtain ⟨h1, n, h2⟩ := hin c q hq
      obtain ⟨cC, iS, hK⟩ := u_known (n := n) hts h1 (hts _ h2)
      exact ⟨(cC, iS), fun q' h => by cases h; exact hK⟩
  obtain ⟨d, hd⟩ := Classical.axiomOfChoice h0
  exact ⟨(fun c => (d c).1, fun c => (d c).2), fun c q hq => hd c q hq⟩
theorem kk_ao {C : String} (h : (Cond.arrayOver (.object C)).before #[Value.ref b] s = true) : ∃ cA : ClassId, ArrOfT s cA (.object C) ∧ va_RA s cA (.object C) := by
  obtain ⟨comp, c, k, h1, h2, h3, h4, h5⟩ := Cond.arrayOver_spec h
  refine ⟨c, fun n z => ⟨fun k h => ?_, k, h3, comp, h4⟩, k, comp, h3, h4, h1, h5⟩
  cases h
end KKC

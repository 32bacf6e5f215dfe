/-! ===== the first world ===== -/
def A00 : As := ((0, 0, 0, 0, 0, 0), fun _ => 0, fun _ => (0, 0, 0, 0), fun _ => 9)
def x00 : AX := (A00, (0, fun _ => A00), none, (0, fun _ => 0), (0, fun _ => 0), (0, 0, 0), -1)
theorem wf_00 : WFA 0 A00 := ⟨⟨⟨by decide, by decide, by decide, by decide⟩, fun k hk => absurd hk (Nat.not_lt_zero _), fun k hk => absurd hk (Nat.not_lt_zero _), fun _ _ => by show 9 ≤ 99; decide⟩, fun k hk => absurd hk (Nat.not_lt_zero _)⟩
theorem inv0 (G : Gt) : Inv 0 x00 (S0 G) := by
  refine ⟨⟨wf_00, ⟨Nat.zero_le _, fun a ha => absurd ha (Nat.not_lt_zero _)⟩, fun B hB => (by cases hB), Nat.zero_le _, ⟨Nat.zero_le _, fun i hi => absurd hi (Nat.not_lt_zero _)⟩, Or.inl rfl⟩, ⟨?_, ⟨0, by decide, rfl, rfl, fun a ha => absurd ha (Nat.not_lt_zero _)⟩, ⟨rfl, fun B hB => (by cases hB)⟩, ⟨rfl, fun i hi => absurd hi (Nat.not_lt_zero _)⟩, ⟨rfl, rfl, Or.inl rfl, Nat.zero_le _, fun i hi => absurd hi (Nat.not_lt_zero _), fun i hi => ⟨0, by decide, rfl⟩⟩, rfl, rfl, rfl, rfl⟩, ⟨?_, ⟨rfl, rfl, fun a ha => absurd ha (Nat.not_lt_zero _)⟩, ⟨rfl, fun B hB => (by cases hB)⟩, ⟨rfl, fun i hi => absurd hi (Nat.not_lt_zero _)⟩, ⟨rfl, fun i hi => absurd hi (Nat.not_lt_zero _)⟩, rfl, rfl, rfl, rfl⟩⟩
  · refine ⟨⟨rfl, rfl, rfl, rfl, rfl, rfl⟩, fun k hk => absurd hk (Nat.not_lt_zero _), fun k hk => absurd hk (Nat.not_lt_zero _), fun f hf => ?_⟩
    show (if f < 16 then (9 : Int32) else 0) = nI 9
    rw [if_pos hf]; rfl
  · refine ⟨⟨rfl, rfl, rfl, rfl, rfl, rfl⟩, fun k hk => absurd hk (Nat.not_lt_zero _), fun k hk => absurd hk (Nat.not_lt_zero _), fun f hf => ?_⟩
    show (if 16 ≤ 16 + f ∧ 16 + f < 32 then (9 : Int32) else 0) = nI 9
    rw [if_pos (by omega)]; rfl

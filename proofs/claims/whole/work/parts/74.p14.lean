/-! ===== the steps of the eight changes ===== -/
theorem bxc_0 {ρ τ : Type} (a : τ) (T : Wo) (g : τ → Wo → Option ρ) (h : Nat → Wo → Option ρ) : bxc (some (0, a, T)) g h = g a T := rfl
/-- a change is done, with a state that is right, or one of the refusals ks, with the state as it was -/
def Cw (D : Nat) (A : As) (d : Int32 × Int32 × Int32) (ks : List Nat) (c : Co) : Prop := (c.1 = 0 ∧ c.2.1 < 2 ^ 31 ∧ c.2.2.2 = d ∧ WFA D c.2.2.1) ∨ (c.1 ∈ ks ∧ c.1 ≠ 0 ∧ c.1 ≤ 3 ∧ c.2.2.1 = A)
section WFC
variable {D : Nat} {A B : As} {d d' : Int32 × Int32 × Int32} {p q r : Int32} {ks : List Nat} {c : Co}
theorem Cw.ok {v : Nat} (h : WFA D B) (hv : v < 2 ^ 31) : Cw D A d ks (0, v, B, d) := Or.inl ⟨rfl, hv, rfl, h⟩
theorem Cw.no {k : Nat} (h : k ∈ ks) (h0 : k ≠ 0) (h3 : k ≤ 3) : Cw D A d ks (k, 0, A, d') := Or.inr ⟨h, h0, h3, rfl⟩
theorem Cw.le (h : Cw D A d ks c) : c.1 ≤ 3 := by
  rcases h with h | h
  · omega
  · exact h.2.2.1
theorem Cw.z (h : Cw D A d ks c) (h0 : c.1 = 0) : c.2.1 < 2 ^ 31 ∧ c.2.2.2 = d ∧ WFA D c.2.2.1 := by
  rcases h with h | h
  · exact h.2
  · exact absurd h0 h.2.1
theorem Cw.n (h : Cw D A d ks c) (h0 : c.1 ≠ 0) : c.1 ∈ ks ∧ c.2.2.1 = A := by
  rcases h with h | h
  · exact absurd h.1 h0
  · exact ⟨h.1, h.2.2.2⟩
theorem cw_put (w : WFA D A) : Cw D A d [2, 3] (coPut A d p) := by
  have hn := w.1.1.1
  unfold coPut
  cases hx : ixo p 16 with
  | none => exact Cw.no (by decide) (by decide) (by decide)
  | some f =>
    obtain ⟨h1, -⟩ := ixo_some hx
    show Cw D A d _ (if aN A < 10 then _ else _)
    by_cases e : aN A < 10
    · rw [if_pos e]
      cases hs : stn A p with
      | none => exact Cw.ok (wf_reg w e h1) (by omega)
      | some k => exact Cw.no (by decide) (by decide) (by decide)
    · rw [if_neg e]
      exact Cw.no (by decide) (by decide) (by decide)
theorem cw_mov (w : WFA D A) : Cw D A d [1, 2, 3] (coMov A d p q) := by
  unfold coMov
  cases hx : ixo p (aN A) with
  | none => exact Cw.no (by decide) (by decide) (by decide)
  | some s =>
    obtain ⟨h1, -⟩ := ixo_some hx
    show Cw D A d _ (match ixo q 16 with | none => _ | some f => _)
    cases hy : ixo q 16 with
    | none => exact Cw.no (by decide) (by decide) (by decide)
    | some f =>
      obtain ⟨h2, -⟩ := ixo_some hy
      show Cw D A d _ (match stn A q with | none => _ | some f => _)
      cases hs : stn A q with
      | none => exact Cw.ok (wf_mov w h2) (by have := w.1.2.1 s h1; omega)
      | some k => exact Cw.no (by decide) (by decide) (by decide)
theorem cw_rev {b : Bool} (w : WFA D A) : Cw D A d [1, 3] (coRev A d p b) := by
  unfold coRev
  cases hx : ixo p (aN A) with
  | none => exact Cw.no (by decide) (by decide) (by decide)
  | some s =>
    show Cw D A d _ (if bt (aR A) s = b then _ else _)
    by_cases e : bt (aR A) s = b
    · rw [if_pos e]
      exact Cw.no (by decide) (by decide) (by decide)
    · rw [if_neg e]
      exact Cw.ok (wf_rev w) (by have := fb_ct_le (bt (cfd (revA A s) (aD A))) 16; omega)
theorem cw_root (w : WFA D A) : Cw D A d [1, 2, 3] (coRoot A d p q) := by
  unfold coRoot
  cases hx : ixo p (aN A) with
  | none => exact Cw.no (by decide) (by decide) (by decide)
  | some s =>
    obtain ⟨h1, -⟩ := ixo_some hx
    show Cw D A d _ (match rng q 0 99 with | none => _ | some n => _)
    cases hy : rng q 0 99 with
    | none => exact Cw.no (by decide) (by decide) (by decide)
    | some n =>
      obtain ⟨-, h2, -⟩ := rng_some hy
      show Cw D A d _ (if aM A < 20 then _ else _)
      by_cases e : aM A < 20
      · rw [if_pos e]
        exact Cw.ok (wf_add w e (Nat.zero_le _) h1 h2) (by omega)
      · rw [if_neg e]
        exact Cw.no (by decide) (by decide) (by decide)
theorem cw_iss (w : WFA D A) : Cw D A d [1, 2, 3] (coIss A d p q r) := by
  unfold coIss
  cases hx : ixo p (aN A) with
  | none => exact Cw.no (by decide) (by decide) (by decide)
  | some i =>
    obtain ⟨h1, -⟩ := ixo_some hx
    show Cw D A d _ (match ixo q (aN A) with | none => _ | some s => _)
    cases hz : ixo q (aN A) with
    | none => exact Cw.no (by decide) (by decide) (by decide)
    | some s =>
      obtain ⟨h3, -⟩ := ixo_some hz
      show Cw D A d _ (match rng r 0 99 with | none => _ | some n => _)
      cases hy : rng r 0 99 with
      | none => exact Cw.no (by decide) (by decide) (by decide)
      | some n =>
        obtain ⟨-, h2, -⟩ := rng_some hy
        show Cw D A d _ (if i = s then _ else _)
        by_cases e1 : i = s
        · rw [if_pos e1]
          exact Cw.no (by decide) (by decide) (by decide)
        · rw [if_neg e1]
          by_cases e2 : bt (cfd A (aD A)) i = false
          · rw [if_pos e2]
            exact Cw.no (by decide) (by decide) (by decide)
          · rw [if_neg e2]
            by_cases e : aM A < 20
            · rw [if_pos e]
              exact Cw.ok (wf_add w e h1 h3 h2) (by omega)
            · rw [if_neg e]
              exact Cw.no (by decide) (by decide) (by decide)
theorem cw_drop (w : WFA D A) : Cw D A d [1] (coDrop A d p) := by
  have hn := w.1.1.1
  unfold coDrop
  cases hx : ixo p (aM A) with
  | none => exact Cw.no (by decide) (by decide) (by decide)
  | some c =>
    obtain ⟨h1, -⟩ := ixo_some hx
    exact Cw.ok (wf_rem w h1) (by have := (w.1.2.2.1 c h1).2.1; omega)
theorem cw_sow (w : WFA D A) : Cw D A d [2, 3] (coSow A d p q) := by
  unfold coSow
  cases hx : ixo p 16 with
  | none => exact Cw.no (by decide) (by decide) (by decide)
  | some f =>
    show Cw D A d _ (match rng q 1 99 with | none => _ | some n => _)
    cases hy : rng q 1 99 with
    | none => exact Cw.no (by decide) (by decide) (by decide)
    | some n =>
      show Cw D A d _ (if aG A f + n ≤ 99 then _ else _)
      by_cases e : aG A f + n ≤ 99
      · rw [if_pos e]
        exact Cw.ok (wf_sow w e) (by omega)
      · rw [if_neg e]
        exact Cw.no (by decide) (by decide) (by decide)
theorem cw_wait (w : WFA D A) (hD : D + 60 ≤ 1000000) : Cw (D + 60) A d [2] (coWait A d p) := by
  unfold coWait
  cases hx : rng p 1 60 with
  | none => exact Cw.no (by decide) (by decide) (by decide)
  | some k =>
    obtain ⟨-, h2, -⟩ := rng_some hx
    exact Cw.ok (wf_up (wf_pas w (by omega)) (by omega) hD) (by have := dysN_le k A; omega)
theorem in1 {k a : Nat} (h : k ∈ [a]) : k = a := List.mem_singleton.mp h
theorem in2 {k a b : Nat} (h : k ∈ [a, b]) : k = a ∨ k = b := by simpa using h
theorem in3 {k a b c : Nat} (h : k ∈ [a, b, c]) : k = a ∨ k = b ∨ k = c := by simpa using h
end WFC
section STC
variable {D : Nat} {x : AX} {S : Wo}
theorem st_register (p : Int32) (h : Inv D x S) (hD : D ≤ 1000000) : StI (spL_register p) (spX7_register p) S D := by
  have cw := cw_put (d := xD x) (p := p) h.1.1
  refine stC (sp6 := spX6_register p) (core := spX6_putScarecrow p) (c := coPut (xA x) (xD x) p) (code := fun k => k - 1) h rfl (fun T r d => k6_put r h.1.1.1 d) (fun T c => k7_put c h.1) cw.le cw.z (fun q => (cw.n q).2) (Nat.le_refl _) hD (fun a T e => ?_) (fun a T hc e => ?_) (fun hc => ?_)
  · unfold spL_register; rw [e, bxc_0]; rfl
  · unfold spL_register
    rw [e]
    rcases in2 (cw.n hc).1 with q | q
    · unfold coX; rw [q]; rfl
    · unfold coX; rw [q]; rfl
  · rcases in2 (cw.n hc).1 with q | q <;> (rw [q]; decide)
theorem st_move (p q : Int32) (h : Inv D x S) (hD : D ≤ 1000000) : StI (spL_move p q) (spX7_move p q) S D := by
  have cw := cw_mov (d := xD x) (p := p) (q := q) h.1.1
  refine stC (sp6 := spX6_move p q) (core := spX6_moveScarecrow p q) (c := coMov (xA x) (xD x) p q) (code := fun k => k) h rfl (fun T r d => k6_mov r h.1.1.1 d) (fun T c => k7_mov c h.1) cw.le cw.z (fun q => (cw.n q).2) (Nat.le_refl _) hD (fun a T e => ?_) (fun a T hc e => ?_) (fun hc => nI_n0c hc cw.le)
  · unfold spL_move; rw [e, bxc_0]; rfl
  · unfold spL_move
    rw [e]
    rcases in3 (cw.n hc).1 with q | q | q
    · unfold coX; rw [q]; rfl
    · unfold coX; rw [q]; rfl
    · unfold coX; rw [q]; rfl
theorem st_setRevoked (p : Int32) (b : Bool) (h : Inv D x S) (hD : D ≤ 1000000) : StI (spL_setRevoked p (b2 b)) (spX7_setRevoked p (b2 b)) S D := by
  have cw := cw_rev (d := xD x) (p := p) (b := b) h.1.1
  refine stC (sp6 := spX6_setRevoked p (b2 b)) (core := spX6_revokeOrRestore p (b2 b)) (c := coRev (xA x) (xD x) p b) (code := fun k => if k = 3 then 2 else k) h rfl (fun T r d => k6_rev r h.1.1 d) (fun T c => k7_rev c h.1) cw.le cw.z (fun q => (cw.n q).2) (Nat.le_refl _) hD (fun a T e => ?_) (fun a T hc e => ?_) (fun hc => ?_)
  · unfold spL_setRevoked; rw [e, bxc_0]; rfl
  · unfold spL_setRevoked
    rw [e]
    rcases in2 (cw.n hc).1 with q | q
    · unfold coX; rw [q]; rfl
    · unfold coX; rw [q]; rfl
  · rcases in2 (cw.n hc).1 with q | q <;> (rw [q]; decide)
theorem st_issueByRegistry (p q : Int32) (h : Inv D x S) (hD : D ≤ 1000000) : StI (spL_issueByRegistry p q) (spX7_issueByRegistry p q) S D := by
  have cw := cw_root (d := xD x) (p := p) (q := q) h.1.1
  refine stC (sp6 := spX6_issueByRegistry p q) (core := spX6_certifyByRegistry p q) (c := coRoot (xA x) (xD x) p q) (code := fun k => k) h rfl (fun T r d => k6_root r h.1.1.1 d) (fun T c => k7_root c h.1) cw.le cw.z (fun q => (cw.n q).2) (Nat.le_refl _) hD (fun a T e => ?_) (fun a T hc e => ?_) (fun hc => nI_n0c hc cw.le)
  · unfold spL_issueByRegistry; rw [e, bxc_0]; rfl
  · unfold spL_issueByRegistry
    rw [e]
    rcases in3 (cw.n hc).1 with q | q | q
    · unfold coX; rw [q]; rfl
    · unfold coX; rw [q]; rfl
    · unfold coX; rw [q]; rfl
theorem st_issue (p q r : Int32) (h : Inv D x S) (hD : D ≤ 1000000) : StI (spL_issue p q r) (spX7_issue p q r) S D := by
  have cw := cw_iss (d := xD x) (p := p) (q := q) (r := r) h.1.1
  refine stC (sp6 := spX6_issue p q r) (core := spX6_certifyByScarecrow p q r) (c := coIss (xA x) (xD x) p q r) (code := fun k => k) h rfl (fun T r d => k6_iss r h.1.1.1 d) (fun T c => k7_iss c h.1) cw.le cw.z (fun q => (cw.n q).2) (Nat.le_refl _) hD (fun a T e => ?_) (fun a T hc e => ?_) (fun hc => nI_n0c hc cw.le)
  · unfold spL_issue; rw [e, bxc_0]; rfl
  · unfold spL_issue
    rw [e]
    rcases in3 (cw.n hc).1 with q | q | q
    · unfold coX; rw [q]; rfl
    · unfold coX; rw [q]; rfl
    · unfold coX; rw [q]; rfl
theorem st_withdraw (p : Int32) (h : Inv D x S) (hD : D ≤ 1000000) : StI (spL_withdraw p) (spX7_withdraw p) S D := by
  have cw := cw_drop (d := xD x) (p := p) h.1.1
  refine stC (sp6 := spX6_withdraw p) (core := spX6_dropCertificate p) (c := coDrop (xA x) (xD x) p) (code := fun k => k) h rfl (fun T r d => k6_drop r h.1.1.1 d) (fun T c => k7_drop c h.1) cw.le cw.z (fun q => (cw.n q).2) (Nat.le_refl _) hD (fun a T e => ?_) (fun a T hc e => ?_) (fun hc => nI_n0c hc cw.le)
  · unfold spL_withdraw; rw [e, bxc_0]; rfl
  · unfold spL_withdraw
    rw [e]
    have q := in1 (cw.n hc).1
    unfold coX; rw [q]; rfl
theorem st_sow (p q : Int32) (h : Inv D x S) (hD : D ≤ 1000000) : StI (spL_sow p q) (spX7_sow p q) S D := by
  have cw := cw_sow (d := xD x) (p := p) (q := q) h.1.1
  refine stC (sp6 := spX6_sow p q) (core := spX6_putGrains p q) (c := coSow (xA x) (xD x) p q) (code := fun k => k - 1) h rfl (fun T r d => k6_sow r h.1.1.1 d) (fun T c => k7_sow c h.1) cw.le cw.z (fun q => (cw.n q).2) (Nat.le_refl _) hD (fun a T e => ?_) (fun a T hc e => ?_) (fun hc => ?_)
  · unfold spL_sow; rw [e, bxc_0]; rfl
  · unfold spL_sow
    rw [e]
    rcases in2 (cw.n hc).1 with q | q
    · unfold coX; rw [q]; rfl
    · unfold coX; rw [q]; rfl
  · rcases in2 (cw.n hc).1 with q | q <;> (rw [q]; decide)
theorem st_pass (p : Int32) (h : Inv D x S) (hD : D + 60 ≤ 1000000) : StI (spL_pass p) (spX7_pass p) S (D + 60) := by
  have cw := cw_wait (d := xD x) (p := p) h.1.1 hD
  refine stC (sp6 := spX6_pass p) (core := spX6_passDays p) (c := coWait (xA x) (xD x) p) (code := fun k => k - 1) h rfl (fun T r d => k6_wait r h.1.1 hD d) (fun T c => k7_wait c h.1 hD) cw.le cw.z (fun q => (cw.n q).2) (by omega) hD (fun a T e => ?_) (fun a T hc e => ?_) (fun hc => ?_)
  · unfold spL_pass; rw [e, bxc_0]; rfl
  · unfold spL_pass
    rw [e]
    have q := in1 (cw.n hc).1
    unfold coX; rw [q]; rfl
  · have q := in1 (cw.n hc).1
    rw [q]; decide
end STC

/-! ===== a command of a text, run ===== -/
def coR (A : As) (d : Int32 × Int32 × Int32) (c : Nat × List Nat) : Co :=
  if c.1 = 0 then coPut A d (nI (c.2.getD 0 0)) else if c.1 = 1 then coMov A d (nI (c.2.getD 0 0)) (nI (c.2.getD 1 0))
  else if c.1 = 2 then coRev A d (nI (c.2.getD 0 0)) true else if c.1 = 3 then coRev A d (nI (c.2.getD 0 0)) false
  else if c.1 = 4 then coRoot A d (nI (c.2.getD 0 0)) (nI (c.2.getD 1 0)) else if c.1 = 5 then coIss A d (nI (c.2.getD 0 0)) (nI (c.2.getD 1 0)) (nI (c.2.getD 2 0))
  else if c.1 = 6 then coDrop A d (nI (c.2.getD 0 0)) else if c.1 = 7 then coSow A d (nI (c.2.getD 0 0)) (nI (c.2.getD 1 0)) else coWait A d (nI (c.2.getD 0 0))
def Cq (D : Nat) (A : As) (d : Int32 × Int32 × Int32) (c : Co) : Prop := (c.1 = 0 → c.2.1 < 2 ^ 31 ∧ c.2.2.2 = d ∧ WFA D c.2.2.1) ∧ (c.1 ≠ 0 → c.1 ≤ 3 ∧ c.2.2.1 = A)
theorem Cw.q {D D' : Nat} {A : As} {d : Int32 × Int32 × Int32} {ks : List Nat} {c : Co} (h : Cw D A d ks c) (h1 : D ≤ D') (h2 : D' ≤ 1000000) : Cq D' A d c := ⟨fun e => ⟨(h.z e).1, (h.z e).2.1, wf_up (h.z e).2.2 h1 h2⟩, fun e => ⟨h.le, (h.n e).2⟩⟩
section RUN
variable {D : Nat} {A : As} {d : Int32 × Int32 × Int32} {c : Nat × List Nat}
theorem cq_R (w : WFA D A) (hD : D + 60 ≤ 1000000) : Cq (D + 60) A d (coR A d c) := by
  have u1 : D ≤ D + 60 := by omega
  unfold coR
  by_cases e0 : c.1 = 0
  · rw [if_pos e0]; exact (cw_put w).q u1 hD
  rw [if_neg e0]
  by_cases e0 : c.1 = 1
  · rw [if_pos e0]; exact (cw_mov w).q u1 hD
  rw [if_neg e0]
  by_cases e0 : c.1 = 2
  · rw [if_pos e0]; exact (cw_rev w).q u1 hD
  rw [if_neg e0]
  by_cases e0 : c.1 = 3
  · rw [if_pos e0]; exact (cw_rev w).q u1 hD
  rw [if_neg e0]
  by_cases e0 : c.1 = 4
  · rw [if_pos e0]; exact (cw_root w).q u1 hD
  rw [if_neg e0]
  by_cases e0 : c.1 = 5
  · rw [if_pos e0]; exact (cw_iss w).q u1 hD
  rw [if_neg e0]
  by_cases e0 : c.1 = 6
  · rw [if_pos e0]; exact (cw_drop w).q u1 hD
  rw [if_neg e0]
  by_cases e0 : c.1 = 7
  · rw [if_pos e0]; exact (cw_sow w).q u1 hD
  rw [if_neg e0]
  exact (cw_wait w hD).q (Nat.le_refl _) hD
theorem bd2_id (o : Option (Int32 × Wo)) : bd2 o (fun a T => some (a, T)) = o := by cases o <;> rfl
theorem fg_len : (Fg 0).length = 1 ∧ (Fg 1).length = 2 ∧ (Fg 2).length = 1 ∧ (Fg 3).length = 1 ∧ (Fg 4).length = 2 ∧ (Fg 5).length = 3 ∧ (Fg 6).length = 1 ∧ (Fg 7).length = 2 ∧ (Fg 8).length = 1 := by decide
theorem k6_R {S : Wo} (h : RS S 1 A) (w : WFA D A) (hD : D + 60 ≤ 1000000) (hd : D6 d S) (hk : c.1 < 9) (hK : S.2.2.1.1 = c.1) (hv : ∀ i, i < (Fg c.1).length → S.2.1 163 i = nI (c.2.getD i 0)) : K6 d S (spX6_runCommand S) (coR A d c) := by
  obtain ⟨l0, l1, l2, l3, l4, l5, l6, l7, l8⟩ := fg_len
  obtain ⟨k, vs⟩ := c
  have hk : k < 9 := hk
  have hK : S.2.2.1.1 = k := hK
  have hv : ∀ i, i < (Fg k).length → S.2.1 163 i = nI (vs.getD i 0) := hv
  have g0 : spX4_get 162 3 0 S = some (S.2.1 163 0) := q_get (r := 162) (N := 3) (k := 0) (by decide) (by decide) S
  have g1 : spX4_get 162 3 1 S = some (S.2.1 163 1) := q_get (r := 162) (N := 3) (k := 1) (by decide) (by decide) S
  have g2 : spX4_get 162 3 2 S = some (S.2.1 163 2) := q_get (r := 162) (N := 3) (k := 2) (by decide) (by decide) S
  have eo : spJx29ce0_ordinal_8abf5 k S = some (nI k) := by unfold spJx29ce0_ordinal_8abf5; rw [if_pos hk]
  unfold spX6_runCommand coR
  rw [g0, Option.bind_some, g1, Option.bind_some, g2, Option.bind_some, hK, if_pos hk, eo, Option.bind_some, if_pos (q_in hk (by decide)), q_ix (by omega)]
  simp only [bd2_id]
  rcases (by omega : k = 0 ∨ k = 1 ∨ k = 2 ∨ k = 3 ∨ k = 4 ∨ k = 5 ∨ k = 6 ∨ k = 7 ∨ k = 8) with e | e | e | e | e | e | e | e | e
  · subst e
    have v0 := hv 0 (by rw [l0]; decide)
    rw [v0]
    exact k6_put h w.1 hd
  · subst e
    have v0 := hv 0 (by rw [l1]; decide)
    have v1 := hv 1 (by rw [l1]; decide)
    rw [v0, v1]
    exact k6_mov h w.1 hd
  · subst e
    have v0 := hv 0 (by rw [l2]; decide)
    rw [v0]
    exact k6_rev (b := true) h w hd
  · subst e
    have v0 := hv 0 (by rw [l3]; decide)
    rw [v0]
    exact k6_rev (b := false) h w hd
  · subst e
    have v0 := hv 0 (by rw [l4]; decide)
    have v1 := hv 1 (by rw [l4]; decide)
    rw [v0, v1]
    exact k6_root h w.1 hd
  · subst e
    have v0 := hv 0 (by rw [l5]; decide)
    have v1 := hv 1 (by rw [l5]; decide)
    have v2 := hv 2 (by rw [l5]; decide)
    rw [v0, v1, v2]
    exact k6_iss h w.1 hd
  · subst e
    have v0 := hv 0 (by rw [l6]; decide)
    rw [v0]
    exact k6_drop h w.1 hd
  · subst e
    have v0 := hv 0 (by rw [l7]; decide)
    have v1 := hv 1 (by rw [l7]; decide)
    rw [v0, v1]
    exact k6_sow h w.1 hd
  · subst e
    have v0 := hv 0 (by rw [l8]; decide)
    rw [v0]
    exact k6_wait h w hD hd
/-- the reference's command -/
def R7 (x : AX) (S : Wo) (sp : Option (Int32 × Wo)) (c : Co) : Prop := ∃ b T, sp = some (b, T) ∧ FrR S T ∧ C7w true (apx true x c) T ∧ (c.1 = 0 → T.1 166 9 = 0) ∧ (c.1 ≠ 0 → (∃ j, 0 < j ∧ j ≤ 3 ∧ T.1 166 9 = nI j) ∧ T.1 166 8 = b2 (decide (c.1 = 3)))
theorem K7.r {x : AX} {S : Wo} {sp : Option (Int32 × Wo)} {c : Co} {code : Nat → Nat} {ks : List Nat} {D : Nat} {A : As} {d : Int32 × Int32 × Int32} (h : K7 true x S sp c code) (hw : Cw D A d ks c) (hks : ∀ k ∈ ks, 0 < code k ∧ code k ≤ 3) : R7 x S sp c := by
  obtain ⟨b, T, e1, f1, c1, g0, g1⟩ := h
  exact ⟨b, T, e1, f1, c1, fun e => (g0 e).1, fun e => ⟨⟨code c.1, (hks _ (hw.n e).1).1, (hks _ (hw.n e).1).2, (g1 e).1⟩, (g1 e).2.1⟩⟩
theorem k7_R {x : AX} {S : Wo} {i : Nat} (h : C7w true x S) (wx : WX D x) (hD : D + 60 ≤ 1000000) (hk : c.1 < 9) (hi : i ≤ 30) (he : Ent S i c) : R7 x S (spX7_carries (nI (4 * i)) S) (coR (xA x) (xD x) c) := by
  obtain ⟨l0, l1, l2, l3, l4, l5, l6, l7, l8⟩ := fg_len
  obtain ⟨k, vs⟩ := c
  have hk : k < 9 := hk
  obtain ⟨hK, hv⟩ := he
  have hK : S.2.1 174 (4 * i) = nI k := hK
  have hv : ∀ a, a < (Fg k).length → S.2.1 174 (4 * i + 1 + a) = nI (vs.getD a 0) := hv
  have e2 : nI (4 * i) + 2 = nI (4 * i + 2) := nI_add (a := 4 * i) (b := 2)
  have e3 : nI (4 * i) + 3 = nI (4 * i + 3) := nI_add (a := 4 * i) (b := 3)
  have w := wx.1
  unfold spX7_carries coR
  rw [nI_1, e2, e3, if_pos (q_in (by omega) (by decide)), if_pos (q_in (by omega) (by decide)), if_pos (q_in (by omega) (by decide)), if_pos (q_in (by omega) (by decide)), q_ix (by omega), q_ix (by omega), q_ix (by omega), q_ix (by omega), hK]
  simp only [bd2_id]
  rcases (by omega : k = 0 ∨ k = 1 ∨ k = 2 ∨ k = 3 ∨ k = 4 ∨ k = 5 ∨ k = 6 ∨ k = 7 ∨ k = 8) with e | e | e | e | e | e | e | e | e
  · subst e
    have v0 := hv 0 (by rw [l0]; decide)
    rw [v0]
    exact (k7_put h wx).r (cw_put (d := xD x) w) (by decide)
  · subst e
    have v0 := hv 0 (by rw [l1]; decide)
    have v1 := hv 1 (by rw [l1]; decide)
    rw [v0, v1]
    exact (k7_mov h wx).r (cw_mov (d := xD x) w) (by decide)
  · subst e
    have v0 := hv 0 (by rw [l2]; decide)
    rw [v0]
    exact (k7_rev (b := true) h wx).r (cw_rev (d := xD x) w) (by decide)
  · subst e
    have v0 := hv 0 (by rw [l3]; decide)
    rw [v0]
    exact (k7_rev (b := false) h wx).r (cw_rev (d := xD x) w) (by decide)
  · subst e
    have v0 := hv 0 (by rw [l4]; decide)
    have v1 := hv 1 (by rw [l4]; decide)
    rw [v0, v1]
    exact (k7_root h wx).r (cw_root (d := xD x) w) (by decide)
  · subst e
    have v0 := hv 0 (by rw [l5]; decide)
    have v1 := hv 1 (by rw [l5]; decide)
    have v2 := hv 2 (by rw [l5]; decide)
    rw [v0, v1, v2]
    exact (k7_iss h wx).r (cw_iss (d := xD x) w) (by decide)
  · subst e
    have v0 := hv 0 (by rw [l6]; decide)
    rw [v0]
    exact (k7_drop h wx).r (cw_drop (d := xD x) w) (by decide)
  · subst e
    have v0 := hv 0 (by rw [l7]; decide)
    have v1 := hv 1 (by rw [l7]; decide)
    rw [v0, v1]
    exact (k7_sow h wx).r (cw_sow (d := xD x) w) (by decide)
  · subst e
    have v0 := hv 0 (by rw [l8]; decide)
    rw [v0]
    exact (k7_wait h wx hD).r (cw_wait (d := xD x) w hD) (by decide)
end RUN

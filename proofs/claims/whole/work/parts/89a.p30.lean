/-! ===== a text run: all its commands, or none ===== -/
def setF (x : AX) (v : Int32) : AX := (x.1, x.2.1, x.2.2.1, x.2.2.2.1, x.2.2.2.2.1, x.2.2.2.2.2.1, v)
def run : As → (Int32 × Int32 × Int32) → List (Nat × List Nat) → Nat → As × (Int32 × Int32 × Int32) × Option (Nat × Nat)
  | A, d, [], _ => (A, d, none)
  | A, d, c :: r, i => if (coR A d c).1 = 0 then run (coR A d c).2.2.1 d r (i + 1) else (A, (coR A d c).2.2.2, some (i, (coR A d c).1))
theorem C6.frT {x : AX} {S T : Wo} (h : C6 x S) (hf : FrT S T) : C6 x T := by
  obtain ⟨h1, ⟨old, q1, h2, h3, h4⟩, ⟨h5, h6⟩, ⟨h7, h8⟩, h9, h10⟩ := h
  obtain ⟨f1, f2, f3, f4, f5⟩ := hf
  have rs : ∀ o B, o + 12 < 159 → RS S o B → RS T o B := fun o B ho h => h.cong (fun k => by rw [f1 o (by omega)]) (fun j hj => f3 _ (by omega))
  refine ⟨rs _ _ (by decide) h1, ⟨old, q1, by rw [f1 53 (by decide)]; exact h2, by rw [f1 53 (by decide)]; exact h3, fun a ha => rs _ _ (hsl_rg old a).2 (h4 a ha)⟩, ⟨by rw [f1 0 (by decide)]; exact h5, fun B hB => rs _ _ (by decide) (h6 B hB)⟩, ⟨by rw [f2 1 (by decide)]; exact h7, by rw [f3 161 (by decide)]; exact h8⟩, ?_, by rw [f1 0 (by decide)]; exact h10⟩
  rw [f1 164 (by decide), f3 165 (by decide), f4]
  exact h9
theorem FrT.f6 {S T : Wo} (h : FrT S T) : Fr6 S T := ⟨fun a q => h.1 a (by omega), fun a q => h.2.2.1 a (by omega)⟩
theorem RS.frT {S T : Wo} {o : Nat} {B : As} (h : RS S o B) (hf : FrT S T) (ho : o + 12 < 159) : RS T o B := h.cong (fun k => by rw [hf.1 o (by omega)]) (fun j hj => hf.2.2.1 _ (by omega))
theorem C6.clr {x : AX} {S : Wo} (h : C6 x S) : C6 (setT x 0 (xC x)) (pI S 159 1 0) := by
  obtain ⟨h1, ⟨old, q1, h2, h3, h4⟩, ⟨h5, h6⟩, ⟨h7, h8⟩, h9, h10⟩ := h
  have rs : ∀ o B, o + 12 < 159 → RS S o B → RS (pI S 159 1 0) o B := fun o B ho h => h.cong (fun k => by rw [pI_ne (by omega)]) (fun j hj => rfl)
  refine ⟨rs _ _ (by decide) h1, ⟨old, q1, by rw [pI_ne (by decide)]; exact h2, by rw [pI_ne (by decide)]; exact h3, fun a ha => rs _ _ (hsl_rg old a).2 (h4 a ha)⟩, ⟨by rw [pI_ne (by decide)]; exact h5, fun B hB => rs _ _ (by decide) (h6 B hB)⟩, ⟨pI_at _ _ _ _, fun i hi => absurd hi (Nat.not_lt_zero _)⟩, ?_, by rw [pI_ne (by decide)]; exact h10⟩
  rw [pI_ne (by decide)]
  exact h9
theorem C6.flt {x : AX} {S : Wo} (h : C6 x S) (v : Int32) : C6 (setF x v) (pI S 0 8 v) := by
  obtain ⟨h1, ⟨old, q1, h2, h3, h4⟩, ⟨h5, h6⟩, ⟨h7, h8⟩, h9, h10⟩ := h
  have rs : ∀ o B, 0 < o → RS S o B → RS (pI S 0 8 v) o B := fun o B ho h => h.cong (fun k => by rw [pI_ne (by omega)]) (fun j hj => rfl)
  refine ⟨rs _ _ (by decide) h1, ⟨old, q1, by rw [pI_ne (by decide)]; exact h2, by rw [pI_ne (by decide)]; exact h3, fun a ha => rs _ _ (by have := (hsl_rg old a).1; omega) (h4 a ha)⟩, ⟨by rw [pI_k (by decide)]; exact h5, fun B hB => rs _ _ (by decide) (h6 B hB)⟩, ⟨by rw [pI_ne (by decide)]; exact h7, h8⟩, ?_, ?_⟩
  · rw [pI_ne (by decide)]
    exact h9
  · rw [pI_at, pI_k (by decide), pI_k (by decide), pI_k (by decide)]
    exact ⟨rfl, h10.2⟩
theorem C7w.fu {wi : Bool} {x : AX} {S T : Wo} (h : C7w wi x S) (hf : FrU S T) : C7w wi x T := by
  obtain ⟨f1, f2, f3, f4⟩ := hf
  obtain ⟨h1, ⟨h2, h3, h4⟩, ⟨h5, h6⟩, ⟨h7, h8⟩, ⟨h9, h10⟩, h11, h12, h13, h14⟩ := h
  refine ⟨by rw [f3 167 (by decide)]; exact h1, ⟨by rw [f2 7 (by decide) (by decide)]; exact h2, by rw [f2 6 (by decide) (by decide)]; exact h3, by rw [f3 168 (by decide)]; exact h4⟩, ⟨by rw [f2 5 (by decide) (by decide)]; exact h5, by rw [f3 169 (by decide)]; exact h6⟩, ⟨by rw [f2 14 (by decide) (by decide)]; exact h7, by rw [f3 172 (by decide)]; exact h8⟩, ⟨by rw [f2 17 (by decide) (by decide)]; exact h9, by rw [f3 173 (by decide)]; exact h10⟩, by rw [f2 15 (by decide) (by decide)]; exact h11, by rw [f2 10 (by decide) (by decide)]; exact h12, by rw [f2 11 (by decide) (by decide)]; exact h13, by rw [f2 12 (by decide) (by decide)]; exact h14⟩
theorem FrU.f7 {S T : Wo} (h : FrU S T) : Fr7 S T := ⟨fun a ha => h.1 a (by omega), fun a ha => h.2.2.1 a (by omega), by rw [h.2.2.2], by rw [h.2.2.2]⟩
theorem C7w.clr {wi : Bool} {x : AX} {S : Wo} (h : C7w wi x S) : C7w wi (setT x 0 (xC x)) (pI S 166 14 0) := by
  obtain ⟨h1, ⟨h2, h3, h4⟩, ⟨h5, h6⟩, ⟨h7, h8⟩, ⟨h9, h10⟩, h11, h12, h13, h14⟩ := h
  refine ⟨h1, ⟨by rw [pI_k (by decide)]; exact h2, by rw [pI_k (by decide)]; exact h3, h4⟩, ⟨by rw [pI_k (by decide)]; exact h5, h6⟩, ⟨pI_at _ _ _ _, fun i hi => absurd hi (Nat.not_lt_zero _)⟩, ⟨by rw [pI_k (by decide)]; exact h9, h10⟩, ?_, ?_, ?_, ?_⟩ <;> (rw [pI_k (by decide)]; assumption)
theorem C7w.flt {wi : Bool} {x : AX} {S : Wo} (h : C7w wi x S) (v : Int32) : C7w wi (setF x v) (pI S 166 15 v) := by
  obtain ⟨h1, ⟨h2, h3, h4⟩, ⟨h5, h6⟩, ⟨h7, h8⟩, ⟨h9, h10⟩, h11, h12, h13, h14⟩ := h
  refine ⟨h1, ⟨by rw [pI_k (by decide)]; exact h2, by rw [pI_k (by decide)]; exact h3, h4⟩, ⟨by rw [pI_k (by decide)]; exact h5, h6⟩, ⟨by rw [pI_k (by decide)]; exact h7, h8⟩, ⟨by rw [pI_k (by decide)]; exact h9, h10⟩, pI_at _ _ _ _, ?_, ?_, ?_⟩ <;> (rw [pI_k (by decide)]; assumption)
theorem C7w.wi {wi wi' : Bool} {x : AX} {S : Wo} (h : C7w wi x S) : C7w wi' x (pI S 166 7 (b2 wi')) := by
  obtain ⟨h1, ⟨h2, h3, h4⟩, ⟨h5, h6⟩, ⟨h7, h8⟩, ⟨h9, h10⟩, h11, h12, h13, h14⟩ := h
  refine ⟨h1, ⟨pI_at _ _ _ _, by rw [pI_k (by decide)]; exact h3, h4⟩, ⟨by rw [pI_k (by decide)]; exact h5, h6⟩, ⟨by rw [pI_k (by decide)]; exact h7, h8⟩, ⟨by rw [pI_k (by decide)]; exact h9, h10⟩, ?_, ?_, ?_, ?_⟩ <;> (rw [pI_k (by decide)]; assumption)
theorem C7w.d12 {wi : Bool} {x : AX} {S : Wo} {a b c : Int32} (h : C7w wi (setD x (a, b, c)) S) (v : Int32) : C7w wi (setD x (a, b, v)) (pI S 166 12 v) := by
  obtain ⟨h1, ⟨h2, h3, h4⟩, ⟨h5, h6⟩, ⟨h7, h8⟩, ⟨h9, h10⟩, h11, h12, h13, h14⟩ := h
  refine ⟨h1, ⟨by rw [pI_k (by decide)]; exact h2, by rw [pI_k (by decide)]; exact h3, h4⟩, ⟨by rw [pI_k (by decide)]; exact h5, h6⟩, ⟨by rw [pI_k (by decide)]; exact h7, h8⟩, ⟨by rw [pI_k (by decide)]; exact h9, h10⟩, by rw [pI_k (by decide)]; exact h11, by rw [pI_k (by decide)]; exact h12, by rw [pI_k (by decide)]; exact h13, pI_at _ _ _ _⟩
section RUN
variable {x : AX} {n : Nat} {ch : Nat → Int32}
theorem run_wf : ∀ (r : List (Nat × List Nat)) i A d D, WFA D A → D + 60 * r.length ≤ 1000000 → WFA (D + 60 * r.length) (run A d r i).1 := by
  intro r
  induction r with
  | nil => intro i A d D w _; exact w
  | cons c r ih =>
    intro i A d D w hD
    rw [List.length_cons] at hD ⊢
    rw [run]
    have hq := cq_R (d := d) (c := c) w (by omega)
    by_cases e : (coR A d c).1 = 0
    · rw [if_pos e]
      have := ih (i + 1) (coR A d c).2.2.1 d (D + 60) (hq.1 e).2.2 (by omega)
      rw [show D + 60 * (r.length + 1) = D + 60 + 60 * r.length by omega]
      exact this
    · rw [if_neg e]
      exact wf_up w (by omega) hD
/-- the class's denial of a text -/
theorem q_dnt {S : Wo} {B : As} {j : Nat} {c : Co} (h : C6 x S) (hB : RS S 14 B) {D : Nat} (w : WF0 D B) (h0 : c.1 ≠ 0) (h3 : c.1 ≤ 3) : ∃ T, (spX1_clear S).bind (fun S18 => (spX5_copyFrom 1 14 S18).bind (fun S19 => (spX6_denyText (nI j) (coI c) S19).bind (fun S20 => some (4, (0 : Int32), S20)))) = some (4, 0, T) ∧ C6 (setD (setA (setT x 0 (xC x)) B) (6, nI j, if c.1 = 3 then (xD x).1 else 7)) T ∧ Fr6 S T := by
  have h1 := h.clr
  have hB1 : RS (pI S 159 1 0) 14 B := hB.cong (fun k => by rw [pI_ne (by decide)]) (fun j hj => rfl)
  obtain ⟨T, e1, r1, f1⟩ := q_cps (o := 1) hB1 w (Or.inr (by decide))
  have h2 := h1.co (FrK.fo f1) r1 (h1.D.fo f1)
  have e0 : spX1_clear S = some (pI S 159 1 0) := rfl
  rw [e0, Option.bind_some, e1, Option.bind_some]
  have ed : spX6_denyText (nI j) (coI c) T = some (pI (denS T 6 (nI j)) 0 11 (if c.1 = 3 then (xD x).1 else 7)) := by
    unfold spX6_denyText
    rw [jn_e]
    dsimp only
    by_cases e : c.1 = 3
    · have : coI c = -3 := by unfold coI; rw [e]; rfl
      rw [if_pos this, if_pos e, q_deny, bd2_s, wr_eq]
      have : T.1 0 9 = (xD x).1 := h2.D.1
      rw [this]
    · have : ¬ coI c = -3 := by
        rcases (by omega : c.1 = 1 ∨ c.1 = 2) with z | z
        · have : coI c = -1 := by unfold coI; rw [z]; rfl
          rw [this]; decide
        · have : coI c = -2 := by unfold coI; rw [z]; rfl
          rw [this]; decide
      rw [if_neg this, if_neg e, q_deny, bd2_s, wr_eq]
  rw [ed, Option.bind_some]
  refine ⟨_, rfl, ?_, ?_⟩
  · have fk : FrK T (pI (denS T 6 (nI j)) 0 11 (if c.1 = 3 then (xD x).1 else 7)) := by
      refine ⟨fun a h0 h1 => ?_, fun k h1 h2 h3 => ?_, fun _ _ => rfl, rfl⟩
      · rw [pI_ne h0]; exact (denS_fr T 6 (nI j)).1 a h0 h1
      · rw [pI_k h3]; exact (denS_fr T 6 (nI j)).2.1 k h1 h2 h3
    have dd : D6 (6, nI j, if c.1 = 3 then (xD x).1 else 7) (pI (denS T 6 (nI j)) 0 11 (if c.1 = 3 then (xD x).1 else 7)) := by
      obtain ⟨d1, d2, d3⟩ := denS_D T 6 (nI j)
      exact ⟨by rw [pI_k (by decide)]; exact d1, by rw [pI_k (by decide)]; exact d2, pI_at _ _ _ _⟩
    have rr : RS (pI (denS T 6 (nI j)) 0 11 (if c.1 = 3 then (xD x).1 else 7)) 1 B := (denS_rs r1 6 (nI j)).cong (fun k => by rw [pI_ne (by decide)]) (fun j hj => rfl)
    exact h2.co fk rr dd
  · refine (Fr6.rf.pI (by decide)).tr ((Fr6.fo f1 (by decide)).tr ?_)
    exact (((Fr6.rf.pI (by decide)).pI (by decide)).pI (by decide)).pI (by decide)
def O6 (x : AX) (N : Nat) (B : As) (S : Wo) (sp : Option (Nat × Int32 × Wo)) (z : As × (Int32 × Int32 × Int32) × Option (Nat × Nat)) : Prop := match z.2.2 with
  | none => ∃ T, sp = some (0, nI N, T) ∧ C6 (pushX (setT (setD (setA x z.1) z.2.1) 0 (xC x)) B) T ∧ Fr6 S T
  | some (j, o) => ∃ T, sp = some (4, 0, T) ∧ C6 (setD (setA (setT x 0 (xC x)) B) (6, nI j, if o = 3 then z.2.1.1 else 7)) T ∧ Fr6 S T
theorem O6.tr {N : Nat} {B : As} {S T : Wo} {sp : Option (Nat × Int32 × Wo)} {z : As × (Int32 × Int32 × Int32) × Option (Nat × Nat)} (h : O6 x N B T sp z) (hf : Fr6 S T) : O6 x N B S sp z := by
  obtain ⟨A, d, o⟩ := z
  cases o with
  | none =>
    obtain ⟨U, a, b, c⟩ := h
    exact ⟨U, a, b, hf.tr c⟩
  | some o =>
    obtain ⟨j, o⟩ := o
    obtain ⟨U, a, b, c⟩ := h
    exact ⟨U, a, b, hf.tr c⟩
theorem q_x6 {N D0 : Nat} {B : As} (hN : N ≤ 1000) (hB : WF0 D0 B) (hK : xK x ≤ 8) : ∀ (r : List (Nat × List Nat)) i p q A d D g (S : Wo), (r = [] ∨ (AtP n ch p q ∧ PL n ch q r)) → TX S n ch p → p ≤ n → C6 (setD (setA x A) d) S → RS S 14 B → WFA D A → D + 60 * r.length ≤ 1000000 → r.length < g → i + r.length = N → O6 x N B S (lpX6_execute_54 (nI N) g (nI i) S) (run A d r i) := by
  intro r
  induction r with
  | nil =>
    intro i p q A d D g S _ hT hp h6 h14 w hD hg hi
    obtain ⟨g, rfl⟩ : ∃ g', g = g' + 1 := ⟨g - 1, by omega⟩
    have hi : i = N := hi
    subst hi
    rw [lpX6_execute_54, if_pos (nI_le (Nat.le_refl _) (by omega))]
    have h1 := h6.clr
    have e0 : spX1_clear S = some (pI S 159 1 0) := rfl
    have hB1 : RS (pI S 159 1 0) 14 B := h14.cong (fun k => by rw [pI_ne (by decide)]) (fun j hj => rfl)
    obtain ⟨old, hh⟩ := h1.hist
    obtain ⟨T, old', e3, r3, f3⟩ := q_remb hh hK hB1 hB
    rw [e0, Option.bind_some, e3, Option.bind_some]
    exact ⟨T, rfl, h1.push f3 r3, (Fr6.rf.pI (by decide)).tr f3.f6⟩
  | cons c r ih =>
    intro i p q A d D g S hP hT hp h6 h14 w hD hg hi
    obtain ⟨g, rfl⟩ : ∃ g', g = g' + 1 := ⟨g - 1, by omega⟩
    rw [List.length_cons] at hD hg hi
    rcases hP with hP | ⟨ha, hP⟩
    · cases hP
    obtain ⟨T, e1, t1, f1, v1⟩ := q_rc hT ha hp trivial
    have hqn := ha.le hp
    obtain ⟨b1, b2'⟩ := cmd_in (n := n) (ch := ch) hqn trivial
    have hP1 : (cmd n ch q).1 = true ∧ (cmd n ch q).2.2 = c ∧ (r = [] ∨ (AtP n ch (cmd n ch q).2.1 ((cmd n ch q).2.1 + 1) ∧ PL n ch ((cmd n ch q).2.1 + 1) r)) := by
      cases r with
      | nil => exact ⟨hP.1, hP.2.2, Or.inl rfl⟩
      | cons c' r =>
        obtain ⟨p1, p2, p3, p4⟩ := hP
        have := cmd_len p1
        exact ⟨p1, p2, Or.inr ⟨Or.inr ⟨by omega, p3, rfl⟩, p4⟩⟩
    obtain ⟨p1, p2, p3⟩ := hP1
    obtain ⟨k1, -, -⟩ := cmd_len p1
    obtain ⟨v2, v3⟩ := v1 p1
    rw [p2] at k1 v2 v3
    have h2 := h6.frT f1
    have h14' := h14.frT f1 (by decide)
    obtain ⟨U, u1, u2, u3, u4⟩ := k6_R (S := T) (A := A) (d := d) (c := c) h2.1 w (by omega) h2.D k1 v2 v3
    have hcq := cq_R (d := d) (c := c) w (by omega)
    have h3 : C6 (setD (setA (setD (setA x A) d) (coR A d c).2.2.1) (coR A d c).2.2.2) U := h2.co u3 u2 u4
    have h14U : RS U 14 B := h14'.cong (fun k => by rw [u3.1 14 (by decide) (by decide)]) (fun j hj => u3.2.2.1 _ (by omega))
    rw [lpX6_execute_54, if_neg (nI_ge (by omega) (by omega)), e1, p1, bd2_s, if_neg (show ¬ b2 true = 0 from i1_0), u1, bd2_s, run]
    by_cases e0 : (coR A d c).1 = 0
    · obtain ⟨c1, c2, c3⟩ := hcq.1 e0
      have ei : coI (coR A d c) = nI (coR A d c).2.1 := by unfold coI; rw [if_pos e0]
      rw [if_pos e0, ei, if_pos (show (0 : Int32) ≤ nI (coR A d c).2.1 from nI_pos' c1), nI_1]
      rw [c2] at h3
      have tU : TX U n ch (cmd n ch q).2.1 := ⟨t1.1, by rw [u3.1 159 (by decide) (by decide)]; exact t1.2.1, by rw [u3.2.2.1 161 (by decide)]; exact t1.2.2.1, by rw [u3.1 159 (by decide) (by decide)]; exact t1.2.2.2⟩
      have := ih (i + 1) (cmd n ch q).2.1 ((cmd n ch q).2.1 + 1) (coR A d c).2.2.1 d (D + 60) g U p3 tU b1 h3 h14U c3 (by omega) (by omega) (by omega)
      exact this.tr (f1.f6.tr u3.f6)
    · obtain ⟨c1, c2⟩ := hcq.2 e0
      have en : ¬ (0 : Int32) ≤ coI (coR A d c) := by
        rcases (by omega : (coR A d c).1 = 1 ∨ (coR A d c).1 = 2 ∨ (coR A d c).1 = 3) with z | z | z
        · have : coI (coR A d c) = -1 := by unfold coI; rw [z]; rfl
          rw [this]; decide
        · have : coI (coR A d c) = -2 := by unfold coI; rw [z]; rfl
          rw [this]; decide
        · have : coI (coR A d c) = -3 := by unfold coI; rw [z]; rfl
          rw [this]; decide
      rw [if_neg e0, if_neg en]
      obtain ⟨V, w1, w2, w3⟩ := q_dnt (j := i) (c := coR A d c) h3 h14U hB e0 c1
      exact ⟨V, w1, w2, f1.f6.tr (u3.f6.tr w3)⟩
end RUN

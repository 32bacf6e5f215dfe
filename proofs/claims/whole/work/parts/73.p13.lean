/-! ===== the class: kept states, and a change with its begin and end ===== -/
theorem hsl_ne {old a b : Nat} (ha : a < 8) (hb : b < 8) (h : a ≠ b) : hsl old a + 12 < hsl old b ∨ hsl old b + 12 < hsl old a := by unfold hsl; omega
theorem hsl_rg (old a : Nat) : 55 ≤ hsl old a ∧ hsl old a + 12 < 159 := by unfold hsl; omega
theorem bdq_s {ρ : Type} (a : Option Nat) (T : Wo) (f : Option Nat → Wo → Option ρ) : bdq (some (a, T)) f = f a T := rfl
theorem oq_s {ρ : Type} (j : Nat) (a : Option ρ) (b : Nat → Option ρ) : oq (some j) a b = b j := rfl
theorem q_slot {S : Wo} {old a : Nat} (ho : old < 8) (h : S.1 53 1 = nI old) (ha : a < 100) : spX2_slotAt (nI a) S = some (some (hsl old a), S) := by
  unfold spX2_slotAt
  have e : spJ9_floorMod_7cf53 (nI old + nI a) 8 S = some (nI ((old + a) % 8)) := by
    rw [nI_add]
    exact q_fmod (n := 8) (by omega) (by decide) (by decide) S
  rw [h, e, Option.bind_some, if_neg (nI_pos (by omega)), if_neg (show ¬ (8 : Int32) ≤ nI ((old + a) % 8) from show ¬ nI 8 ≤ nI ((old + a) % 8) from nI_ge (by omega) (by decide)), if_pos (q_in (by omega) (by decide)), q_ix (by omega)]
  rfl
def FrH (S T : Wo) : Prop := (∀ a, (a < 53 ∨ 159 ≤ a) → T.1 a = S.1 a) ∧ (∀ a, (a < 55 ∨ 159 ≤ a) → T.2.1 a = S.2.1 a) ∧ T.2.2 = S.2.2
def HC (S : Wo) (old c : Nat) (H : Nat → As) : Prop := old < 8 ∧ S.1 53 1 = nI old ∧ S.1 53 2 = nI c ∧ ∀ a, a < c → RS S (hsl old a) (H a)
theorem q_rtl {S : Wo} {old c D : Nat} {H : Nat → As} {A : As} (h : HC S old c H) (hc : c < 8) (hA : RS S 14 A) (w : WF0 D A) : ∃ T, bdq (spX2_slotAt (S.1 53 2) S) (fun x6 S7 => oq x6 (some S7) (fun j8 => (spX5_copyFrom j8 14 S7).bind (fun S9 => wr (pI S9 53 2 (S9.1 53 2 + 1)) (fun S10 => some S10)))) = some T ∧ HC T old (c + 1) (putc H c A) ∧ FrH S T := by
  obtain ⟨ho, h1, h2, h3⟩ := h
  obtain ⟨b1, b2⟩ := hsl_rg old c
  rw [h2, q_slot ho h1 (by omega), bdq_s, oq_s]
  obtain ⟨T, e1, r1, f1⟩ := q_cps (o := hsl old c) hA w (Or.inl (by omega))
  rw [e1, Option.bind_some, wr_eq]
  have n53 : (53 : Nat) ≠ hsl old c := by omega
  refine ⟨_, rfl, ⟨ho, ?_, ?_, fun a ha => ?_⟩, fun a ha => ?_, fun a ha => ?_, f1.2.2⟩
  · rw [pI_k (by decide), f1.1 53 n53]; exact h1
  · rw [pI_at, f1.1 53 n53, h2, nI_1]
  · have hfr : ∀ o B, 55 ≤ o → RS T o B → RS (pI T 53 2 (T.1 53 2 + 1)) o B := fun o B ho h => h.cong (fun k => by rw [pI_ne (by omega)]) (fun j hj => rfl)
    obtain ⟨b3, b4⟩ := hsl_rg old a
    by_cases e : a = c
    · subst e
      rw [putc_at]
      exact hfr _ _ b3 r1
    · rw [putc_ne e]
      exact hfr _ _ b3 ((h3 a (by omega)).fr f1 (hsl_ne (by omega) (by omega) e))
  · rw [pI_ne (by omega)]
    exact f1.1 a (by omega)
  · rw [pI_2]
    exact f1.2.1 a (by omega)
def pusC (c : Nat) (H : Nat → As) (A : As) : Nat × (Nat → As) := if c < 8 then (c + 1, putc H c A) else (8, fun a => if a < 7 then H (a + 1) else A)
theorem q_remb {S : Wo} {old c D : Nat} {H : Nat → As} {A : As} (h : HC S old c H) (hc : c ≤ 8) (hA : RS S 14 A) (w : WF0 D A) : ∃ T old', spX2_remember 14 S = some T ∧ HC T old' (pusC c H A).1 (pusC c H A).2 ∧ FrH S T := by
  unfold spX2_remember
  rw [jn_e]
  dsimp only
  obtain ⟨ho, h1, h2, h3⟩ := h
  unfold pusC
  by_cases e : c < 8
  · rw [if_pos (show S.1 53 2 < 8 from by rw [h2]; exact (show nI c < nI 8 from nI_lt e (by decide))), if_pos e]
    obtain ⟨T, e1, r1, f1⟩ := q_rtl (A := A) ⟨ho, h1, h2, h3⟩ e hA w
    exact ⟨T, old, e1, r1, f1⟩
  · rw [if_neg (show ¬ S.1 53 2 < 8 from by rw [h2]; exact (show ¬ nI c < nI 8 from nI_nlt (by omega) (by omega))), if_neg e]
    have e2 : spJ9_floorMod_7cf53 (S.1 53 1 + 1) 8 S = some (nI ((old + 1) % 8)) := by
      rw [h1, nI_1]
      exact q_fmod (n := 8) (by omega) (by decide) (by decide) S
    have e3 : S.1 53 2 - 1 = nI 7 := by rw [h2, show c = 8 by omega]; decide
    have e4 : (pI S 53 1 (nI ((old + 1) % 8))).1 53 2 - 1 = nI 7 := by rw [pI_k (by decide)]; exact e3
    rw [e2, Option.bind_some, wr_eq, wr_eq, e4]
    have hfr : ∀ o B, 54 ≤ o ∨ o < 40 → RS S o B → RS (pI (pI S 53 1 (nI ((old + 1) % 8))) 53 2 (nI 7)) o B := fun o B ho h => h.cong (fun k => by rw [pI_ne (by omega), pI_ne (by omega)]) (fun j hj => rfl)
    have hh : HC (pI (pI S 53 1 (nI ((old + 1) % 8))) 53 2 (nI 7)) ((old + 1) % 8) 7 (fun a => H (a + 1)) := by
      refine ⟨by omega, ?_, ?_, fun a ha => ?_⟩
      · rw [pI_k (by decide), pI_at]
      · rw [pI_at]
      · have e4 : hsl ((old + 1) % 8) a = hsl old (a + 1) := by unfold hsl; omega
        obtain ⟨b3, b4⟩ := hsl_rg old (a + 1)
        rw [e4]
        exact hfr _ _ (Or.inl (by omega)) (h3 (a + 1) (by omega))
    obtain ⟨T, e5, r1, f1⟩ := q_rtl (A := A) hh (by decide) (hfr 14 A (Or.inr (by decide)) hA) w
    refine ⟨T, (old + 1) % 8, e5, ?_, fun a ha => ?_, fun a ha => ?_, ?_⟩
    · obtain ⟨o1, o2, o3, o4⟩ := r1
      refine ⟨o1, o2, o3, fun a ha => ?_⟩
      have ha : a < 8 := ha
      have := o4 a (by omega)
      show RS T _ (if a < 7 then H (a + 1) else A)
      unfold putc at this
      by_cases q : a = 7
      · subst q; exact this
      · rw [if_neg q] at this
        rw [if_pos (by omega)]
        exact this
    · rw [f1.1 a ha, pI_ne (by omega), pI_ne (by omega)]
    · rw [f1.2.1 a ha]; rfl
    · rw [f1.2.2]; rfl
/-! the class's side of the invariant under the frames -/
theorem C6.fo14 {x : AX} {S T : Wo} {o : Nat} (h : C6 x S) (hf : FrO o S T) (ho : o = 14 ∨ o = 27) : C6 x T := by
  obtain ⟨h1, ⟨old, q1, h2, h3, h4⟩, ⟨h5, h6⟩, ⟨h7, h8⟩, h9, h10⟩ := h
  refine ⟨h1.fr hf (by omega), ⟨old, q1, by rw [hf.1 53 (by omega)]; exact h2, by rw [hf.1 53 (by omega)]; exact h3, fun a ha => (h4 a ha).fr hf (by unfold hsl; omega)⟩, ⟨by rw [hf.1 0 (by omega)]; exact h5, fun B hB => (h6 B hB).fr hf (by omega)⟩, ⟨by rw [hf.1 159 (by omega)]; exact h7, by rw [hf.2.1 161 (by omega)]; exact h8⟩, ?_, by rw [hf.1 0 (by omega)]; exact h10⟩
  rw [hf.1 164 (by omega), hf.2.1 165 (by omega), hf.2.2]
  exact h9
/-- behind a core: the new state, the new denial, all else as it was -/
theorem C6.co {x : AX} {S T : Wo} {A : As} {d : Int32 × Int32 × Int32} (h : C6 x S) (hf : FrK S T) (hA : RS T 1 A) (hd : D6 d T) : C6 (setD (setA x A) d) T := by
  obtain ⟨h1, ⟨old, q1, h2, h3, h4⟩, ⟨h5, h6⟩, ⟨h7, h8⟩, h9, h10⟩ := h
  obtain ⟨f1, f2, f3, f4⟩ := hf
  have rs : ∀ o B, 14 ≤ o → RS S o B → RS T o B := fun o B ho h => h.cong (fun k => by rw [f1 o (by omega) (by omega)]) (fun j hj => f3 _ (by omega))
  refine ⟨hA, ⟨old, q1, by rw [f1 53 (by decide) (by decide)]; exact h2, by rw [f1 53 (by decide) (by decide)]; exact h3, fun a ha => rs _ _ (by unfold hsl; omega) (h4 a ha)⟩, ⟨by rw [f2 4 (by decide) (by decide) (by decide)]; exact h5, fun B hB => rs _ _ (by decide) (h6 B hB)⟩, ⟨by rw [f1 159 (by decide) (by decide)]; exact h7, by rw [f3 161 (by decide)]; exact h8⟩, ?_, by rw [f2 8 (by decide) (by decide) (by decide)]; exact h10.1, hd.1, hd.2.1, hd.2.2⟩
  rw [f1 164 (by decide) (by decide), f3 165 (by decide), f4]
  exact h9
theorem C6.D {x : AX} {S : Wo} (h : C6 x S) : D6 (xD x) S := h.2.2.2.2.2.2
theorem C6.hist {x : AX} {S : Wo} (h : C6 x S) : ∃ old, HC S old (xK x) (xH x) := by
  obtain ⟨old, q1, h2, h3, h4⟩ := h.2.1
  exact ⟨old, q1, h2, h3, h4⟩
theorem C6.push {x : AX} {S T : Wo} {old : Nat} {A : As} (h : C6 x S) (hf : FrH S T) (hh : HC T old (pusC (xK x) (xH x) A).1 (pusC (xK x) (xH x) A).2) : C6 (pushX x A) T := by
  obtain ⟨h1, -, ⟨h5, h6⟩, ⟨h7, h8⟩, h9, h10⟩ := h
  obtain ⟨f1, f2, f3⟩ := hf
  have rs : ∀ o B, o ≤ 40 → RS S o B → RS T o B := fun o B ho h => h.cong (fun k => by rw [f1 o (by omega)]) (fun j hj => f2 _ (by omega))
  refine ⟨rs _ _ (by decide) h1, ⟨old, hh.1, hh.2.1, hh.2.2.1, hh.2.2.2⟩, ⟨by rw [f1 0 (by decide)]; exact h5, fun B hB => rs _ _ (by decide) (h6 B hB)⟩, ⟨by rw [f1 159 (by decide)]; exact h7, by rw [f2 161 (by decide)]; exact h8⟩, ?_, by rw [f1 0 (by decide)]; exact h10⟩
  rw [f1 164 (by decide), f2 165 (by decide), f3]
  exact h9
theorem FrK.f6 {S T : Wo} (h : FrK S T) : Fr6 S T := ⟨fun a q => h.1 a (by omega) (by omega), fun a q => h.2.2.1 a (by omega)⟩
theorem FrH.f6 {S T : Wo} (h : FrH S T) : Fr6 S T := ⟨fun a q => h.1 a (by omega), fun a q => h.2.1 a (by omega)⟩
/-- what the class's method answers: which exception, which number -/
def coX (c : Co) : Nat := if c.1 = 0 then 0 else if c.1 = 1 then 2 else if c.1 = 2 then 1 else 4
def coV (c : Co) : Int32 := if c.1 = 0 then nI c.2.1 else 0
theorem nI_lo {v : Nat} (h : v < 2 ^ 31) : ¬ nI v = -1 ∧ ¬ nI v = -2 ∧ ¬ nI v = -3 := by
  have h2 := nI_toInt h
  refine ⟨q_m1 h, fun e => ?_, fun e => ?_⟩
  · rw [e, show (-2 : Int32).toInt = -2 by decide] at h2; omega
  · rw [e, show (-3 : Int32).toInt = -3 by decide] at h2; omega
theorem w6 {x : AX} {S : Wo} {D : Nat} {core : Wo → Option (Int32 × Wo)} {c : Co} (h : C6 x S) (wx : WX D x) (hc : ∀ T, RS T 1 (xA x) → D6 (xD x) T → K6 (xD x) T (core T) c) (hk : c.1 ≤ 3) (hv : c.1 = 0 → c.2.1 < 2 ^ 31 ∧ c.2.2.2 = xD x) (hA : c.1 ≠ 0 → c.2.2.1 = xA x) : ∃ T, (spX6_beginChange S).bind (fun S1 => bd2 (core S1) (fun x2 S3 => bx (spX6_endChange x2 S3) (fun x4 S5 => some (0, x4, S5)))) = some (coX c, coV c, T) ∧ C6 (apx false x c) T ∧ Fr6 S T := by
  have w := wx.1.1
  obtain ⟨T1, e1, r1, f1⟩ := q_cps (o := 14) h.1 w (Or.inl (by decide))
  have h1 := h.fo14 f1 (Or.inl rfl)
  obtain ⟨T2, e2, r2, f2, d2⟩ := hc T1 h1.1 h1.D
  have h2 := h1.co f2 r2 d2
  unfold spX6_beginChange
  rw [e1, Option.bind_some, Option.bind_some, e2, bd2_s]
  unfold spX6_endChange
  obtain ⟨ck, cv, cA, cd⟩ := c
  have hk : ck ≤ 3 := hk
  by_cases k0 : ck = 0
  · subst k0
    obtain ⟨hv1, hv2⟩ := hv rfl
    have hv1 : cv < 2 ^ 31 := hv1
    have hv2 : cd = xD x := hv2
    obtain ⟨n1, n2, n3⟩ := nI_lo hv1
    have r14 : RS T2 14 (xA x) := r1.cong (fun k => by rw [f2.1 14 (by decide) (by decide)]) (fun j hj => f2.2.2.1 _ (by omega))
    obtain ⟨old, hh⟩ := h2.hist
    have hh : HC T2 old (xK x) (xH x) := hh
    obtain ⟨T3, old', e3, r3, f3⟩ := q_remb hh wx.2.1.1 r14 w
    have ei : coI (0, cv, cA, cd) = nI cv := rfl
    rw [ei, if_neg n1, if_neg n2, if_neg n3, e3, Option.bind_some, bx_0]
    refine ⟨T3, rfl, ?_, (Fr6.fo f1 (by decide)).tr (f2.f6.tr f3.f6)⟩
    have h3 := h2.push f3 r3
    have e4 : apx false x (0, cv, cA, cd) = pushX (setD (setA x cA) cd) (xA x) := by
      rw [hv2]; rfl
    rw [e4]
    exact h3
  · have hA : cA = xA x := hA k0
    have e4 : apx false x (ck, cv, cA, cd) = setD (setA x cA) cd := by
      unfold apx
      rw [if_neg k0, hA]
      rfl
    rw [e4]
    refine ⟨T2, ?_, h2, (Fr6.fo f1 (by decide)).tr f2.f6⟩
    rcases (by omega : ck = 1 ∨ ck = 2 ∨ ck = 3) with q | q | q
    · subst q; rfl
    · subst q; rfl
    · subst q; rfl
/-! the step of a change: class and reference together -/
def StI (spL : Wo → Option (Nat × Int32 × Wo)) (sp7 : Wo → Option (Int32 × Wo)) (S : Wo) (D : Nat) : Prop := ∃ k S1 b S2 x', spL S = some (0, nI k, S1) ∧ sp7 S1 = some (b, S2) ∧ S2.1 166 9 = nI k ∧ (nI k = 0 → S2.2.2.2.1 = b.toInt64) ∧ Inv D x' S2
theorem pushX_wx {D : Nat} {x : AX} (wx : WX D x) : WX D (pushX x (xA x)) := by
  obtain ⟨h1, ⟨h2, h3⟩, h4⟩ := wx
  refine ⟨h1, ⟨?_, fun a ha => ?_⟩, h4⟩
  · show (if xK x < 8 then (xK x + 1, putc (xH x) (xK x) (xA x)) else (8, fun a => if a < 7 then xH x (a + 1) else xA x)).1 ≤ 8
    by_cases e : xK x < 8
    · rw [if_pos e]; exact e
    · rw [if_neg e]; exact Nat.le_refl _
  · have ha : a < (if xK x < 8 then (xK x + 1, putc (xH x) (xK x) (xA x)) else (8, fun a => if a < 7 then xH x (a + 1) else xA x)).1 := ha
    show WFA D ((if xK x < 8 then (xK x + 1, putc (xH x) (xK x) (xA x)) else (8, fun a => if a < 7 then xH x (a + 1) else xA x)).2 a)
    by_cases e : xK x < 8
    · rw [if_pos e] at ha ⊢
      have ha : a < xK x + 1 := ha
      show WFA D (putc (xH x) (xK x) (xA x) a)
      by_cases q : a = xK x
      · subst q; rw [putc_at]; exact h1
      · rw [putc_ne q]; exact h3 a (by omega)
    · rw [if_neg e] at ha ⊢
      have ha : a < 8 := ha
      show WFA D (if a < 7 then xH x (a + 1) else xA x)
      by_cases q : a < 7
      · rw [if_pos q]; exact h3 (a + 1) (by omega)
      · rw [if_neg q]; exact h1
theorem WX.up {D D' : Nat} {x : AX} (h : WX D x) (h1 : D ≤ D') (h2 : D' ≤ 1000000) : WX D' x := ⟨wf_up h.1 h1 h2, ⟨h.2.1.1, fun a ha => wf_up (h.2.1.2 a ha) h1 h2⟩, fun B hB => wf_up (h.2.2.1 B hB) h1 h2, h.2.2.2⟩
theorem apx_wx {D D' : Nat} {x : AX} {c : Co} (wx : WX D x) (h1 : D ≤ D') (h2 : D' ≤ 1000000) (hw : c.1 = 0 → WFA D' c.2.2.1) : WX D' (apx false x c) := by
  unfold apx
  by_cases e : c.1 = 0
  · rw [if_pos e]
    have := (pushX_wx wx).up h1 h2
    exact ⟨hw e, this.2⟩
  · rw [if_neg e]
    exact wx.up h1 h2
theorem nI_n0c {k : Nat} (h : k ≠ 0) (h3 : k ≤ 3) : ¬ nI k = 0 := fun z => h ((nI_eq (a := k) (b := 0) (by omega) (by decide)).mp z)
theorem stC {x : AX} {S : Wo} {D D' : Nat} {core : Wo → Option (Int32 × Wo)} {spL : Wo → Option (Nat × Int32 × Wo)} {sp7 : Wo → Option (Int32 × Wo)} {sp6 : Wo → Option (Nat × Int32 × Wo)} {c : Co} {code : Nat → Nat} (h : Inv D x S) (hs6 : sp6 S = (spX6_beginChange S).bind (fun S1 => bd2 (core S1) (fun x2 S3 => bx (spX6_endChange x2 S3) (fun x4 S5 => some (0, x4, S5)))))
    (hc : ∀ T, RS T 1 (xA x) → D6 (xD x) T → K6 (xD x) T (core T) c) (h7 : ∀ T, C7 x T → K7 false x T (sp7 T) c code) (hk : c.1 ≤ 3) (hv : c.1 = 0 → c.2.1 < 2 ^ 31 ∧ c.2.2.2 = xD x ∧ WFA D' c.2.2.1) (hA : c.1 ≠ 0 → c.2.2.1 = xA x) (hD : D ≤ D') (hD' : D' ≤ 1000000)
    (hL0 : ∀ a T, sp6 S = some (0, a, T) → spL S = some (0, 0, pL T a.toInt64)) (hLx : ∀ a T, c.1 ≠ 0 → sp6 S = some (coX c, a, T) → spL S = some (0, nI (code c.1), T)) (hcode : c.1 ≠ 0 → ¬ nI (code c.1) = 0) : StI spL sp7 S D' := by
  obtain ⟨wx, h6, h7'⟩ := h
  obtain ⟨T, e1, c1, f1⟩ := w6 h6 wx hc hk (fun q => ⟨(hv q).1, (hv q).2.1⟩) hA
  rw [← hs6] at e1
  have wx' : WX D' (apx false x c) := apx_wx wx hD hD' (fun q => (hv q).2.2)
  by_cases e : c.1 = 0
  · have e0 : coX c = 0 := by unfold coX; rw [if_pos e]
    have ev : coV c = nI c.2.1 := by unfold coV; rw [if_pos e]
    rw [e0, ev] at e1
    obtain ⟨b, T2, e2, f2, c2, g0, g1⟩ := h7 (pL T (nI c.2.1).toInt64) (h7'.fr f1.pL)
    obtain ⟨g2, g3⟩ := g0 e
    have cc : C6 (apx false x c) (pL T (nI c.2.1).toInt64) := c1
    refine ⟨0, _, b, T2, _, hL0 _ _ e1, e2, g2, fun _ => ?_, wx', cc.fr f2.f7, c2⟩
    rw [f2.f7.2.2.2, g3]
    rfl
  · obtain ⟨b, T2, e2, f2, c2, g0, g1⟩ := h7 T (h7'.fr f1)
    obtain ⟨g2, g3, g4⟩ := g1 e
    exact ⟨code c.1, T, b, T2, _, hLx _ _ e e1, e2, g2, fun q => absurd q (hcode e), wx', c1.fr f2.f7, c2⟩

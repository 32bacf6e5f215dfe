theorem bd2_s {ρ : Type} (a : Int32) (T : Wo) (f : Int32 → Wo → Option ρ) : bd2 (some (a, T)) f = f a T := rfl
theorem bx_0 (a : Int32) (T : Wo) (f : Int32 → Wo → Option (Nat × Int32 × Wo)) : bx (some (0, a, T)) f = f a T := rfl
theorem jn_e {β ρ : Type} (f : β) (g : β → Option ρ) : jn f g = g f := rfl
theorem i1_0 : ¬ (1 : Int32) = 0 := by decide
theorem oI_neg {k : Nat} (hk : k < 2 ^ 31) : ¬ oI (some k) < 0 := nI_pos hk
theorem oI_nneg : oI none < 0 := by decide
section CORE7
variable {wi : Bool} {x : AX} {S : Wo} {D : Nat} {p q r : Int32}
theorem k7_put (h : C7w wi x S) (wx : WX D x) : K7 wi x S (spX7_register p S) (coPut (xA x) (xD x) p) (fun k => k - 1) := by
  have w := wx.1.1
  have hn := w.1.1
  have hf := h.fl 0
  unfold spX7_register coPut
  rw [q_fld7, Option.bind_some, jn_e]
  dsimp only
  cases hx : ixo p 16 with
  | none =>
    refine K7.bad (Or.inr rfl) h ?_
    rw [if_pos b2s_n, q_fails1, bd2_s, if_neg i1_0]
  | some f =>
    obtain ⟨h1, rfl⟩ := ixo_some hx
    rw [if_neg (b2s_s f), q_fails0, bd2_s, if_pos rfl, if_pos in_0, ix_0, hf.1.1.1, q_stn7 hf.1 w]
    show K7 wi x S _ (if aN (xA x) < 10 then _ else _) _
    by_cases e : aN (xA x) < 10
    · rw [if_pos e, if_neg (fun q => by have := (nI_eq (b := 10) (by omega) (by decide)).mp q; omega), Option.bind_some]
      cases hs : stn (xA x) (nI f) with
      | none =>
        obtain ⟨T, e1, e9, c1, f1, e167⟩ := q_keeps hf wx hf.1 w (by decide)
        have e1 : spX7_keeps 167 112 (flS S 0) = some T := e1
        have g1 := hf.1
        rw [← e167] at g1
        have e5 : (5 : Int32) + nI (aN (xA x)) = nI (5 + aN (xA x)) := by show nI 5 + nI (aN (xA x)) = _; rw [nI_add]
        have hq : inb (nI (5 + aN (xA x))) 112 = true := q_in (by omega) (by decide)
        have hxx : ix (nI (5 + aN (xA x))) = 5 + aN (xA x) := q_ix (by omega)
        rw [if_pos oI_nneg, e1, Option.bind_some, g1.1.1, e5]
        simp (discharger := omega) only [in_0, ix_0, hq, hxx, ↓reduceIte, wr_eq, pF_pF, pF_at, u_ne, u_at, g1.1.1, nI_1, nI_pred]
        exact K7.ok rfl c1 (rg_reg g1 e f) (FrR.rf.fl.tr f1) e9
      | some k =>
        have := (stn_lt hs).1
        rw [if_neg (oI_neg (by omega)), Option.bind_some, q_denies]
        exact K7.den hf FrR.rf.fl rfl
    · have e10 : nI (aN (xA x)) = 10 := by rw [show aN (xA x) = 10 by omega]; rfl
      rw [if_neg e, if_pos e10, q_denies]
      exact K7.den hf FrR.rf.fl rfl
theorem k7_mov (h : C7w wi x S) (wx : WX D x) : K7 wi x S (spX7_move p q S) (coMov (xA x) (xD x) p q) (fun k => k) := by
  have w := wx.1.1
  have hn := w.1.1
  have hf := h.fl 0
  unfold spX7_move coMov
  rw [q_isC h.1 w, Option.bind_some, jn_e]
  dsimp only
  cases hx : ixo p (aN (xA x)) with
  | none =>
    refine K7.bad (Or.inl rfl) h ?_
    rw [if_pos b2s_n, q_fails1, bd2_s, if_neg i1_0]
  | some s =>
    obtain ⟨h1, rfl⟩ := ixo_some hx
    rw [if_neg (b2s_s s), q_fld7, Option.bind_some]
    show K7 wi x S _ (match ixo q 16 with | none => _ | some f => _) _
    cases hy : ixo q 16 with
    | none =>
      refine K7.bad (Or.inr rfl) h ?_
      rw [if_pos b2s_n, q_fails2, bd2_s, if_neg i1_0]
    | some f =>
      obtain ⟨h3, rfl⟩ := ixo_some hy
      rw [if_neg (b2s_s f), q_fails0, bd2_s, if_pos rfl, q_stn7 hf.1 w, Option.bind_some]
      show K7 wi x S _ (match stn (xA x) (nI f) with | none => _ | some k => _) _
      cases hs : stn (xA x) (nI f) with
      | none =>
        obtain ⟨T, e1, e9, c1, f1, e167⟩ := q_keeps hf wx hf.1 w (by decide)
        have g1 := hf.1
        have eg : (flS S 0).2.1 167 (5 + s) = nI (aF (xA x) s) := g1.2.1 s h1
        rw [← e167] at g1
        rw [if_pos oI_nneg, if_pos (in_5 (by omega)), ix_5 (by omega), eg, e1, Option.bind_some, if_pos (in_5 (by omega)), wr_eq]
        exact K7.ok rfl c1 (rg_mov g1 w h1 f) (FrR.rf.fl.tr f1) e9
      | some k =>
        have := (stn_lt hs).1
        rw [if_neg (oI_neg (by omega)), Option.bind_some, q_denies]
        exact K7.den hf FrR.rf.fl rfl
theorem k7_rev {b : Bool} (h : C7w wi x S) (wx : WX D x) : K7 wi x S (spX7_setRevoked p (b2 b) S) (coRev (xA x) (xD x) p b) (fun k => if k = 3 then 2 else k) := by
  have w := wx.1.1
  have hn := w.1.1
  have hf := h.fl 0
  unfold spX7_setRevoked coRev
  rw [q_none7 h.1 w]
  cases hx : ixo p (aN (xA x)) with
  | none =>
    refine K7.bad (Or.inl rfl) h ?_
    show bd2 (some (1, flS S (nI 1))) _ = _
    rw [bd2_s, if_neg i1_0]
    rfl
  | some s =>
    obtain ⟨h1, rfl⟩ := ixo_some hx
    show K7 wi x S (bd2 (some (0, flS S 0)) _) (if bt (aR (xA x)) s = b then _ else _) _
    rw [bd2_s, if_pos rfl, if_pos in_15, ix_15, hf.1.1.2.1, q_has7 (by omega), Option.bind_some]
    by_cases e : bt (aR (xA x)) s = b
    · rw [if_pos e, if_pos (by rw [e])]
      cases b
      · rw [if_pos (by decide), q_denies]
        exact K7.den hf FrR.rf.fl rfl
      · rw [if_neg (by decide), q_denies]
        exact K7.den hf FrR.rf.fl rfl
    · obtain ⟨T, e1, e9, c1, f1, e167⟩ := q_keeps hf wx hf.1 w (by decide)
      have g1 := hf.1
      rw [← e167] at g1
      have g2 := rg_rev g1 w s
      have w1 : WF0 D (revA (xA x) s) := (wf_rev wx.1).1
      rw [if_neg e, if_neg (fun q => e (by revert q; cases bt (aR (xA x)) s <;> cases b <;> decide)), e1, Option.bind_some, if_pos in_15, if_pos in_15, wr_eq, if_pos in_2, g1.1.2.1]
      have g3 : RG ((pF T 167 (upd (T.2.1 167) 15 (aR (xA x) ^^^ (1 <<< (nI s &&& 31))))).2.1 167) (revA (xA x) s) := by rw [pF_at]; exact g2
      rw [q_cfdN7 g3 w1, Option.bind_some, q_bits7, Option.bind_some]
      exact K7.ok rfl c1 g2 (FrR.rf.fl.tr f1) e9
theorem in99 (q : Int32) (S : Wo) : spX7_in q 0 99 S = some (b2 (rng q 0 99).isSome) := q_in7 q (lo := 0) (hi := 99) (by decide) (by decide) S
theorem k7_adds {i s n : Nat} (hf : C7w wi x S) (wx : WX D x) (hm : aM (xA x) < 20) (hs : s < aN (xA x)) : ∃ T g, spX7_adds (cIs i) (nI s) (nI n) S = some (nI (aM (xA x)), pF T 167 g) ∧ C7w wi (pusX wi x (xA x)) T ∧ RG g (addA (xA x) i s n) ∧ FrR S T ∧ T.1 166 9 = 0 := by
  have w := wx.1.1
  have hn := w.1.1
  obtain ⟨T, e1, e9, c1, f1, e167⟩ := q_keeps hf wx hf.1 w (by decide)
  have g1 := hf.1
  rw [← e167] at g1
  have ej : ∀ j, (32 : Int32) + 4 * nI (aM (xA x)) + nI j = nI (32 + 4 * aM (xA x) + j) := fun j => by show nI 32 + nI 4 * nI (aM (xA x)) + nI j = _; rw [q_mul, nI_add, nI_add]
  have ej0 : (32 : Int32) + 4 * nI (aM (xA x)) + 0 = nI (32 + 4 * aM (xA x) + 0) := ej 0
  have ej1 : (32 : Int32) + 4 * nI (aM (xA x)) + 1 = nI (32 + 4 * aM (xA x) + 1) := ej 1
  have ej2 : (32 : Int32) + 4 * nI (aM (xA x)) + 2 = nI (32 + 4 * aM (xA x) + 2) := ej 2
  have ej3 : (32 : Int32) + 4 * nI (aM (xA x)) + 3 = nI (32 + 4 * aM (xA x) + 3) := ej 3
  have hq : ∀ j, j < 4 → inb (nI (32 + 4 * aM (xA x) + j)) 112 = true := fun j hj => q_in (by omega) (by decide)
  have hx : ∀ j, j < 4 → ix (nI (32 + 4 * aM (xA x) + j)) = 32 + 4 * aM (xA x) + j := fun j hj => q_ix (by omega)
  have s5 := in_5 (k := s) (by omega)
  have x5 := ix_5 (k := s) (by omega)
  unfold spX7_adds
  rw [e1, Option.bind_some, ix_1, g1.1.2.2.1, ej0, ej1, ej2, ej3]
  simp (discharger := omega) only [in_1, in_2, ix_2, hq 0 (by decide), hq 1 (by decide), hq 2 (by decide), hq 3 (by decide), hx 0 (by decide), hx 1 (by decide), hx 2 (by decide), hx 3 (by decide), s5, x5, ↓reduceIte, wr_eq, pF_pF, pF_at, u_ne, u_at, g1.2.1 s hs, g1.1.2.2.1, g1.1.2.2.2.1, nI_add, nI_1, nI_pred]
  exact ⟨T, _, rfl, c1, rg_add g1 w hm hs, f1, e9⟩
theorem k7_root (h : C7w wi x S) (wx : WX D x) : K7 wi x S (spX7_issueByRegistry p q S) (coRoot (xA x) (xD x) p q) (fun k => k) := by
  have w := wx.1.1
  have hm := w.1.2.1
  have hf := h.fl 0
  unfold spX7_issueByRegistry coRoot
  rw [q_isC h.1 w, Option.bind_some, jn_e]
  dsimp only
  cases hx : ixo p (aN (xA x)) with
  | none =>
    refine K7.bad (Or.inl rfl) h ?_
    rw [if_pos b2s_n, q_fails1, bd2_s, if_neg i1_0]
  | some s =>
    obtain ⟨h1, rfl⟩ := ixo_some hx
    rw [if_neg (b2s_s s), in99, Option.bind_some]
    show K7 wi x S _ (match rng q 0 99 with | none => _ | some n => _) _
    cases hy : rng q 0 99 with
    | none =>
      refine K7.bad (Or.inr rfl) h ?_
      rw [if_pos b2s_n, q_fails2, bd2_s, if_neg i1_0]
    | some n =>
      obtain ⟨-, h3, rfl⟩ := rng_some hy
      rw [if_neg (b2s_s n), q_fails0, bd2_s, if_pos rfl, if_pos in_1, ix_1, hf.1.1.2.2.1]
      show K7 wi x S _ (if aM (xA x) < 20 then _ else _) _
      by_cases e : aM (xA x) < 20
      · obtain ⟨T, g, e1, c1, g1, f1, e9⟩ := k7_adds hf wx e h1 (i := 0) (n := n)
        have e1 : spX7_adds (-1) (nI s) (nI n) (flS S 0) = some (nI (aM (xA x)), pF T 167 g) := e1
        rw [if_pos e, if_neg (fun q => by have := (nI_eq (b := 20) (by omega) (by decide)).mp q; omega), e1]
        exact K7.ok rfl c1 g1 (FrR.rf.fl.tr f1) e9
      · have e10 : nI (aM (xA x)) = 20 := by rw [show aM (xA x) = 20 by omega]; rfl
        rw [if_neg e, if_pos e10, q_denies]
        exact K7.den hf FrR.rf.fl rfl
theorem k7_iss (h : C7w wi x S) (wx : WX D x) : K7 wi x S (spX7_issue p q r S) (coIss (xA x) (xD x) p q r) (fun k => k) := by
  have w := wx.1.1
  have hm := w.1.2.1
  have hn := w.1.1
  have hf := h.fl 0
  unfold spX7_issue coIss
  rw [q_isC h.1 w, Option.bind_some, jn_e]
  dsimp only
  cases hx : ixo p (aN (xA x)) with
  | none =>
    refine K7.bad (Or.inl rfl) h ?_
    rw [if_pos b2s_n, q_fails1, bd2_s, if_neg i1_0]
  | some i =>
    obtain ⟨h1, rfl⟩ := ixo_some hx
    rw [if_neg (b2s_s i), q_isC h.1 w, Option.bind_some]
    show K7 wi x S _ (match ixo q (aN (xA x)) with | none => _ | some s => _) _
    cases hz : ixo q (aN (xA x)) with
    | none =>
      refine K7.bad (Or.inl rfl) h ?_
      rw [if_pos b2s_n, q_fails1, bd2_s, if_neg i1_0]
    | some s =>
      obtain ⟨h2, rfl⟩ := ixo_some hz
      rw [if_neg (b2s_s s), in99, Option.bind_some]
      show K7 wi x S _ (match rng r 0 99 with | none => _ | some n => _) _
      cases hy : rng r 0 99 with
      | none =>
        refine K7.bad (Or.inr rfl) h ?_
        rw [if_pos b2s_n, q_fails2, bd2_s, if_neg i1_0]
      | some n =>
        obtain ⟨-, h3, rfl⟩ := rng_some hy
        rw [if_neg (b2s_s n), q_fails0, bd2_s, if_pos rfl]
        show K7 wi x S _ (if i = s then _ else _) _
        by_cases e : i = s
        · rw [if_pos e, if_pos (by rw [e]), q_denies]
          exact K7.den hf FrR.rf.fl rfl
        · rw [if_neg e, if_neg (fun q => e ((nI_eq (by omega) (by omega)).mp q)), if_pos in_2, q_cfdN7 hf.1 w, Option.bind_some, q_has7 (by omega), Option.bind_some]
          cases hb : bt (cfd (xA x) (aD (xA x))) i
          · rw [if_pos b2_f, if_pos rfl, q_denies]
            exact K7.den hf FrR.rf.fl rfl
          · rw [if_neg (show ¬ b2 true = 0 from by decide), if_neg (show ¬ true = false by decide), if_pos in_1, ix_1, hf.1.1.2.2.1]
            by_cases e : aM (xA x) < 20
            · obtain ⟨T, g, e1, c1, g1, f1, e9⟩ := k7_adds hf wx e h2 (i := i + 1) (n := n)
              have e1 : spX7_adds (nI i) (nI s) (nI n) (flS S 0) = some (nI (aM (xA x)), pF T 167 g) := e1
              rw [if_pos e, if_neg (fun q => by have := (nI_eq (b := 20) (by omega) (by decide)).mp q; omega), e1]
              exact K7.ok rfl c1 g1 (FrR.rf.fl.tr f1) e9
            · have e10 : nI (aM (xA x)) = 20 := by rw [show aM (xA x) = 20 by omega]; rfl
              rw [if_neg e, if_pos e10, q_denies]
              exact K7.den hf FrR.rf.fl rfl
theorem k7_drop (h : C7w wi x S) (wx : WX D x) : K7 wi x S (spX7_withdraw p S) (coDrop (xA x) (xD x) p) (fun k => k) := by
  have w := wx.1.1
  have hf := h.fl 0
  unfold spX7_withdraw coDrop
  rw [q_lost7 h.1 w]
  cases hx : ixo p (aM (xA x)) with
  | none =>
    refine K7.bad (Or.inl rfl) h ?_
    show bd2 (some (1, flS S (nI 1))) _ = _
    rw [bd2_s, if_neg i1_0]
  | some c =>
    obtain ⟨h1, rfl⟩ := ixo_some hx
    show K7 wi x S (bd2 (some (0, flS S 0)) _) _ _
    obtain ⟨T, e1, e9, c1, f1, e167⟩ := q_keeps hf wx hf.1 w (by decide)
    have g1 := hf.1
    rw [← e167] at g1
    obtain ⟨g, e2, g2⟩ := q_drops g1 w h1
    rw [bd2_s, if_pos rfl, rg_s hf.1 w h1, Option.bind_some, e1, Option.bind_some, e2, Option.bind_some]
    exact K7.ok rfl c1 g2 (FrR.rf.fl.tr f1) e9
theorem k7_sow (h : C7w wi x S) (wx : WX D x) : K7 wi x S (spX7_sow p q S) (coSow (xA x) (xD x) p q) (fun k => k - 1) := by
  have w := wx.1.1
  have hf := h.fl 0
  have in199 : spX7_in q 1 99 S = some (b2 (rng q 1 99).isSome) := q_in7 q (lo := 1) (hi := 99) (by decide) (by decide) S
  unfold spX7_sow coSow
  rw [q_fld7, Option.bind_some, jn_e]
  dsimp only
  cases hx : ixo p 16 with
  | none =>
    refine K7.bad (Or.inr rfl) h ?_
    rw [if_pos b2s_n, q_fails1, bd2_s, if_neg i1_0]
  | some f =>
    obtain ⟨h1, rfl⟩ := ixo_some hx
    rw [if_neg (b2s_s f), in199, Option.bind_some]
    show K7 wi x S _ (match rng q 1 99 with | none => _ | some n => _) _
    cases hy : rng q 1 99 with
    | none =>
      refine K7.bad (Or.inr rfl) h ?_
      rw [if_pos b2s_n, q_fails1, bd2_s, if_neg i1_0]
    | some n =>
      obtain ⟨h2, h3, rfl⟩ := rng_some hy
      have hg := w.2.2.2 f h1
      rw [if_neg (b2s_s n), q_fails0, bd2_s, if_pos rfl, if_pos (in_16 h1), ix_16 h1, hf.1.2.2.2 f h1, nI_add]
      show K7 wi x S _ (if aG (xA x) f + n ≤ 99 then _ else _) _
      by_cases e3 : aG (xA x) f + n ≤ 99
      · obtain ⟨T, e1, e9, c1, f1, e167⟩ := q_keeps hf wx hf.1 w (by decide)
        have g1 := hf.1
        rw [← e167] at g1
        rw [if_pos e3, if_pos (show nI (aG (xA x) f + n) ≤ (99 : Int32) from show nI (aG (xA x) f + n) ≤ nI 99 from nI_le e3 (by decide)), e1, Option.bind_some]
        simp (discharger := omega) only [in_4, ix_4, in_16 h1, ix_16 h1, ↓reduceIte, wr_eq, pF_pF, pF_at, u_ne, u_at, g1.2.2.2 f h1, g1.1.2.2.2.2.2, nI_add]
        exact K7.ok rfl c1 (rg_sown (rg_gr g1 w h1 (aG (xA x) f + n)) n) (FrR.rf.fl.tr f1) e9
      · rw [if_neg e3, if_neg (show ¬ nI (aG (xA x) f + n) ≤ (99 : Int32) from show ¬ nI (aG (xA x) f + n) ≤ nI 99 from nI_ge (by omega) (by omega)), q_denies]
        exact K7.den hf FrR.rf.fl rfl
theorem k7_wait (h : C7w wi x S) (wx : WX D x) (hD : D + 60 ≤ 1000000) : K7 wi x S (spX7_pass p S) (coWait (xA x) (xD x) p) (fun k => k - 1) := by
  have w := wx.1.1
  have hf := h.fl 0
  have in160 : spX7_in p 1 60 S = some (b2 (rng p 1 60).isSome) := q_in7 p (lo := 1) (hi := 60) (by decide) (by decide) S
  unfold spX7_pass coWait
  rw [in160, Option.bind_some, jn_e]
  dsimp only
  cases hx : rng p 1 60 with
  | none =>
    refine K7.bad (Or.inr rfl) h ?_
    rw [if_pos b2s_n, q_fails1, bd2_s, if_neg i1_0]
  | some k =>
    obtain ⟨h2, h3, rfl⟩ := rng_some hx
    obtain ⟨T, e1, e9, c1, f1, e167⟩ := q_keeps hf wx hf.1 w (by decide)
    have g1 := hf.1
    rw [← e167] at g1
    obtain ⟨g, e2, g2⟩ := q_gop (k := k) (by omega) g1 wx.1 (by omega)
    rw [if_neg (b2s_s k), q_fails0, bd2_s, if_pos rfl, e1, Option.bind_some, e2]
    exact K7.ok rfl c1 g2 (FrR.rf.fl.tr f1) e9
end CORE7

/-! ===== the questions, class and reference together ===== -/
theorem Inv.c7 {D : Nat} {x : AX} {S T : Wo} (h : Inv D x S) (hf : Fr7 S T) (h7 : C7 x T) : Inv D x T := ⟨h.1, h.2.1.fr hf, h7⟩
theorem Inv.fl {D : Nat} {x : AX} {S : Wo} (h : Inv D x S) (p : Int32) : Inv D x (flS S p) := h.c7 (flS_fr S p) (h.2.2.fl p)
theorem Inv.i9 {D : Nat} {x : AX} {S : Wo} (h : Inv D x S) (p : Int32) : Inv D x (pI S 166 9 p) := h.c7 (Fr7.rf.pI (by decide)) (h.2.2.end_ (by decide))
theorem stQ {D : Nat} {x : AX} {S : Wo} {spL : Wo → Option (Nat × Int32 × Wo)} {sp7 : Wo → Option (Int32 × Wo)} (h : Inv D x S) (k : Nat) (a b : Int32) (h6 : spL S = some (0, nI k, if k = 0 then pL S a.toInt64 else S)) (h7 : ∀ T, Inv D x T → sp7 T = some (b, flS T (nI k))) (hb : k = 0 → b = a) (hk9 : k < 10 := by decide) : StI spL sp7 S D := by
  have hT : Inv D x (if k = 0 then pL S a.toInt64 else S) := by
    by_cases e : k = 0
    · rw [if_pos e]; exact h.pL _
    · rw [if_neg e]; exact h
  refine ⟨k, _, b, _, x, h6, h7 _ hT, flS_9 _ _, fun e => ?_, hT.fl _⟩
  have e : k = 0 := (nI_eq (a := k) (b := 0) (by omega) (by decide)).mp e
  rw [if_pos e, hb e]
  rfl
theorem stQ9 {D : Nat} {x : AX} {S : Wo} {spL : Wo → Option (Nat × Int32 × Wo)} {sp7 : Wo → Option (Int32 × Wo)} (h : Inv D x S) (k : Nat) (a b : Int32) (h6 : spL S = some (0, nI k, if k = 0 then pL S a.toInt64 else S)) (h7 : ∀ T, Inv D x T → sp7 T = some (b, pI T 166 9 (nI k))) (hb : k = 0 → b = a) (hk9 : k < 10 := by decide) : StI spL sp7 S D := by
  have hT : Inv D x (if k = 0 then pL S a.toInt64 else S) := by
    by_cases e : k = 0
    · rw [if_pos e]; exact h.pL _
    · rw [if_neg e]; exact h
  refine ⟨k, _, b, _, x, h6, h7 _ hT, pI_at _ _ _ _, fun e => ?_, hT.i9 _⟩
  have e : k = 0 := (nI_eq (a := k) (b := 0) (by omega) (by decide)).mp e
  rw [if_pos e, hb e]
  rfl
section QST
variable {D : Nat} {x : AX} {S : Wo}
theorem st_fieldOf (p : Int32) (h : Inv D x S) : StI (spL_fieldOf p) (spX7_fieldOf p) S D := by
  have w := h.1.1.1
  have hn := w.1.1
  have hm := w.1.2.1
  have hd1 := w.1.2.2.1
  have hd2 := w.1.2.2.2
  cases hx : ixo p (aN (xA x)) with
  | none =>
    refine stQ h 1 0 0 ?_ (fun T hT => ?_) (fun q => absurd q (by decide))
    · unfold spL_fieldOf spX6_fieldOf
      rw [q_reqS h.2.1.1 w, hx]
      rfl
    · unfold spX7_fieldOf
      rw [q_none7 hT.2.2.1 w, hx]
      show bd2 (some (1, flS T (nI 1))) _ = _
      rw [bd2_s, if_neg i1_0]
  | some s =>
    obtain ⟨h1, rfl⟩ := ixo_some hx
    refine stQ h 0 (nI (aF (xA x) s)) (nI (aF (xA x) s)) ?_ (fun T hT => ?_) (fun _ => rfl)
    · unfold spL_fieldOf spX6_fieldOf
      rw [q_reqS h.2.1.1 w, hx]
      show bxc (bx (some (0, 0, S)) _) _ _ = _
      rw [bx_0]
      have eg : spX4_get 2 10 (nI s) S = some (nI (aF (xA x) s)) := rs_f h.2.1.1 w h1
      rw [eg, Option.bind_some, bxc_0]
      rfl
    · have g := (hT.2.2.fl 0).1
      unfold spX7_fieldOf
      rw [q_none7 hT.2.2.1 w, hx]
      show bd2 (some (0, flS T 0)) _ = _
      rw [bd2_s, if_pos rfl]
      rw [if_pos (in_5 (by omega)), ix_5 (by omega), g.2.1 s h1]
      rfl
theorem st_isRevoked (p : Int32) (h : Inv D x S) : StI (spL_isRevoked p) (spX7_isRevoked p) S D := by
  have w := h.1.1.1
  have hn := w.1.1
  have hm := w.1.2.1
  have hd1 := w.1.2.2.1
  have hd2 := w.1.2.2.2
  cases hx : ixo p (aN (xA x)) with
  | none =>
    refine stQ h 1 0 0 ?_ (fun T hT => ?_) (fun q => absurd q (by decide))
    · unfold spL_isRevoked spX6_isRevoked
      rw [q_reqS h.2.1.1 w, hx]
      rfl
    · unfold spX7_isRevoked
      rw [q_none7 hT.2.2.1 w, hx]
      show bd2 (some (1, flS T (nI 1))) _ = _
      rw [bd2_s, if_neg i1_0]
      rfl
  | some s =>
    obtain ⟨h1, rfl⟩ := ixo_some hx
    refine stQ h 0 (b2 (bt (aR (xA x)) s)) (b2 (bt (aR (xA x)) s)) ?_ (fun T hT => ?_) (fun _ => rfl)
    · unfold spL_isRevoked spX6_isRevoked
      rw [q_reqS h.2.1.1 w, hx]
      show bxc (bx (some (0, 0, S)) _) _ _ = _
      rw [bx_0]
      rw [h.2.1.1.1.2.1, q_has (by omega), Option.bind_some, rz_b2, bxc_0]
      cases (bt (aR (xA x)) s) <;> rfl
    · have g := (hT.2.2.fl 0).1
      unfold spX7_isRevoked
      rw [q_none7 hT.2.2.1 w, hx]
      show bd2 (some (0, flS T 0)) _ = _
      rw [bd2_s, if_pos rfl]
      rw [if_pos in_15, ix_15, g.1.2.1, q_has7 (by omega), Option.bind_some]
      cases bt (aR (xA x)) s <;> rfl
theorem q_sure {T : Wo} {p : Int32} (hT : C7 x T) (w : WF0 D (xA x)) : spX7_isSure p T = some ((ixo p (aN (xA x))).elim (0, flS T (nI 1)) (fun s => (b2 (bt (cfd (xA x) (aD (xA x))) s), flS T 0))) := by
  have hn := w.1.1
  unfold spX7_isSure
  rw [q_none7 hT.1 w]
  cases hx : ixo p (aN (xA x)) with
  | none =>
    show bd2 (some (1, flS T (nI 1))) _ = _
    rw [bd2_s, if_neg i1_0]
    rfl
  | some s =>
    obtain ⟨h1, rfl⟩ := ixo_some hx
    have g := (hT.fl 0).1
    show bd2 (some (0, flS T 0)) _ = _
    rw [bd2_s, if_pos rfl, if_pos in_2, q_cfdN7 g w, Option.bind_some, q_has7 (by omega), Option.bind_some]
    show _ = some (b2 (bt (cfd (xA x) (aD (xA x))) s), flS T 0)
    cases bt (cfd (xA x) (aD (xA x))) s <;> rfl
theorem st_isCertified (p : Int32) (h : Inv D x S) : StI (spL_isCertified p) (spX7_isCertified p) S D := by
  have w := h.1.1.1
  have hn := w.1.1
  cases hx : ixo p (aN (xA x)) with
  | none =>
    refine stQ h 1 0 0 ?_ (fun T hT => ?_) (fun q => absurd q (by decide))
    · unfold spL_isCertified spX6_isCertified
      rw [q_reqS h.2.1.1 w, hx]
      rfl
    · unfold spX7_isCertified
      rw [q_sure hT.2.2 w, hx]
      rfl
  | some s =>
    obtain ⟨h1, rfl⟩ := ixo_some hx
    refine stQ h 0 (b2 (bt (cfd (xA x) (aD (xA x))) s)) (b2 (bt (cfd (xA x) (aD (xA x))) s)) ?_ (fun T hT => ?_) (fun _ => rfl)
    · unfold spL_isCertified spX6_isCertified
      rw [q_reqS h.2.1.1 w, hx]
      show bxc (bx (some (0, 0, S)) _) _ _ = _
      rw [bx_0, q_cfdNow h.2.1.1 w, Option.bind_some, q_has (by omega), Option.bind_some, rz_b2, bxc_0]
      cases bt (cfd (xA x) (aD (xA x))) s <;> rfl
    · unfold spX7_isCertified
      rw [q_sure hT.2.2 w, hx]
      show bd2 (some (b2 (bt (cfd (xA x) (aD (xA x))) s), flS T 0)) _ = _
      rw [bd2_s, rz_b2]
      rfl
theorem st_isCertifiedByChains (p : Int32) (h : Inv D x S) : StI (spL_isCertifiedByChains p) (spX7_isCertifiedByChains p) S D := by
  have w := h.1.1.1
  have hn := w.1.1
  cases hx : ixo p (aN (xA x)) with
  | none =>
    refine stQ h 1 0 0 ?_ (fun T hT => ?_) (fun q => absurd q (by decide))
    · unfold spL_isCertifiedByChains spX6_isCertifiedByChains
      rw [q_reqS h.2.1.1 w, hx]
      rfl
    · unfold spX7_isCertifiedByChains
      rw [q_sure hT.2.2 w, hx]
      rfl
  | some s =>
    obtain ⟨h1, rfl⟩ := ixo_some hx
    refine stQ h 0 (b2 (bt (cfd (xA x) (aD (xA x))) s)) (b2 (bt (cfd (xA x) (aD (xA x))) s)) ?_ (fun T hT => ?_) (fun _ => rfl)
    · unfold spL_isCertifiedByChains spX6_isCertifiedByChains
      rw [q_reqS h.2.1.1 w, hx]
      show bxc (bx (some (0, 0, S)) _) _ _ = _
      rw [bx_0, q_lb h.2.1.1 h.1.1 h1, Option.bind_some, rz_b2, bxc_0]
      cases bt (cfd (xA x) (aD (xA x))) s <;> rfl
    · unfold spX7_isCertifiedByChains
      rw [q_sure hT.2.2 w, hx]
      show bd2 (some (b2 (bt (cfd (xA x) (aD (xA x))) s), flS T 0)) _ = _
      rw [bd2_s, rz_b2]
      rfl
theorem st_daysUntilUncertified (p : Int32) (h : Inv D x S) : StI (spL_daysUntilUncertified p) (spX7_daysUntilUncertified p) S D := by
  have w := h.1.1.1
  have hn := w.1.1
  have hm := w.1.2.1
  have hd1 := w.1.2.2.1
  have hd2 := w.1.2.2.2
  cases hx : ixo p (aN (xA x)) with
  | none =>
    refine stQ h 1 0 0 ?_ (fun T hT => ?_) (fun q => absurd q (by decide))
    · unfold spL_daysUntilUncertified spX6_daysUntilUncertified
      rw [q_reqS h.2.1.1 w, hx]
      rfl
    · unfold spX7_daysUntilUncertified
      rw [q_none7 hT.2.2.1 w, hx]
      show bd2 (some (1, flS T (nI 1))) _ = _
      rw [bd2_s, if_neg i1_0]
  | some s =>
    obtain ⟨h1, rfl⟩ := ixo_some hx
    refine stQ h 0 (nI ((dut (xA x) s).getD 100)) (nI ((dut (xA x) s).getD 100)) ?_ (fun T hT => ?_) (fun _ => rfl)
    · unfold spL_daysUntilUncertified spX6_daysUntilUncertified
      rw [q_reqS h.2.1.1 w, hx]
      show bxc (bx (some (0, 0, S)) _) _ _ = _
      rw [bx_0]
      rw [q_dut h.2.1.1 w (by omega), bxc_0]
      rfl
    · have g := (hT.2.2.fl 0).1
      unfold spX7_daysUntilUncertified
      rw [q_none7 hT.2.2.1 w, hx]
      show bd2 (some (0, flS T 0)) _ = _
      rw [bd2_s, if_pos rfl]
      exact q_dut7 g w (by omega)
theorem st_subjectOf (p : Int32) (h : Inv D x S) : StI (spL_subjectOf p) (spX7_subjectOf p) S D := by
  have w := h.1.1.1
  have hn := w.1.1
  have hm := w.1.2.1
  have hd1 := w.1.2.2.1
  have hd2 := w.1.2.2.2
  cases hx : ixo p (aM (xA x)) with
  | none =>
    refine stQ h 1 0 0 ?_ (fun T hT => ?_) (fun q => absurd q (by decide))
    · unfold spL_subjectOf spX6_subjectOf
      rw [q_reqC h.2.1.1 w, hx]
      rfl
    · unfold spX7_subjectOf
      rw [q_lost7 hT.2.2.1 w, hx]
      show bd2 (some (1, flS T (nI 1))) _ = _
      rw [bd2_s, if_neg i1_0]
  | some s =>
    obtain ⟨h1, rfl⟩ := ixo_some hx
    refine stQ h 0 (nI (aC (xA x) s).2.1) (nI (aC (xA x) s).2.1) ?_ (fun T hT => ?_) (fun _ => rfl)
    · unfold spL_subjectOf spX6_subjectOf
      rw [q_reqC h.2.1.1 w, hx]
      show bxc (bx (some (0, 0, S)) _) _ _ = _
      rw [bx_0]
      have eg : spX4_get 6 20 (nI s) S = some (nI (aC (xA x) s).2.1) := rs_s h.2.1.1 w h1
      rw [eg, Option.bind_some, bxc_0]
      rfl
    · have g := (hT.2.2.fl 0).1
      unfold spX7_subjectOf
      rw [q_lost7 hT.2.2.1 w, hx]
      show bd2 (some (0, flS T 0)) _ = _
      rw [bd2_s, if_pos rfl]
      rw [rg_s g w h1, Option.bind_some]
      rfl
theorem st_addressOf (p : Int32) (h : Inv D x S) : StI (spL_addressOf p) (spX7_addressOf p) S D := by
  have w := h.1.1.1
  have hn := w.1.1
  have hm := w.1.2.1
  have hd1 := w.1.2.2.1
  have hd2 := w.1.2.2.2
  cases hx : ixo p (aM (xA x)) with
  | none =>
    refine stQ h 1 0 0 ?_ (fun T hT => ?_) (fun q => absurd q (by decide))
    · unfold spL_addressOf spX6_addressOf
      rw [q_reqC h.2.1.1 w, hx]
      rfl
    · unfold spX7_addressOf
      rw [q_lost7 hT.2.2.1 w, hx]
      show bd2 (some (1, flS T (nI 1))) _ = _
      rw [bd2_s, if_neg i1_0]
  | some s =>
    obtain ⟨h1, rfl⟩ := ixo_some hx
    refine stQ h 0 (nI (aC (xA x) s).2.2.1) (nI (aC (xA x) s).2.2.1) ?_ (fun T hT => ?_) (fun _ => rfl)
    · unfold spL_addressOf spX6_addressOf
      rw [q_reqC h.2.1.1 w, hx]
      show bxc (bx (some (0, 0, S)) _) _ _ = _
      rw [bx_0]
      have eg : spX4_get 8 20 (nI s) S = some (nI (aC (xA x) s).2.2.1) := rs_a h.2.1.1 w h1
      rw [eg, Option.bind_some, bxc_0]
      rfl
    · have g := (hT.2.2.fl 0).1
      unfold spX7_addressOf
      rw [q_lost7 hT.2.2.1 w, hx]
      show bd2 (some (0, flS T 0)) _ = _
      rw [bd2_s, if_pos rfl]
      rw [rg_a g w h1, Option.bind_some]
      rfl
theorem st_lastDayOf (p : Int32) (h : Inv D x S) : StI (spL_lastDayOf p) (spX7_lastDayOf p) S D := by
  have w := h.1.1.1
  have hn := w.1.1
  have hm := w.1.2.1
  have hd1 := w.1.2.2.1
  have hd2 := w.1.2.2.2
  cases hx : ixo p (aM (xA x)) with
  | none =>
    refine stQ h 1 0 0 ?_ (fun T hT => ?_) (fun q => absurd q (by decide))
    · unfold spL_lastDayOf spX6_lastDayOf
      rw [q_reqC h.2.1.1 w, hx]
      rfl
    · unfold spX7_lastDayOf
      rw [q_lost7 hT.2.2.1 w, hx]
      show bd2 (some (1, flS T (nI 1))) _ = _
      rw [bd2_s, if_neg i1_0]
  | some s =>
    obtain ⟨h1, rfl⟩ := ixo_some hx
    refine stQ h 0 (nI (aC (xA x) s).2.2.2) (nI (aC (xA x) s).2.2.2) ?_ (fun T hT => ?_) (fun _ => rfl)
    · unfold spL_lastDayOf spX6_lastDayOf
      rw [q_reqC h.2.1.1 w, hx]
      show bxc (bx (some (0, 0, S)) _) _ _ = _
      rw [bx_0]
      have eg : spX4_get 10 20 (nI s) S = some (nI (aC (xA x) s).2.2.2) := rs_l h.2.1.1 w h1
      rw [eg, Option.bind_some, bxc_0]
      rfl
    · have g := (hT.2.2.fl 0).1
      unfold spX7_lastDayOf
      rw [q_lost7 hT.2.2.1 w, hx]
      show bd2 (some (0, flS T 0)) _ = _
      rw [bd2_s, if_pos rfl]
      rw [rg_l g w h1, Option.bind_some]
      rfl
theorem st_isInForce (p : Int32) (h : Inv D x S) : StI (spL_isInForce p) (spX7_isInForce p) S D := by
  have w := h.1.1.1
  have hn := w.1.1
  have hm := w.1.2.1
  have hd1 := w.1.2.2.1
  have hd2 := w.1.2.2.2
  cases hx : ixo p (aM (xA x)) with
  | none =>
    refine stQ h 1 0 0 ?_ (fun T hT => ?_) (fun q => absurd q (by decide))
    · unfold spL_isInForce spX6_isInForce
      rw [q_reqC h.2.1.1 w, hx]
      rfl
    · unfold spX7_isInForce
      rw [q_lost7 hT.2.2.1 w, hx]
      show bd2 (some (1, flS T (nI 1))) _ = _
      rw [bd2_s, if_neg i1_0]
      rfl
  | some s =>
    obtain ⟨h1, rfl⟩ := ixo_some hx
    refine stQ h 0 (b2 (vld (xA x) s)) (b2 (vld (xA x) s)) ?_ (fun T hT => ?_) (fun _ => rfl)
    · unfold spL_isInForce spX6_isInForce
      rw [q_reqC h.2.1.1 w, hx]
      show bxc (bx (some (0, 0, S)) _) _ _ = _
      rw [bx_0]
      have e : bt (bkd (xA x) (aD (xA x)) (cfd (xA x) (aD (xA x)))) s = vld (xA x) s := ifn_bt w h1
      rw [q_ifn h.2.1.1 w, Option.bind_some, q_has (by omega), e, Option.bind_some, rz_b2, bxc_0]
      cases (vld (xA x) s) <;> rfl
    · have g := (hT.2.2.fl 0).1
      unfold spX7_isInForce
      rw [q_lost7 hT.2.2.1 w, hx]
      show bd2 (some (0, flS T 0)) _ = _
      rw [bd2_s, if_pos rfl]
      rw [q_valid7 g w h1, Option.bind_some]
      cases vld (xA x) s <;> rfl
theorem st_isByRegistry (p : Int32) (h : Inv D x S) : StI (spL_isByRegistry p) (spX7_isByRegistry p) S D := by
  have w := h.1.1.1
  have hn := w.1.1
  have hm := w.1.2.1
  have hd1 := w.1.2.2.1
  have hd2 := w.1.2.2.2
  cases hx : ixo p (aM (xA x)) with
  | none =>
    refine stQ h 1 0 0 ?_ (fun T hT => ?_) (fun q => absurd q (by decide))
    · unfold spL_isByRegistry spX6_isByRegistry
      rw [q_reqC h.2.1.1 w, hx]
      rfl
    · unfold spX7_isByRegistry
      rw [q_lost7 hT.2.2.1 w, hx]
      show bd2 (some (1, flS T (nI 1))) _ = _
      rw [bd2_s, if_neg i1_0]
      rfl
  | some s =>
    obtain ⟨h1, rfl⟩ := ixo_some hx
    refine stQ h 0 (b2 (decide ((aC (xA x) s).1 = 0))) (b2 (decide ((aC (xA x) s).1 = 0))) ?_ (fun T hT => ?_) (fun _ => rfl)
    · unfold spL_isByRegistry spX6_isByRegistry
      rw [q_reqC h.2.1.1 w, hx]
      show bxc (bx (some (0, 0, S)) _) _ _ = _
      rw [bx_0]
      have eg : spX4_get 4 20 (nI s) S = some (cIs (aC (xA x) s).1) := rs_i h.2.1.1 w h1
      have wi := (w.2.2.1 s h1).1
      rw [eg, Option.bind_some]
      by_cases e : (aC (xA x) s).1 = 0
      · rw [e, cIs_0, if_pos rfl]; rfl
      · rw [cIs_p e, if_neg (q_m1 (by omega)), decide_eq_false e]; rfl
    · have g := (hT.2.2.fl 0).1
      unfold spX7_isByRegistry
      rw [q_lost7 hT.2.2.1 w, hx]
      show bd2 (some (0, flS T 0)) _ = _
      rw [bd2_s, if_pos rfl]
      have wi := (w.2.2.1 s h1).1
      rw [rg_i g w h1, Option.bind_some]
      by_cases e : (aC (xA x) s).1 = 0
      · rw [e, cIs_0, if_neg (by decide)]; rfl
      · rw [cIs_p e, if_pos (nI_pos' (by omega)), decide_eq_false e]; rfl
theorem st_grains (p : Int32) (h : Inv D x S) : StI (spL_grains p) (spX7_grains p) S D := by
  have w := h.1.1.1
  have hn := w.1.1
  have hm := w.1.2.1
  have hd1 := w.1.2.2.1
  have hd2 := w.1.2.2.2
  cases hx : ixo p 16 with
  | none =>
    refine stQ h 1 0 0 ?_ (fun T hT => ?_) (fun q => absurd q (by decide))
    · unfold spL_grains spX6_grains
      rw [q_reqF, hx]
      rfl
    · unfold spX7_grains
      rw [q_fld7, hx, Option.bind_some, jn_e]
      dsimp only
      rw [if_pos b2s_n, q_fails1, bd2_s, if_neg i1_0]
  | some s =>
    obtain ⟨h1, rfl⟩ := ixo_some hx
    refine stQ h 0 (nI (aG (xA x) s)) (nI (aG (xA x) s)) ?_ (fun T hT => ?_) (fun _ => rfl)
    · unfold spL_grains spX6_grains
      rw [q_reqF, hx]
      show bxc (bx (some (0, 0, S)) _) _ _ = _
      rw [bx_0]
      have eg : spX4_get 12 16 (nI s) S = some (nI (aG (xA x) s)) := rs_g h.2.1.1 h1
      rw [eg, Option.bind_some, bxc_0]
      rfl
    · have g := (hT.2.2.fl 0).1
      unfold spX7_grains
      rw [q_fld7, hx, Option.bind_some, jn_e]
      dsimp only
      rw [if_neg (b2s_s s), q_fails0, bd2_s, if_pos rfl]
      rw [if_pos (in_16 h1), ix_16 h1, g.2.2.2 s h1]
      rfl
theorem st_isGuarded (p : Int32) (h : Inv D x S) : StI (spL_isGuarded p) (spX7_isGuarded p) S D := by
  have w := h.1.1.1
  have hn := w.1.1
  have hm := w.1.2.1
  have hd1 := w.1.2.2.1
  have hd2 := w.1.2.2.2
  cases hx : ixo p 16 with
  | none =>
    refine stQ h 1 0 0 ?_ (fun T hT => ?_) (fun q => absurd q (by decide))
    · unfold spL_isGuarded spX6_isGuarded
      rw [q_reqF, hx]
      rfl
    · unfold spX7_isGuarded
      rw [q_fld7, hx, Option.bind_some, jn_e]
      dsimp only
      rw [if_pos b2s_n, q_fails1, bd2_s, if_neg i1_0]
      rfl
  | some s =>
    obtain ⟨h1, rfl⟩ := ixo_some hx
    refine stQ h 0 (b2 (nr (xA x) (cfd (xA x) (aD (xA x))) s)) (b2 (nr (xA x) (cfd (xA x) (aD (xA x))) s)) ?_ (fun T hT => ?_) (fun _ => rfl)
    · unfold spL_isGuarded spX6_isGuarded
      rw [q_reqF, hx]
      show bxc (bx (some (0, 0, S)) _) _ _ = _
      rw [bx_0]
      rw [q_cfdNow h.2.1.1 w, Option.bind_some, q_near h.2.1.1 w h1, Option.bind_some, rz_b2, bxc_0]
      cases (nr (xA x) (cfd (xA x) (aD (xA x))) s) <;> rfl
    · have g := (hT.2.2.fl 0).1
      unfold spX7_isGuarded
      rw [q_fld7, hx, Option.bind_some, jn_e]
      dsimp only
      rw [if_neg (b2s_s s), q_fails0, bd2_s, if_pos rfl]
      rw [q_guards g w, Option.bind_some, q_has7 (by omega), Option.bind_some, gds_bt h1]
      cases nr (xA x) (cfd (xA x) (aD (xA x))) s <;> rfl
theorem st_issuerOf (p : Int32) (h : Inv D x S) : StI (spL_issuerOf p) (spX7_issuerOf p) S D := by
  have w := h.1.1.1
  have hn := w.1.1
  have hm := w.1.2.1
  cases hx : ixo p (aM (xA x)) with
  | none =>
    refine stQ h 1 0 0 ?_ (fun T hT => ?_) (fun q => absurd q (by decide))
    · unfold spL_issuerOf spX6_issuerOf
      rw [q_reqC h.2.1.1 w, hx]
      rfl
    · unfold spX7_issuerOf
      rw [q_isT hT.2.2.1 w, hx, Option.bind_some, jn_e]
      dsimp only
      rw [if_pos b2s_n, q_fails1, bd2_s, if_neg i1_0]
  | some s =>
    obtain ⟨h1, rfl⟩ := ixo_some hx
    have wi := (w.2.2.1 s h1).1
    have eg : spX4_get 4 20 (nI s) S = some (cIs (aC (xA x) s).1) := rs_i h.2.1.1 w h1
    by_cases e : (aC (xA x) s).1 = 0
    · refine stQ h 2 0 0 ?_ (fun T hT => ?_) (fun q => absurd q (by decide))
      · unfold spL_issuerOf spX6_issuerOf
        rw [q_reqC h.2.1.1 w, hx]
        show bxc (bx (some (0, 0, S)) _) _ _ = _
        rw [bx_0, eg, Option.bind_some, e, cIs_0, if_pos rfl]
        rfl
      · unfold spX7_issuerOf
        rw [q_isT hT.2.2.1 w, hx, Option.bind_some, jn_e]
        dsimp only
        rw [if_neg (b2s_s s), rg_i hT.2.2.1 w h1, Option.bind_some, e, cIs_0, if_neg (by decide), q_fails2, bd2_s, if_neg i1_0]
    · refine stQ h 0 (nI ((aC (xA x) s).1 - 1)) (nI ((aC (xA x) s).1 - 1)) ?_ (fun T hT => ?_) (fun _ => rfl)
      · unfold spL_issuerOf spX6_issuerOf
        rw [q_reqC h.2.1.1 w, hx]
        show bxc (bx (some (0, 0, S)) _) _ _ = _
        rw [bx_0, eg, Option.bind_some, cIs_p e, if_neg (q_m1 (by omega)), bxc_0]
        rfl
      · have g := (hT.2.2.fl 0).1
        unfold spX7_issuerOf
        rw [q_isT hT.2.2.1 w, hx, Option.bind_some, jn_e]
        dsimp only
        rw [if_neg (b2s_s s), rg_i hT.2.2.1 w h1, Option.bind_some, cIs_p e, if_pos (nI_pos' (by omega)), q_fails0, bd2_s, if_pos rfl, rg_i g w h1, Option.bind_some, cIs_p e]
        rfl
theorem st_scarecrowOn (p : Int32) (h : Inv D x S) : StI (spL_scarecrowOn p) (spX7_scarecrowOn p) S D := by
  have w := h.1.1.1
  have hn := w.1.1
  cases hx : ixo p 16 with
  | none =>
    refine stQ h 1 0 0 ?_ (fun T hT => ?_) (fun q => absurd q (by decide))
    · unfold spL_scarecrowOn spX6_scarecrowOn
      rw [q_reqF, hx]
      rfl
    · unfold spX7_scarecrowOn
      rw [q_fld7, hx, Option.bind_some, if_pos b2s_n, q_fails1, bd2_s, if_neg i1_0]
  | some s =>
    cases hs : stn (xA x) p with
    | none =>
      refine stQ h 2 0 0 ?_ (fun T hT => ?_) (fun q => absurd q (by decide))
      · unfold spL_scarecrowOn spX6_scarecrowOn
        rw [q_reqF, hx]
        show bxc (bx (some (0, 0, S)) _) _ _ = _
        rw [bx_0, q_at h.2.1.1 w, Option.bind_some, hs, if_pos oI_n]
        rfl
      · unfold spX7_scarecrowOn
        rw [q_fld7, hx, Option.bind_some, if_neg (b2s_s s), q_stn7 hT.2.2.1 w, Option.bind_some, hs, if_neg (by decide), q_fails2, bd2_s, if_neg i1_0]
    | some k =>
      have hk := (stn_lt hs).1
      refine stQ h 0 (nI k) (nI k) ?_ (fun T hT => ?_) (fun _ => rfl)
      · unfold spL_scarecrowOn spX6_scarecrowOn
        rw [q_reqF, hx]
        show bxc (bx (some (0, 0, S)) _) _ _ = _
        rw [bx_0, q_at h.2.1.1 w, Option.bind_some, hs, if_neg (show ¬ oI (some k) = -1 from q_m1 (by omega)), bxc_0]
        rfl
      · have g := (hT.2.2.fl 0).1
        unfold spX7_scarecrowOn
        rw [q_fld7, hx, Option.bind_some, if_neg (b2s_s s), q_stn7 hT.2.2.1 w, Option.bind_some, hs, if_pos (show (0 : Int32) ≤ oI (some k) from nI_pos' (by omega)), q_fails0, bd2_s, if_pos rfl, q_stn7 g w, Option.bind_some, hs]
        rfl
theorem st_chainLength (p : Int32) (h : Inv D x S) : StI (spL_chainLength p) (spX7_chainLength p) S D := by
  have w := h.1.1.1
  have hn := w.1.1
  cases hx : ixo p (aN (xA x)) with
  | none =>
    refine stQ h 1 0 0 ?_ (fun T hT => ?_) (fun q => absurd q (by decide))
    · unfold spL_chainLength spX6_chainLength
      rw [q_reqS h.2.1.1 w, hx]
      rfl
    · unfold spX7_chainLength
      rw [q_isC hT.2.2.1 w, hx, Option.bind_some, jn_e]
      dsimp only
      rw [if_pos b2s_n, q_fails1, bd2_s, if_neg i1_0]
  | some s =>
    obtain ⟨h1, rfl⟩ := ixo_some hx
    have hi := chl_iff (s := s) w (by omega)
    cases hc : chl (xA x) s with
    | none =>
      have hb := hi.mp hc
      refine stQ h 2 0 0 ?_ (fun T hT => ?_) (fun q => absurd q (by decide))
      · unfold spL_chainLength spX6_chainLength
        rw [q_reqS h.2.1.1 w, hx]
        show bxc (bx (some (0, 0, S)) _) _ _ = _
        rw [bx_0, q_chl h.2.1.1 w (by omega), hc]
        rfl
      · unfold spX7_chainLength
        rw [q_isC hT.2.2.1 w, hx, Option.bind_some, jn_e]
        dsimp only
        rw [if_neg (b2s_s s), if_pos in_2, q_cfdN7 hT.2.2.1 w, Option.bind_some, q_has7 (by omega), Option.bind_some, hb, if_pos b2_f, q_fails2, bd2_s, if_neg i1_0]
    | some k =>
      have hb : bt (cfd (xA x) (aD (xA x))) s = true := by
        cases q : bt (cfd (xA x) (aD (xA x))) s
        · rw [hi.mpr q] at hc; cases hc
        · rfl
      refine stQ h 0 (nI k) (nI k) ?_ (fun T hT => ?_) (fun _ => rfl)
      · unfold spL_chainLength spX6_chainLength
        rw [q_reqS h.2.1.1 w, hx]
        show bxc (bx (some (0, 0, S)) _) _ _ = _
        rw [bx_0, q_chl h.2.1.1 w (by omega), hc]
        rfl
      · have g := (hT.2.2.fl 0).1
        unfold spX7_chainLength
        rw [q_isC hT.2.2.1 w, hx, Option.bind_some, jn_e]
        dsimp only
        rw [if_neg (b2s_s s), if_pos in_2, q_cfdN7 hT.2.2.1 w, Option.bind_some, q_has7 (by omega), Option.bind_some, hb, if_neg (show ¬ b2 true = 0 from by decide), q_fails0, bd2_s, if_pos rfl, q_chl7 g w (by omega) hb, hc]
        rfl
theorem st_scarecrowByCertificates (p : Int32) (h : Inv D x S) : StI (spL_scarecrowByCertificates p) (spX7_scarecrowByCertificates p) S D := by
  have w := h.1.1.1
  cases hs : sbc (xA x) p with
  | none =>
    refine stQ9 h 1 0 0 ?_ (fun T hT => ?_) (fun q => absurd q (by decide))
    · unfold spL_scarecrowByCertificates
      rw [q_sbc h.2.1.1 w, hs]
      rfl
    · rw [q_sbc7 hT.2.2.1 w, hs]
      rfl
  | some k =>
    refine stQ9 h 0 (nI k) (nI k) ?_ (fun T hT => ?_) (fun _ => rfl)
    · unfold spL_scarecrowByCertificates
      rw [q_sbc h.2.1.1 w, hs]
      rfl
    · rw [q_sbc7 hT.2.2.1 w, hs]
      rfl
theorem st_faultPosition (h : Inv D x S) : StI (spL_faultPosition) (spX7_faultPosition) S D := by
  rcases h.1.2.2.2.2.2 with e | ⟨k, hk, e⟩
  · refine stQ h 1 0 0 ?_ (fun T hT => ?_) (fun q => absurd q (by decide))
    · unfold spL_faultPosition spX6_faultPosition
      rw [h.2.1.2.2.2.2.2.1, e, if_pos rfl]
      rfl
    · unfold spX7_faultPosition
      rw [hT.2.2.2.2.2.2.2.1, e, if_neg (by decide), q_fails1, bd2_s, if_neg i1_0]
  · refine stQ h 0 (nI k) (nI k) ?_ (fun T hT => ?_) (fun _ => rfl)
    · unfold spL_faultPosition spX6_faultPosition
      rw [h.2.1.2.2.2.2.2.1, e, if_neg (q_m1 (by omega)), bxc_0]
      rfl
    · have g := (hT.2.2.fl 0).2.2.2.2.2.1
      unfold spX7_faultPosition
      rw [hT.2.2.2.2.2.2.2.1, e, if_pos (nI_pos' (by omega)), q_fails0, bd2_s, if_pos rfl, g, e]
      rfl

theorem st_denial (h : Inv D x S) : StI (spL_denial) (spX7_denial) S D := by
  have h9 : S.1 0 9 = (xD x).1 := h.2.1.2.2.2.2.2.2.1
  have hv : S.1 0 9 = (xD x).1 := h.2.1.2.2.2.2.2.2.1
  by_cases e : (xD x).1 = 0
  · refine stQ h 1 0 0 ?_ (fun T hT => ?_) (fun q => absurd q (by decide))
    · unfold spL_denial spX6_denial spX6_requireDenial
      rw [h9, if_pos e]
      rfl
    · have g10 : T.1 166 10 = (xD x).1 := hT.2.2.2.2.2.2.2.2.1
      unfold spX7_denial
      rw [g10, if_pos e, q_fails1, bd2_s, if_neg i1_0]
  · refine stQ h 0 (xD x).1 (xD x).1 ?_ (fun T hT => ?_) (fun _ => rfl)
    · unfold spL_denial spX6_denial spX6_requireDenial
      rw [h9, if_neg e, bx_0, hv, bxc_0]
      rfl
    · have g := (hT.2.2.fl 0).2.2.2.2.2
      have g10 : T.1 166 10 = (xD x).1 := hT.2.2.2.2.2.2.2.2.1
      unfold spX7_denial
      rw [g10, if_neg e, q_fails0, bd2_s, if_pos rfl, g.2.1]
      rfl

theorem st_denialDetail (h : Inv D x S) : StI (spL_denialDetail) (spX7_denialDetail) S D := by
  have h9 : S.1 0 9 = (xD x).1 := h.2.1.2.2.2.2.2.2.1
  have hv : S.1 0 10 = (xD x).2.1 := h.2.1.2.2.2.2.2.2.2.1
  by_cases e : (xD x).1 = 0
  · refine stQ h 1 0 0 ?_ (fun T hT => ?_) (fun q => absurd q (by decide))
    · unfold spL_denialDetail spX6_denialDetail spX6_requireDenial
      rw [h9, if_pos e]
      rfl
    · have g10 : T.1 166 10 = (xD x).1 := hT.2.2.2.2.2.2.2.2.1
      unfold spX7_denialDetail
      rw [g10, if_pos e, q_fails1, bd2_s, if_neg i1_0]
  · refine stQ h 0 (xD x).2.1 (xD x).2.1 ?_ (fun T hT => ?_) (fun _ => rfl)
    · unfold spL_denialDetail spX6_denialDetail spX6_requireDenial
      rw [h9, if_neg e, bx_0, hv, bxc_0]
      rfl
    · have g := (hT.2.2.fl 0).2.2.2.2.2
      have g10 : T.1 166 10 = (xD x).1 := hT.2.2.2.2.2.2.2.2.1
      unfold spX7_denialDetail
      rw [g10, if_neg e, q_fails0, bd2_s, if_pos rfl, g.2.2.1]
      rfl

theorem st_denialCause (h : Inv D x S) : StI (spL_denialCause) (spX7_denialCause) S D := by
  have hv : S.1 0 11 = (xD x).2.2 := h.2.1.2.2.2.2.2.2.2.2
  by_cases e : (xD x).2.2 = 0
  · refine stQ h 1 0 0 ?_ (fun T hT => ?_) (fun q => absurd q (by decide))
    · unfold spL_denialCause spX6_denialCause
      rw [hv, if_pos e]
      rfl
    · have g12 : T.1 166 12 = (xD x).2.2 := hT.2.2.2.2.2.2.2.2.2.2
      unfold spX7_denialCause
      rw [g12, if_pos e, q_fails1, bd2_s, if_neg i1_0]
  · refine stQ h 0 (xD x).2.2 (xD x).2.2 ?_ (fun T hT => ?_) (fun _ => rfl)
    · unfold spL_denialCause spX6_denialCause
      rw [hv, if_neg e, bxc_0]
      rfl
    · have g := (hT.2.2.fl 0).2.2.2.2.2
      have g12 : T.1 166 12 = (xD x).2.2 := hT.2.2.2.2.2.2.2.2.2.2
      unfold spX7_denialCause
      rw [g12, if_neg e, q_fails0, bd2_s, if_pos rfl, g.2.2.2]
      rfl
end QST

/-! ===== numbers asked for without exceptions ===== -/
def StB (sp6 : Wo → Option Int32) (sp7 : Wo → Option (Int32 × Wo)) (S : Wo) (D : Nat) : Prop := ∃ v T x', sp6 S = some v ∧ sp7 S = some (v, T) ∧ Inv D x' T
section BST
variable {D : Nat} {x : AX} {S : Wo}
theorem sb_scarecrowCount (h : Inv D x S) : StB spX6_scarecrowCount spX7_scarecrowCount S D := by
  have g := (h.i9 0).2.2.1
  refine ⟨nI (aN (xA x)), _, x, ?_, ?_, h.i9 0⟩
  · unfold spX6_scarecrowCount; rw [h.2.1.1.1.1]
  · unfold spX7_scarecrowCount; rw [wr_eq, if_pos in_0, ix_0, g.1.1]
theorem sb_certificateCount (h : Inv D x S) : StB spX6_certificateCount spX7_certificateCount S D := by
  have g := (h.i9 0).2.2.1
  refine ⟨nI (aM (xA x)), _, x, ?_, ?_, h.i9 0⟩
  · unfold spX6_certificateCount; rw [h.2.1.1.1.2.2.1]
  · unfold spX7_certificateCount; rw [wr_eq, if_pos in_1, ix_1, g.1.2.2.1]
theorem sb_day (h : Inv D x S) : StB spX6_day spX7_day S D := by
  have g := (h.i9 0).2.2.1
  refine ⟨nI (aD (xA x)), _, x, ?_, ?_, h.i9 0⟩
  · unfold spX6_day; rw [h.2.1.1.1.2.2.2.1]
  · unfold spX7_day; rw [wr_eq, if_pos in_2, q_day7 g]
theorem sb_eaten (h : Inv D x S) : StB spX6_eaten spX7_eaten S D := by
  have g := (h.i9 0).2.2.1
  refine ⟨aE (xA x), _, x, ?_, ?_, h.i9 0⟩
  · unfold spX6_eaten; rw [h.2.1.1.1.2.2.2.2.1]
  · unfold spX7_eaten; rw [wr_eq, if_pos in_3, ix_3, g.1.2.2.2.2.1]
theorem sb_sown (h : Inv D x S) : StB spX6_sown spX7_sown S D := by
  have g := (h.i9 0).2.2.1
  refine ⟨aW (xA x), _, x, ?_, ?_, h.i9 0⟩
  · unfold spX6_sown; rw [h.2.1.1.1.2.2.2.2.2]
  · unfold spX7_sown; rw [wr_eq, if_pos in_4, ix_4, g.1.2.2.2.2.2]
theorem sb_nextLook (h : Inv D x S) : StB spX6_nextLook spX7_nextLook S D := by
  have g := (h.i9 0).2.2.1
  have h1 := h.1.1.1.1.2.2.1
  have h2 := h.1.1.1.1.2.2.2
  refine ⟨nI (lok (aD (xA x) + 1)), _, x, ?_, ?_, h.i9 0⟩
  · unfold spX6_nextLook; rw [h.2.1.1.1.2.2.2.1, nI_1, q_look (by omega)]; rfl
  · have e7 : (7 : Int32) * nI (aD (xA x) + 1) - 7 * nI (aD (xA x) + 1) / 16 * 16 = nI (lok (aD (xA x) + 1)) := by
      show nI 7 * nI (aD (xA x) + 1) - nI 7 * nI (aD (xA x) + 1) / nI 16 * nI 16 = _
      rw [q_mul, q_rem (by omega) (by decide)]; rfl
    unfold spX7_nextLook; rw [wr_eq, if_pos in_2, q_day7 g, nI_1, e7]
theorem sb_inForceCount (h : Inv D x S) : StB spX6_inForceCount spX7_inForceCount S D := by
  have g := (h.i9 0).2.2.1
  have w := h.1.1.1
  refine ⟨nI (fb_ct (vld (xA x)) (aM (xA x))), _, x, ?_, ?_, h.i9 0⟩
  · unfold spX6_inForceCount
    rw [q_ifn h.2.1.1 w, Option.bind_some]
    have := q_ifc w S
    unfold ifn at this
    rw [this]; rfl
  · unfold spX7_inForceCount; rw [wr_eq, q_valid g w]; rfl
theorem sb_guardedFields (h : Inv D x S) : StB spX6_guardedFields spX7_guardedFields S D := by
  have g := (h.i9 0).2.2.1
  have w := h.1.1.1
  refine ⟨nI (gfN (xA x)), _, x, q_gf h.2.1.1 w, ?_, h.i9 0⟩
  unfold spX7_guardedFields; rw [wr_eq, q_guards g w, Option.bind_some, q_bits7, gfN_gds]; rfl
theorem sb_guardedFieldsByScarecrows (h : Inv D x S) : StB spX6_guardedFieldsByScarecrows spX7_guardedFieldsByScarecrows S D := by
  have g := (h.i9 0).2.2.1
  have w := h.1.1.1
  refine ⟨nI (gfN (xA x)), _, x, q_gfs h.2.1.1 w, ?_, h.i9 0⟩
  unfold spX7_guardedFieldsByScarecrows; rw [wr_eq, q_guards g w, Option.bind_some, q_bits7, gfN_gds]; rfl
theorem sb_totalGrains (h : Inv D x S) : StB spX6_totalGrains spX7_totalGrains S D :=
  ⟨nI (tgr (xA x) 16), _, x, q_tg h.2.1.1, q_tg7 h.2.2.1, h.i9 0⟩
theorem sb_undoCount (h : Inv D x S) : StB spX6_undoCount spX7_undoCount S D := by
  obtain ⟨old, h1, h2, h3, h4⟩ := h.2.1.2.1
  refine ⟨nI (xK x), _, x, ?_, ?_, h.i9 0⟩
  · unfold spX6_undoCount; rw [h3]
  · unfold spX7_undoCount; rw [wr_eq, (h.i9 0).2.2.2.1.2.1]
end BST
/-! ===== text fed, states taken back, days foreseen ===== -/
theorem C7w.f1 {wi : Bool} {x : AX} {S : Wo} {a : Nat} {f : Nat → Int32} (h : C7w wi x S) (ha : a = 170 ∨ a = 171 ∨ a = 174) : C7w wi x (pF S a f) := by
  obtain ⟨h1, ⟨h2, h3, h4⟩, ⟨h5, h6⟩, ⟨h7, h8⟩, ⟨h9, h10⟩, h11⟩ := h
  refine ⟨?_, ⟨h2, h3, ?_⟩, ⟨h5, ?_⟩, ⟨h7, ?_⟩, ⟨h9, ?_⟩, h11⟩
  · rw [pF_ne (by omega)]; exact h1
  · rw [pF_ne (by omega)]; exact h4
  · rw [pF_ne (by omega)]; exact h6
  · rw [pF_ne (by omega)]; exact h8
  · rw [pF_ne (by omega)]; exact h10
def setT (x : AX) (n : Nat) (f : Nat → Int32) : AX := (x.1, x.2.1, x.2.2.1, (n, f), x.2.2.2.2)
def setH (x : AX) (A : As) (n : Nat) : AX := (A, (n, x.2.1.2), x.2.2)
def setP (x : AX) (A : As) : AX := (x.1, x.2.1, some A, x.2.2.2)
section TXT
variable {D : Nat} {x : AX} {S : Wo}
theorem q_app {wi : Bool} (p : Int32) (h : C7w wi x S) (hl : xT x < 60) : C7w wi (setT x (xT x + 1) (putc (xC x) (xT x) p)) (pI (pF S 172 (upd (S.2.1 172) (xT x) p)) 166 14 (nI (xT x + 1))) := by
  obtain ⟨h1, ⟨h2, h3, h4⟩, ⟨h5, h6⟩, ⟨h7, h8⟩, ⟨h9, h10⟩, h11, h12, h13, h14⟩ := h
  refine ⟨?_, ⟨?_, ?_, ?_⟩, ⟨?_, ?_⟩, ⟨?_, fun i hi => ?_⟩, ⟨?_, ?_⟩, ?_, ?_, ?_, ?_⟩
  · rw [pI_2, pF_ne (by decide)]; exact h1
  · rw [pI_k (by decide)]; exact h2
  · rw [pI_k (by decide)]; exact h3
  · rw [pI_2, pF_ne (by decide)]; exact h4
  · rw [pI_k (by decide)]; exact h5
  · rw [pI_2, pF_ne (by decide)]; exact h6
  · rw [pI_at]; rfl
  · have hi : i < xT x + 1 := hi
    rw [pI_2, pF_at]
    show upd (S.2.1 172) (xT x) p i = putc (xC x) (xT x) p i
    by_cases e : i = xT x
    · subst e; rw [u_at, putc_at]
    · rw [u_ne e, putc_ne e]; exact h8 i (by omega)
  · rw [pI_k (by decide)]; exact h9
  · rw [pI_2, pF_ne (by decide)]; exact h10
  · rw [pI_k (by decide)]; exact h11
  · rw [pI_k (by decide)]; exact h12
  · rw [pI_k (by decide)]; exact h13
  · rw [pI_k (by decide)]; exact h14
theorem q_app6 (p : Int32) (h : C6 x S) (hl : xT x < 60) : spX1_append p S = some (nI (xT x + 1), pI (pF S 161 (upd (S.2.1 161) (xT x) p)) 159 1 (nI (xT x + 1))) ∧ C6 (setT x (xT x + 1) (putc (xC x) (xT x) p)) (pI (pF S 161 (upd (S.2.1 161) (xT x) p)) 159 1 (nI (xT x + 1))) := by
  obtain ⟨h1, ⟨old, q1, h2, h3, h4⟩, ⟨h5, h6⟩, ⟨h7, h8⟩, h9, h10⟩ := h
  have rs : ∀ o B, o + 12 < 159 → RS S o B → RS (pI (pF S 161 (upd (S.2.1 161) (xT x) p)) 159 1 (nI (xT x + 1))) o B := fun o B ho h => h.cong (fun k => by rw [pI_ne (by omega), pF_1]) (fun j hj => by rw [pI_2, pF_ne (by omega)])
  constructor
  · unfold spX1_append
    rw [h7, q_set (by omega) (by decide), Option.bind_some, wr_eq, pF_1, h7, nI_1, pI_at]
  · refine ⟨rs 1 _ (by decide) h1, ⟨old, q1, ?_, ?_, fun a ha => rs _ _ (by unfold hsl; omega) (h4 a ha)⟩, ⟨?_, fun B hB => rs 40 B (by decide) (h6 B hB)⟩, ⟨?_, fun i hi => ?_⟩, ?_, ?_⟩
    · rw [pI_ne (by decide)]; exact h2
    · rw [pI_ne (by decide)]; exact h3
    · rw [pI_ne (by decide)]; exact h5
    · rw [pI_at]; rfl
    · have hi : i < xT x + 1 := hi
      rw [pI_2, pF_at]
      show upd (S.2.1 161) (xT x) p i = putc (xC x) (xT x) p i
      by_cases e : i = xT x
      · subst e; rw [u_at, putc_at]
      · rw [u_ne e, putc_ne e]; exact h8 i (by omega)
    · rw [pI_ne (by decide), pI_2, pF_ne (by decide)]; exact h9
    · rw [pI_ne (by decide)]; exact h10
theorem st_feed (p : Int32) (h : Inv D x S) : StI (spL_feed p) (spX7_feed p) S D := by
  have hT := h.1.2.2.2.1
  by_cases e : xT x < 60
  · obtain ⟨e1, c1⟩ := q_app6 p h.2.1 e
    have f1 : Fr6 S (pL (pI (pF S 161 (upd (S.2.1 161) (xT x) p)) 159 1 (nI (xT x + 1))) (nI (xT x + 1)).toInt64) := ((Fr6.rf.pF (by decide)).pI (by decide)).pL
    have h7 := h.2.2.fr f1
    generalize hS1 : pL (pI (pF S 161 (upd (S.2.1 161) (xT x) p)) 159 1 (nI (xT x + 1))) (nI (xT x + 1)).toInt64 = S1 at f1 h7
    have c1' : C6 (setT x (xT x + 1) (putc (xC x) (xT x) p)) S1 := by rw [← hS1]; exact c1
    have hf := h7.fl 0
    have e14 : (flS S1 0).1 166 14 = nI (xT x) := hf.2.2.2.1.1
    have wx' : WX D (setT x (xT x + 1) (putc (xC x) (xT x) p)) := ⟨h.1.1, h.1.2.1, h.1.2.2.1, by show xT x + 1 ≤ 60; omega, h.1.2.2.2.2⟩
    refine ⟨0, S1, nI (xT x + 1), pI (pF (flS S1 0) 172 (upd ((flS S1 0).2.1 172) (xT x) p)) 166 14 (nI (xT x + 1)), _, ?_, ?_, ?_, fun _ => ?_, wx', c1'.fr (((flS_fr S1 0).pF (by decide)).pI (by decide)), q_app p hf e⟩
    · unfold spL_feed spX6_feed
      rw [h.2.1.2.2.2.1.1, if_pos (show nI (xT x) < (60 : Int32) from show nI (xT x) < nI 60 from nI_lt e (by decide)), e1, bd2_s, bxc_0, wr_eq, hS1]
      rfl
    · unfold spX7_feed
      rw [jn_e]
      dsimp only
      rw [h7.2.2.2.1.1, if_neg (fun q => by have := (nI_eq (b := 60) (by omega) (by decide)).mp q; omega), q_fails0, bd2_s, if_pos rfl, e14, if_pos (q_in (by omega) (by decide)), q_ix (by omega), wr_eq, wr_eq, pF_1, e14, nI_1, pI_at]
    · rw [pI_k (by decide), pF_1, flS_9]; rfl
    · rw [← hS1]; rfl
  · have e60 : nI (xT x) = 60 := by rw [show xT x = 60 by omega]; rfl
    refine stQ h 1 0 0 ?_ (fun T hT => ?_) (fun q => absurd q (by decide))
    · unfold spL_feed spX6_feed
      rw [h.2.1.2.2.2.1.1, if_neg (show ¬ nI (xT x) < (60 : Int32) from show ¬ nI (xT x) < nI 60 from nI_nlt (by omega) (by omega))]
      rfl
    · unfold spX7_feed
      rw [jn_e]
      dsimp only
      rw [hT.2.2.2.2.2.1.1, if_pos e60, q_fails1, bd2_s, if_neg i1_0]
/-- a state of the class's history taken back -/
theorem C6.set1 {S T : Wo} {B : As} {n : Nat} (h : C6 x S) (hf : FrO 1 S T) (hB : RS T 1 B) (hn : n ≤ xK x) : C6 (setH x B n) (pI T 53 2 (nI n)) := by
  obtain ⟨h1, ⟨old, q1, h2, h3, h4⟩, ⟨h5, h6⟩, ⟨h7, h8⟩, h9, h10⟩ := h
  have rs : ∀ o B, 14 ≤ o → o ≠ 53 → RS S o B → RS (pI T 53 2 (nI n)) o B := fun o B ho h53 h => h.cong (fun k => by rw [pI_ne h53, hf.1 o (by omega)]) (fun j hj => by rw [pI_2]; exact hf.2.1 _ (by omega))
  refine ⟨hB.cong (fun k => by rw [pI_ne (by decide)]) (fun j hj => rfl), ⟨old, q1, ?_, ?_, fun a ha => ?_⟩, ⟨?_, fun B hB => rs 40 B (by decide) (by decide) (h6 B hB)⟩, ⟨?_, ?_⟩, ?_, ?_⟩
  · rw [pI_k (by decide), hf.1 53 (by decide)]; exact h2
  · rw [pI_at]; rfl
  · have ha : a < n := ha
    have := hsl_rg old a
    exact rs _ _ (by omega) (by omega) (h4 a (by omega))
  · rw [pI_ne (by decide), hf.1 0 (by decide)]; exact h5
  · rw [pI_ne (by decide), hf.1 159 (by decide)]; exact h7
  · rw [pI_2, hf.2.1 161 (by decide)]; exact h8
  · rw [pI_ne (by decide), pI_2, hf.1 164 (by decide), hf.2.1 165 (by decide), hf.2.2]; exact h9
  · rw [pI_ne (by decide), hf.1 0 (by decide)]; exact h10
theorem C7w.set1 {wi : Bool} {S : Wo} {B : As} {n : Nat} {g : Nat → Int32} (h : C7w wi x S) (hg : RG g B) (hn : n ≤ xK x) : C7w wi (setH x B n) (pF (pI S 166 6 (nI n)) 167 g) := by
  obtain ⟨h1, ⟨h2, h3, h4⟩, ⟨h5, h6⟩, ⟨h7, h8⟩, ⟨h9, h10⟩, h11, h12, h13, h14⟩ := h
  refine ⟨?_, ⟨?_, ?_, fun a ha => ?_⟩, ⟨?_, ?_⟩, ⟨?_, ?_⟩, ⟨?_, ?_⟩, ?_, ?_, ?_, ?_⟩
  · rw [pF_at]; exact hg
  · rw [pF_1, pI_k (by decide)]; exact h2
  · rw [pF_1, pI_at]; rfl
  · have ha : a < n := ha
    rw [pF_ne (by decide)]; exact h4 a (by omega)
  · rw [pF_1, pI_k (by decide)]; exact h5
  · rw [pF_ne (by decide)]; exact h6
  · rw [pF_1, pI_k (by decide)]; exact h7
  · rw [pF_ne (by decide)]; exact h8
  · rw [pF_1, pI_k (by decide)]; exact h9
  · rw [pF_ne (by decide)]; exact h10
  · rw [pF_1, pI_k (by decide)]; exact h11
  · rw [pF_1, pI_k (by decide)]; exact h12
  · rw [pF_1, pI_k (by decide)]; exact h13
  · rw [pF_1, pI_k (by decide)]; exact h14
theorem wx_set1 {B : As} {n : Nat} (wx : WX D x) (hB : WFA D B) (hn : n ≤ xK x) : WX D (setH x B n) := ⟨hB, ⟨Nat.le_trans hn wx.2.1.1, fun a ha => wx.2.1.2 a (Nat.lt_of_lt_of_le ha hn)⟩, wx.2.2⟩
theorem st_undo (h : Inv D x S) : StI spL_undo spX7_undo S D := by
  obtain ⟨old, q1, q2, q3, q4⟩ := h.2.1.2.1
  have hk := h.1.2.1.1
  by_cases e : xK x = 0
  · refine stQ h 1 0 0 ?_ (fun T hT => ?_) (fun q => absurd q (by decide))
    · unfold spL_undo spX6_undo
      rw [q3, e, if_neg (by decide)]
      rfl
    · unfold spX7_undo
      rw [jn_e]
      dsimp only
      rw [hT.2.2.2.1.2.1, e, if_pos (by decide), q_fails1, bd2_s, if_neg i1_0]
  · have hw := h.1.2.1.2 (xK x - 1) (by omega)
    have hr := q4 (xK x - 1) (by omega)
    obtain ⟨b1, b2⟩ := hsl_rg old (xK x - 1)
    obtain ⟨T, e1, r1, f1⟩ := q_cps (o := 1) hr hw.1 (Or.inr (by omega))
    have e6 : nI (xK x) - 1 = nI (xK x - 1) := q_sub (b := 1) (by omega)
    have c1 := h.2.1.set1 f1 r1 (n := xK x - 1) (by omega)
    have f2 : Fr6 S (pL (pI T 53 2 (nI (xK x - 1))) (nI (xK x - 1)).toInt64) := ((Fr6.fo f1 (by decide)).pI (by decide)).pL
    have h7 := h.2.2.fr f2
    generalize hS1 : pL (pI T 53 2 (nI (xK x - 1))) (nI (xK x - 1)).toInt64 = S1 at f2 h7
    have c1' : C6 (setH x (xH x (xK x - 1)) (xK x - 1)) S1 := by rw [← hS1]; exact c1
    have hf := h7.fl 0
    have eK : (flS S1 0).1 166 6 = nI (xK x) := hf.2.1.2.1
    have hg := hf.2.1.2.2 (xK x - 1) (by omega)
    refine ⟨0, S1, nI (xK x - 1), pF (pI (flS S1 0) 166 6 (nI (xK x - 1))) 167 (fb_put ((pI (flS S1 0) 166 6 (nI (xK x - 1))).2.1 167) (fun k => (pI (flS S1 0) 166 6 (nI (xK x - 1))).2.1 168 (112 * (xK x - 1) + k)) 0 112), _, ?_, ?_, ?_, fun _ => ?_, wx_set1 h.1 hw (by omega), c1'.fr (((flS_fr S1 0).pI (by decide)).pF (by decide)), hf.set1 ?_ (by omega)⟩
    · unfold spL_undo spX6_undo spX2_takeLatestInto
      rw [q3, if_pos (show (0 : Int32) < nI (xK x) from show nI 0 < nI (xK x) from nI_lt (by omega) (by omega)), e6, q_slot q1 q2 (by omega), bdq_s, oq_s, e1, Option.bind_some, wr_eq, pI_at, f1.1 53 (by decide), q3, e6, bd2_s, bxc_0, wr_eq, hS1]
      rfl
    · unfold spX7_undo
      rw [jn_e]
      dsimp only
      rw [h7.2.1.2.1, if_neg (nI_ne0 (by omega) (by omega)), q_fails0, bd2_s, if_pos rfl, wr_eq, eK, e6, pI_at]
      show (spX7_copies 168 896 (nI 112 * nI (xK x - 1)) 167 112 (nI 0) _).bind _ = _
      rw [q_mul, q_copies (by decide) (by omega) (by decide) (by decide) (by decide), Option.bind_some, pF_1, pI_at]
    · rw [pF_1, pI_k (by decide), flS_9]; rfl
    · rw [← hS1]; rfl
    · refine RG.cong hg (fun i hi => ?_) hw.1.1.1 hw.1.1.2.1
      rw [fb_put_in (by omega) (by omega)]
      rfl
theorem st_restoreSnapshot (h : Inv D x S) : StI spL_restoreSnapshot spX7_restoreSnapshot S D := by
  obtain ⟨p1, p2⟩ := h.2.1.2.2.1
  cases hp : xP x with
  | none =>
    refine stQ h 1 0 0 ?_ (fun T hT => ?_) (fun q => absurd q (by decide))
    · unfold spL_restoreSnapshot spX6_restoreSnapshot
      rw [p1, hp, if_pos (by decide)]
      rfl
    · unfold spX7_restoreSnapshot
      rw [jn_e]
      dsimp only
      rw [hT.2.2.2.2.1.1, hp, if_pos (by decide), q_fails1, bd2_s, if_neg i1_0]
  | some B =>
    have hw := h.1.2.2.1 B hp
    obtain ⟨T, e1, r1, f1⟩ := q_cps (o := 1) (p2 B hp) hw.1 (Or.inr (by decide))
    have c1 := h.2.1.set1 f1 r1 (n := 0) (Nat.zero_le _)
    have f2 : Fr6 S (pL (pI T 53 2 0) (nI (aN B)).toInt64) := ((Fr6.fo f1 (by decide)).pI (by decide)).pL
    have h7 := h.2.2.fr f2
    generalize hS1 : pL (pI T 53 2 0) (nI (aN B)).toInt64 = S1 at f2 h7
    have c1' : C6 (setH x B 0) S1 := by rw [← hS1]; exact c1
    have hf := h7.fl 0
    have hg := hf.2.2.1.2 B hp
    have hgg : RG (fb_put ((flS S1 0).2.1 167) (fun k => (flS S1 0).2.1 169 (0 + k)) 0 112) B := RG.cong hg (fun i hi => by rw [fb_put_in (by omega) (by omega), Nat.zero_add, Nat.sub_zero]) hw.1.1.1 hw.1.1.2.1
    refine ⟨0, S1, nI (aN B), pI (pF (flS S1 0) 167 (fb_put ((flS S1 0).2.1 167) (fun k => (flS S1 0).2.1 169 (0 + k)) 0 112)) 166 6 0, setH x B 0, ?_, ?_, ?_, fun _ => ?_, wx_set1 h.1 hw (Nat.zero_le _), c1'.fr (((flS_fr S1 0).pF (by decide)).pI (by decide)), ?_⟩
    · unfold spL_restoreSnapshot spX6_restoreSnapshot spX2_forgetAll
      rw [p1, hp, if_neg (show ¬ b2 (some B).isSome = 0 from i1_0), e1, Option.bind_some, wr_eq, Option.bind_some, pI_ne (by decide), r1.1.1, bxc_0, wr_eq, hS1]
      rfl
    · unfold spX7_restoreSnapshot
      rw [jn_e]
      dsimp only
      rw [h7.2.2.1.1, hp, if_neg (show ¬ b2 (some B).isSome = 0 from i1_0), q_fails0, bd2_s, if_pos rfl]
      show (spX7_copies 169 112 (nI 0) 167 112 (nI 0) _).bind _ = _
      rw [q_copies (by decide) (by decide) (by decide) (by decide) (by decide), Option.bind_some, wr_eq, if_pos in_0, ix_0, pI_2, pF_at, hgg.1.1]
    · rw [pI_k (by decide), pF_1, flS_9]; rfl
    · rw [← hS1]; rfl
    · exact hf.set1 hgg (n := 0) (Nat.zero_le _)
theorem sb_saveSnapshot (h : Inv D x S) : ∃ v S1 T x', spX6_saveSnapshot S = some (v, S1) ∧ spX7_saveSnapshot S1 = some (v, T) ∧ Inv D x' T := by
  have w := h.1.1
  obtain ⟨T, e1, r1, f1⟩ := q_cps (o := 40) h.2.1.1 w.1 (Or.inl (by decide))
  have f2 : Fr6 S (pI T 0 4 1) := (Fr6.fo f1 (by decide)).pI (by decide)
  have h7 := h.2.2.fr f2
  have r2 := h.2.1.1.fr f1 (Or.inl (by decide))
  have h9 := (h7.end_ (k := 9) (v := 0) (by decide))
  have hgg : RG (fb_put ((pI (pI (pI T 0 4 1) 166 9 0) 166 5 1).2.1 169) (fun k => (pI (pI (pI T 0 4 1) 166 9 0) 166 5 1).2.1 167 (0 + k)) 0 112) (xA x) := RG.cong h7.1 (fun i hi => by rw [fb_put_in (by omega) (by omega), Nat.zero_add, Nat.sub_zero]; rfl) w.1.1.1 w.1.1.2.1
  refine ⟨nI (aN (xA x)), pI T 0 4 1, pF (pI (pI (pI T 0 4 1) 166 9 0) 166 5 1) 169 (fb_put ((pI (pI (pI T 0 4 1) 166 9 0) 166 5 1).2.1 169) (fun k => (pI (pI (pI T 0 4 1) 166 9 0) 166 5 1).2.1 167 (0 + k)) 0 112), setP x (xA x), ?_, ?_, ⟨h.1.1, h.1.2.1, fun B hB => by cases hB; exact h.1.1, h.1.2.2.2⟩, ?_, ?_⟩
  · unfold spX6_saveSnapshot
    rw [e1, Option.bind_some, wr_eq, pI_ne (by decide), r2.1.1]
  · unfold spX7_saveSnapshot
    rw [wr_eq, wr_eq]
    show (spX7_copies 167 112 (nI 0) 169 112 (nI 0) _).bind _ = _
    rw [q_copies (by decide) (by decide) (by decide) (by decide) (by decide), Option.bind_some, if_pos in_0, ix_0, pF_ne (by decide)]
    have : (pI (pI (pI T 0 4 1) 166 9 0) 166 5 1).2.1 167 0 = nI (aN (xA x)) := h7.1.1.1
    rw [this]
  · obtain ⟨h1, ⟨old, q1, h2, h3, h4⟩, ⟨h5, h6⟩, ⟨h7, h8⟩, h9, h10⟩ := h.2.1
    have fr7 : Fr7 (pI T 0 4 1) (pF (pI (pI (pI T 0 4 1) 166 9 0) 166 5 1) 169 (fb_put ((pI (pI (pI T 0 4 1) 166 9 0) 166 5 1).2.1 169) (fun k => (pI (pI (pI T 0 4 1) 166 9 0) 166 5 1).2.1 167 (0 + k)) 0 112)) := ((Fr7.rf.pI (by decide)).pI (by decide)).pF (by decide)
    refine C6.fr ?_ fr7
    have hp : ∀ o B, o ≠ 0 → RS T o B → RS (pI T 0 4 1) o B := fun o B ho h => h.cong (fun k => by rw [pI_ne ho]) (fun j hj => rfl)
    refine ⟨hp 1 _ (by decide) r2, ⟨old, q1, ?_, ?_, fun a ha => ?_⟩, ⟨?_, fun B hB => ?_⟩, ⟨?_, ?_⟩, ?_, ?_⟩
    · rw [pI_ne (by decide), f1.1 53 (by decide)]; exact h2
    · rw [pI_ne (by decide), f1.1 53 (by decide)]; exact h3
    · have := hsl_rg old a
      exact hp _ _ (by omega) ((h4 a ha).fr f1 (by omega))
    · rw [pI_at]; rfl
    · have hB : some (xA x) = some B := hB
      cases hB
      exact hp 40 _ (by decide) r1
    · rw [pI_ne (by decide), f1.1 159 (by decide)]; exact h7
    · rw [pI_2, f1.2.1 161 (by decide)]; exact h8
    · rw [pI_ne (by decide), pI_2, f1.1 164 (by decide), f1.2.1 165 (by decide), f1.2.2]; exact h9
    · rw [pI_k (by decide), pI_k (by decide), pI_k (by decide), pI_k (by decide), f1.1 0 (by decide)]; exact h10
  · obtain ⟨h1, ⟨h2, h3, h4⟩, ⟨h5, h6⟩, ⟨h7, h8⟩, ⟨h9, h10⟩, h11, h12, h13, h14⟩ := h9
    refine ⟨?_, ⟨?_, ?_, ?_⟩, ⟨?_, fun B hB => ?_⟩, ⟨?_, ?_⟩, ⟨?_, ?_⟩, ?_, ?_, ?_, ?_⟩
    · rw [pF_ne (by decide)]; exact h1
    · rw [pF_1, pI_k (by decide)]; exact h2
    · rw [pF_1, pI_k (by decide)]; exact h3
    · rw [pF_ne (by decide)]; exact h4
    · rw [pF_1, pI_at]; rfl
    · have hB : some (xA x) = some B := hB
      cases hB
      rw [pF_at]; exact hgg
    · rw [pF_1, pI_k (by decide)]; exact h7
    · rw [pF_ne (by decide)]; exact h8
    · rw [pF_1, pI_k (by decide)]; exact h9
    · rw [pF_ne (by decide)]; exact h10
    · rw [pF_1, pI_k (by decide)]; exact h11
    · rw [pF_1, pI_k (by decide)]; exact h12
    · rw [pF_1, pI_k (by decide)]; exact h13
    · rw [pF_1, pI_k (by decide)]; exact h14
theorem st_predictEaten (p : Int32) (h : Inv D x S) (hD : D + 60 ≤ 1000000) : StI (spL_predictEaten p) (spX7_predictEaten p) S D := by
  have w := h.1.1
  have in060 : ∀ T, spX7_in p 0 60 T = some (b2 (rng p 0 60).isSome) := fun T => q_in7 p (lo := 0) (hi := 60) (by decide) (by decide) T
  cases hx : rng p 0 60 with
  | none =>
    refine stQ h 1 0 0 ?_ (fun T hT => ?_) (fun q => absurd q (by decide))
    · unfold spL_predictEaten spX6_predictEaten
      rw [rng0] at hx
      rcases neg_or p with hq | ⟨j, hj, rfl⟩
      · rw [if_pos hq]; rfl
      · rw [ixo_nI hj] at hx
        by_cases e : j < 60 + 1
        · rw [if_pos e] at hx; cases hx
        · rw [if_neg (nI_pos hj), if_neg (show ¬ nI j ≤ (60 : Int32) from show ¬ nI j ≤ nI 60 from nI_ge (by omega) hj)]; rfl
    · unfold spX7_predictEaten
      rw [in060, hx, Option.bind_some, jn_e]
      dsimp only
      rw [if_pos b2s_n, q_fails1, bd2_s, if_neg i1_0]
  | some k =>
    obtain ⟨-, hk, rfl⟩ := rng_some hx
    obtain ⟨T, e1, r1, f1⟩ := q_cps (o := 27) h.2.1.1 w.1 (Or.inl (by decide))
    obtain ⟨T2, e2, r2, f2⟩ := q_ldp (k := k) (by omega) r1 w (by omega)
    have f3 := f1.tr f2
    have c1 := h.2.1.fo14 f3 (Or.inr rfl)
    have f4 : Fr6 S (pL T2 (nI (dysN k (xA x))).toInt64) := (Fr6.fo f3 (by decide)).pL
    have h7 := h.2.2.fr f4
    generalize hS1 : pL T2 (nI (dysN k (xA x))).toInt64 = S1 at f4 h7
    have c1' : C6 x S1 := by rw [← hS1]; exact c1
    have hf := h7.fl 0
    generalize hU : pF (flS S1 0) 171 (fb_put ((flS S1 0).2.1 171) (fun k => (flS S1 0).2.1 167 (0 + k)) 0 112) = U
    have hU7 : C7 x U := by rw [← hU]; exact hf.f1 (by decide)
    obtain ⟨g, e3, g3⟩ := q_gop (k := k) (by omega) hU7.1 w (by omega)
    have hgg : RG (fb_put ((pF U 167 g).2.1 167) (fun k => (pF U 167 g).2.1 171 (0 + k)) 0 112) (xA x) := RG.cong hf.1 (fun i hi => by
      rw [fb_put_in (by omega) (by omega), pF_ne (by decide), ← hU, pF_at, fb_put_in (by omega) (by omega), Nat.zero_add, Nat.sub_zero]
      show (flS S1 0).2.1 167 (0 + (i - 0)) = _
      rw [Nat.zero_add, Nat.sub_zero]) w.1.1.1 w.1.1.2.1
    have c7 : C7 x (pF (pF U 167 g) 167 (fb_put ((pF U 167 g).2.1 167) (fun k => (pF U 167 g).2.1 171 (0 + k)) 0 112)) := by
      rw [pF_pF]
      exact hU7.g hgg
    refine ⟨0, S1, nI (dysN k (xA x)), _, x, ?_, ?_, ?_, fun _ => ?_, h.1, c1'.fr ?_, c7⟩
    · unfold spL_predictEaten spX6_predictEaten
      rw [if_neg (nI_pos (by omega)), if_pos (show nI k ≤ (60 : Int32) from show nI k ≤ nI 60 from nI_le hk (by decide)), e1, Option.bind_some, e2, bd2_s, bxc_0, wr_eq, hS1]
      rfl
    · unfold spX7_predictEaten
      rw [in060, hx, Option.bind_some, jn_e]
      dsimp only
      rw [if_neg (b2s_s k), q_fails0, bd2_s, if_pos rfl]
      show (spX7_copies 167 112 (nI 0) 171 112 (nI 0) _).bind _ = _
      rw [q_copies (by decide) (by decide) (by decide) (by decide) (by decide), Option.bind_some, hU, e3, bd2_s]
      show (spX7_copies 171 112 (nI 0) 167 112 (nI 0) _).bind _ = _
      rw [q_copies (by decide) (by decide) (by decide) (by decide) (by decide), Option.bind_some]
    · rw [pF_1, pF_1, ← hU, pF_1, flS_9]; rfl
    · rw [pF_pF, ← hU, ← hS1]; rfl
    · rw [pF_pF, ← hU]
      exact ((flS_fr S1 0).pF (by decide)).pF (by decide)
end TXT

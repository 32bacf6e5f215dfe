/-! ===== the reference runs a text; both together ===== -/
section RUN7
variable {x : AX} {n : Nat} {ch : Nat → Int32}
def O7 (x : AX) (N : Nat) (K : Int32 → Int32 → Wo → Option (Int32 × Wo)) (S : Wo) (sp : Option (Int32 × Wo)) (z : As × (Int32 × Int32 × Int32) × Option (Nat × Nat)) : Prop := match z.2.2 with
  | none => ∃ u T, sp = K (nI N) u T ∧ C7w true (setD (setA x z.1) z.2.1) T ∧ FrR S T ∧ T.1 166 9 = 0
  | some (j, o) => ∃ u T, sp = K (nI j) u T ∧ C7w true (setD (setA x z.1) z.2.1) T ∧ FrR S T ∧ (∃ e, 0 < e ∧ e ≤ 3 ∧ T.1 166 9 = nI e) ∧ T.1 166 8 = b2 (decide (o = 3))
theorem O7.tr {N : Nat} {K : Int32 → Int32 → Wo → Option (Int32 × Wo)} {S T : Wo} {sp : Option (Int32 × Wo)} {z : As × (Int32 × Int32 × Int32) × Option (Nat × Nat)} (h : O7 x N K T sp z) (hf : FrR S T) : O7 x N K S sp z := by
  obtain ⟨A, d, o⟩ := z
  cases o with
  | none =>
    obtain ⟨u, U, a, b, c, e⟩ := h
    exact ⟨u, U, a, b, hf.tr c, e⟩
  | some o =>
    obtain ⟨j, o⟩ := o
    obtain ⟨u, U, a, b, c, e⟩ := h
    exact ⟨u, U, a, b, hf.tr c, e⟩
theorem Ent.fr {S T : Wo} {i : Nat} {c : Nat × List Nat} (h : Ent S i c) (hf : FrR S T) : Ent T i c := by
  unfold Ent
  rw [hf.2.1 174 (by decide) (by decide)]
  exact h
theorem wx_A {D D' : Nat} {A : As} {d : Int32 × Int32 × Int32} (wx : WX D x) (w : WFA D' A) (h1 : D ≤ D') (h2 : D' ≤ 1000000) : WX D' (setD (setA x A) d) := by
  have := wx.up h1 h2
  exact ⟨w, this.2⟩
theorem q_x7 {N : Nat} {w1 : Int32} {K : Int32 → Int32 → Wo → Option (Int32 × Wo)} (hN : N ≤ 30) : ∀ (r : List (Nat × List Nat)) i v A d D g (S : Wo), WX D (setD (setA x A) d) → C7w true (setD (setA x A) d) S → S.1 166 20 = nI N → S.1 166 9 = 0 → (∀ j c, r[j]? = some c → Ent S (i + j) c ∧ c.1 < 9) → D + 60 * r.length ≤ 1000000 → r.length + 1 < g → i + r.length = N → O7 x N K S (lpX7_execute_62 w1 K g (nI i) v S) (run A d r i) := by
  intro r
  induction r with
  | nil =>
    intro i v A d D g S wx h7 h20 h9 _ hD hg hi
    obtain ⟨g, rfl⟩ : ∃ g', g = g' + 1 := ⟨g - 1, by omega⟩
    have hi : i = N := hi
    subst hi
    rw [lpX7_execute_62, h20, if_pos (nI_le (Nat.le_refl _) (by omega))]
    exact ⟨v, S, rfl, h7, FrR.rf, h9⟩
  | cons c r ih =>
    intro i v A d D g S wx h7 h20 h9 he hD hg hi
    obtain ⟨g, rfl⟩ : ∃ g', g = g' + 1 := ⟨g - 1, by omega⟩
    rw [List.length_cons] at hD hg hi
    obtain ⟨en, hk⟩ := he 0 c rfl
    have e4 : (4 : Int32) * nI i = nI (4 * i) := q_mul (a := 4) (b := i)
    obtain ⟨b, T, t1, t2, t3, t4, t5⟩ := k7_R (c := c) h7 wx (by omega) hk (by omega) en
    have t1 : spX7_carries (nI (4 * i)) S = some (b, T) := t1
    have hcq := cq_R (d := d) (c := c) wx.1 (by omega)
    have hcq : Cq (D + 60) A d (coR A d c) := hcq
    have t3 : C7w true (apx true (setD (setA x A) d) (coR A d c)) T := t3
    have t4 : (coR A d c).1 = 0 → T.1 166 9 = 0 := t4
    have t5 : (coR A d c).1 ≠ 0 → (∃ j, 0 < j ∧ j ≤ 3 ∧ T.1 166 9 = nI j) ∧ T.1 166 8 = b2 (decide ((coR A d c).1 = 3)) := t5
    rw [lpX7_execute_62, h20, if_neg (nI_ge (by omega) (by omega)), h9, if_pos rfl, e4, t1, bd2_s, run]
    unfold apx at t3
    by_cases e0 : (coR A d c).1 = 0
    · obtain ⟨c1, c2, c3⟩ := hcq.1 e0
      rw [if_pos e0] at t3
      rw [if_pos e0, if_pos (t4 e0), nI_1]
      have t3 : C7w true (setD (setA x (coR A d c).2.2.1) d) T := t3
      refine (ih (i + 1) b (coR A d c).2.2.1 d (D + 60) g T (wx_A (x := setD (setA x A) d) wx c3 (by omega) (by omega)) t3 (by rw [t2.1 20 (by decide) (by decide) (by decide) (by decide) (by decide) (by decide)]; exact h20) (t4 e0) (fun j c hj => ?_) (by omega) (by omega) (by omega)).tr t2
      obtain ⟨a1, a2⟩ := he (j + 1) c hj
      rw [show i + 1 + j = i + (j + 1) by omega]
      exact ⟨a1.fr t2, a2⟩
    · obtain ⟨⟨j, j1, j2, j3⟩, t6⟩ := t5 e0
      rw [if_neg e0] at t3
      have hne : ¬ nI j = 0 := fun z => by
        have := (nI_eq (a := j) (b := 0) (by omega) (by decide)).mp z
        omega
      rw [if_neg e0, j3, if_neg hne]
      obtain ⟨g, rfl⟩ : ∃ g', g = g' + 1 := ⟨g - 1, by omega⟩
      have h20T : T.1 166 20 = nI N := by rw [t2.1 20 (by decide) (by decide) (by decide) (by decide) (by decide) (by decide)]; exact h20
      rw [lpX7_execute_62, h20T, if_neg (nI_ge (by omega) (by omega)), j3, if_neg hne]
      exact ⟨b, T, rfl, t3, t2, ⟨j, j1, j2, j3⟩, t6⟩
theorem txt_in : ∀ f q, q ≤ n → (txt n ch f q).2.1 ≤ n := by
  intro f
  induction f with
  | zero => intro q h; exact h
  | succ f ih =>
    intro q h
    obtain ⟨b1, b2'⟩ := cmd_in (n := n) (ch := ch) h trivial
    rw [txt]
    by_cases c1 : (cmd n ch q).1 = true
    · rw [if_pos c1]
      by_cases c2 : sg n ch (cmd n ch q).2.1 = 59
      · rw [if_pos c2]
        exact ih _ (sg_lt c2 (by decide))
      · rw [if_neg c2]
        by_cases c3 : (cmd n ch q).2.1 = n
        · rw [if_pos c3]; exact b1
        · rw [if_neg c3]; exact b1
    · rw [if_neg c1]; exact b1
theorem PL_k : ∀ (r : List (Nat × List Nat)) q, PL n ch q r → ∀ (j : Nat) (c : Nat × List Nat), r[j]? = some c → c.1 < 9 := by
  intro r
  induction r with
  | nil => intro q h; exact absurd h (fun z => z)
  | cons c r ih =>
    intro q h j c' hj
    cases r with
    | nil =>
      cases j with
      | zero =>
        cases hj
        have := (cmd_len h.1).1
        rw [h.2.2] at this
        exact this
      | succ j => cases hj
    | cons d r =>
      cases j with
      | zero =>
        cases hj
        have := (cmd_len h.1).1
        rw [h.2.1] at this
        exact this
      | succ j => exact ih _ h.2.2.2 j c' hj
theorem st_execute {D : Nat} {S : Wo} (h : Inv D x S) (hD : D + 900 ≤ 1000000) : StI spL_execute spX7_execute S (D + 900) := by
  obtain ⟨wx, h6, h7⟩ := h
  have hx60 := wx.2.2.2.1
  generalize hn : xT x = n at hx60
  generalize hch : xC x = ch
  have T1 : TX (pI S 159 2 0) n ch 0 := ⟨hx60, by rw [pI_k (by decide), ← hn]; exact h6.2.2.2.1.1, fun i hi => by rw [← hch]; exact h6.2.2.2.1.2 i (by rw [hn]; exact hi), pI_at _ _ _ _⟩
  obtain ⟨w, S2, e1, t1, f1, g1, g2⟩ := q_cntC (n := n) (ch := ch) trivial 16 0 0 1 200 (pI S 159 2 0) T1 (Or.inl ⟨rfl, rfl⟩) (Nat.zero_le _) (by decide) (by decide) (by decide)
  have e1 : spX1_countCommands S = some (w, S2) := e1
  have f1 : FrT S S2 := FrT.rf.pI.tr f1
  have hin := txt_in (n := n) (ch := ch) 16 0 (Nat.zero_le _)
  have c2 := h6.frT f1
  have hRX : ∀ U : Wo, (∀ a, 166 ≤ a → U.1 a = S.1 a) → (∀ a, 166 ≤ a → U.2.1 a = S.2.1 a) → RX (pI (pI U 166 18 0) 166 20 0) n ch 0 := by
    intro U u1 u2
    refine ⟨hx60, ?_, fun i hi => ?_, ?_⟩
    · rw [pI_k (by decide), pI_k (by decide), u1 166 (by decide), ← hn]; exact h7.2.2.2.1.1
    · rw [pI_2, pI_2, u2 172 (by decide), ← hch]; exact h7.2.2.2.1.2 i (by rw [hn]; exact hi)
    · rw [pI_k (by decide), pI_at]; rfl
  have ist : ∀ U : Wo, Fr6 S U → ∃ T, spX7_isText U = some (b2 (txt n ch 16 0).1, T) ∧ C7 x T ∧ Fr7 U T ∧ T.1 166 18 = nI (txt n ch 16 0).2.1 ∧ ((txt n ch 16 0).1 = true → T.1 166 20 = nI (txt n ch 16 0).2.2.length ∧ ∀ j c, (txt n ch 16 0).2.2[j]? = some c → Ent T j c) := by
    intro U hU
    obtain ⟨T, a1, a2, a3, a4, a5⟩ := q_ist (n := n) (ch := ch) trivial 16 0 0 200 _ (hRX U hU.1 hU.2) (Nat.zero_le _) (by rw [pI_at]; rfl) (Nat.le_refl _) (by decide) (by decide)
    refine ⟨T, ?_, ?_, ?_, a2.2.2.2, fun z => ?_⟩
    · unfold spX7_isText
      rw [wr_eq, wr_eq]
      exact a1
    · exact (((h7.fr hU).end_ (Or.inr (Or.inr (Or.inl rfl)))).end_ (Or.inr (Or.inr (Or.inr rfl)))).fu a3
    · exact ((FrU.rf.pI (Or.inl rfl)).pI (Or.inr rfl) |>.tr a3).f7
    · obtain ⟨b1, b2'⟩ := a5 z
      rw [Nat.zero_add] at b1
      refine ⟨b1, fun j c hj => ?_⟩
      have := b2' j c hj
      rw [Nat.zero_add] at this
      exact this
  cases ht : (txt n ch 16 0).1 with
  | false =>
    have hw := g2 ht
    subst hw
    have hL : spL_execute S = some (0, nI 1, pI (pI S2 0 8 (nI (txt n ch 16 0).2.1)) 159 1 0) := by
      unfold spL_execute spX6_execute
      rw [e1, bd2_s, if_pos rfl, wr_eq, t1.2.2.2]
      rfl
    have c3 := (c2.flt (nI (txt n ch 16 0).2.1)).clr
    have fr : Fr6 S (pI (pI S2 0 8 (nI (txt n ch 16 0).2.1)) 159 1 0) := (f1.f6.pI (by decide)).pI (by decide)
    obtain ⟨T, a1, a2, a3, a4, -⟩ := ist _ fr
    have a6 := ((a2.flt (nI (txt n ch 16 0).2.1)).clr).fl (nI 1)
    have hR : spX7_execute (pI (pI S2 0 8 (nI (txt n ch 16 0).2.1)) 159 1 0) = some (0, flS (pI (pI T 166 15 (nI (txt n ch 16 0).2.1)) 166 14 0) (nI 1)) := by
      unfold spX7_execute
      rw [a1, ht, bd2_s, jn_e]
      dsimp only
      rw [if_pos (show b2 false = 0 from rfl), wr_eq, a4, wr_eq, jn_e]
      dsimp only
      rw [if_pos (show b2 false = 0 from rfl), q_fails1, bd2_s, if_neg i1_0]
    have f7 : Fr7 (pI (pI S2 0 8 (nI (txt n ch 16 0).2.1)) 159 1 0) (flS (pI (pI T 166 15 (nI (txt n ch 16 0).2.1)) 166 14 0) (nI 1)) := ((a3.pI (by decide)).pI (by decide)).tr (flS_fr _ _)
    refine ⟨1, _, 0, _, setT (setF x (nI (txt n ch 16 0).2.1)) 0 (xC (setF x (nI (txt n ch 16 0).2.1))), hL, hR, flS_9 _ _, fun q => absurd q (by decide), ?_, c3.fr f7, a6⟩
    have wu := wx.up (show D ≤ D + 900 by omega) hD
    exact ⟨wu.1, wu.2.1, wu.2.2.1, Nat.zero_le _, wu.2.2.2.2.1, Or.inr ⟨_, by omega, rfl⟩⟩
  | true =>
    obtain ⟨q1, q2, q3⟩ := txt_ok 16 0 ht
    have hw := g1 ht
    generalize hr : (txt n ch 16 0).2.2 = r at *
    have hlen : r.length ≤ 15 := by omega
    have hr1 : 1 ≤ r.length := by
      cases r with
      | nil => exact absurd q1 (fun z => z)
      | cons c r => simp
    have hw : w = nI r.length := by
      have e : w = nI (1 + r.length) - 1 := by rw [← hw]; simp
      rw [e]
      show nI (1 + r.length) - nI 1 = _
      rw [q_sub (by omega)]
      congr 1
      omega
    subst hw
    obtain ⟨S5, b1, b2', b3⟩ := q_cps (o := 14) c2.1 wx.1.1 (Or.inl (by decide))
    have c5 := c2.fo14 b3 (Or.inl rfl)
    have T6 : TX (pI S5 159 2 0) n ch 0 := ⟨hx60, by rw [pI_k (by decide), b3.1 159 (by decide)]; exact t1.2.1, by rw [pI_2, b3.2.1 161 (by decide)]; exact t1.2.2.1, pI_at _ _ _ _⟩
    have c6 : C6 x (pI S5 159 2 0) := c5.frT FrT.rf.pI
    have r14 : RS (pI S5 159 2 0) 14 (xA x) := b2'.frT FrT.rf.pI (by decide)
    have h6r := q_x6 (x := x) (n := n) (ch := ch) (N := r.length) (B := xA x) (by omega) wx.1.1 wx.2.1.1 r 0 0 0 (xA x) (xD x) D 200 (pI S5 159 2 0) (Or.inr ⟨Or.inl ⟨rfl, rfl⟩, q1⟩) T6 (Nat.zero_le _) c6 r14 wx.1 (by omega) (by omega) (by omega)
    have fr5 : Fr6 S (pI S5 159 2 0) := (f1.f6.tr (Fr6.fo b3 (by decide))).pI (by decide)
    have h6r := h6r.tr fr5
    have e6 : spX6_execute S = lpX6_execute_54 (nI r.length) 200 (nI 0) (pI S5 159 2 0) := by
      unfold spX6_execute spX6_beginChange
      rw [e1, bd2_s, if_neg (q_m1 (by omega)), b1, Option.bind_some, Option.bind_some]
      rfl
    rw [← e6] at h6r
    have hks := PL_k r 0 q1
    -- the reference, from any world that the class leaves
    have ref : ∀ U : Wo, Fr6 S U → ∃ T V, spX7_execute U = lpX7_execute_62 1 (fun (u17 : Int32) (u18 : Int32) (S19 : Wo) => wr (pI S19 166 7 0) (fun S20 => (if S20.1 166 9 ≤ 0 then (spX7_keeps 170 112 S20).bind (fun S21 => some (S21.1 166 20, S21)) else (spX7_copies 170 112 0 167 112 0 S20).bind (fun S22 => bd2 (spX7_deniesText u17 S22) (fun x23 S24 => (if u18 ≤ 0 then some ((x23 + u18), S24) else some ((x23 + 0), S24))))))) 200 (nI 0) 0 V ∧ V = pI T 166 7 1 ∧ C7w true (setT x 0 ch) V ∧ Fr7 U V ∧ RG (V.2.1 170) (xA x) ∧ V.1 166 20 = nI r.length ∧ V.1 166 9 = 0 ∧ ∀ j c, r[j]? = some c → Ent V j c := by
      intro U hU
      obtain ⟨T, a1, a2, a3, a4, a5⟩ := ist U hU
      obtain ⟨a7, a8⟩ := a5 ht
      have a9 := (a2.clr).fl 0
      rw [hch] at a9
      have ec := q_copies (a1 := 167) (N1 := 112) (a3 := 170) (N3 := 112) (P2 := 0) (P4 := 0) (by decide) (by decide) (by decide) (by decide) (by decide) (flS (pI T 166 14 0) 0)
      have ec : spX7_copies 167 112 0 170 112 0 (flS (pI T 166 14 0) 0) = _ := ec
      refine ⟨pF (flS (pI T 166 14 0) 0) 170 (fb_put ((flS (pI T 166 14 0) 0).2.1 170) (fun k => (flS (pI T 166 14 0) 0).2.1 167 (0 + k)) 0 112), _, ?_, rfl, ?_, ?_, ?_, ?_, ?_, ?_⟩
      · unfold spX7_execute
        rw [a1, ht, bd2_s, jn_e]
        dsimp only
        rw [if_neg (show ¬ b2 true = 0 from i1_0), wr_eq, jn_e]
        dsimp only
        rw [if_neg (show ¬ b2 true = 0 from i1_0), q_fails0, bd2_s, if_pos rfl, ec, Option.bind_some, wr_eq]
        rfl
      · exact (a9.f1 (Or.inl rfl)).wi (wi' := true)
      · exact (((a3.pI (by decide)).tr (flS_fr _ _)).pF (by decide)).pI (by decide)
      · rw [pI_2, pF_at]
        refine a9.1.cong (fun i hi => ?_) wx.1.1.1.1 wx.1.1.1.2.1
        rw [fb_put_in (by omega) (by omega), Nat.zero_add]
        rfl
      · rw [pI_k (by decide), pF_1]
        unfold flS
        rw [pI_k (by decide), pI_k (by decide), pI_k (by decide)]
        exact a7
      · rw [pI_k (by decide), pF_1]
        exact flS_9 _ _
      · intro j c hj
        have := a8 j c hj
        unfold Ent at this ⊢
        rw [pI_2, pF_ne (by decide)]
        exact this
    have wy : WX D (setT x 0 ch) := ⟨wx.1, wx.2.1, wx.2.2.1, Nat.zero_le _, wx.2.2.2.2⟩
    have wr' := run_wf r 0 (xA x) (xD x) D wx.1 (by omega)
    have h7q : ∀ U V : Wo, Fr7 U V → ∀ K : Int32 → Int32 → Wo → Option (Int32 × Wo), C7w true (setT x 0 ch) V → V.1 166 20 = nI r.length → V.1 166 9 = 0 → (∀ j c, r[j]? = some c → Ent V j c) → O7 (setT x 0 ch) r.length K V (lpX7_execute_62 1 K 200 (nI 0) 0 V) (run (xA x) (xD x) r 0) := by
      intro U V _ K k1 k2 k3 k4
      refine q_x7 (x := setT x 0 ch) (by omega) r 0 0 (xA x) (xD x) D 200 V wy k1 k2 k3 (fun j c hj => ⟨?_, hks j c hj⟩) (by omega) (by omega) (by omega)
      rw [Nat.zero_add]
      exact k4 j c hj
    generalize run (xA x) (xD x) r 0 = z at h6r h7q wr'
    obtain ⟨A', d', o⟩ := z
    have wA : WFA (D + 900) A' := wf_up wr' (by omega) hD
    have wB : WFA (D + 900) (xA x) := wf_up wx.1 (by omega) hD
    cases o with
    | none =>
      obtain ⟨T, e7, c7, f7⟩ := h6r
      have hL : spL_execute S = some (0, nI 0, pL T (nI r.length).toInt64) := by
        unfold spL_execute
        rw [e7, bxc_0]
        rfl
      have fU : Fr6 S (pL T (nI r.length).toInt64) := f7.pL
      obtain ⟨W, V, r1, -, r3, r4, r5, r6, r7, r8⟩ := ref _ fU
      obtain ⟨u, T7, s1, s2, s3, s4⟩ := h7q _ V r4 _ r3 r6 r7 r8
      rw [s1] at r1
      have s2 : C7w true (setD (setA (setT x 0 ch) A') d') T7 := s2
      have s5 : C7w false (setD (setA (setT x 0 ch) A') d') (pI T7 166 7 0) := s2.wi (wi' := false)
      have s6 : RG ((pI T7 166 7 0).2.1 170) (xA x) := by
        rw [pI_2, s3.2.1 170 (by decide) (by decide)]; exact r5
      have wz : WX (D + 900) (setD (setA (setT x 0 ch) A') d') := wx_A wy wA (by omega) hD
      obtain ⟨T8, k1, k2, k3, k4, -⟩ := q_keeps s5 wz s6 wB.1 (by decide)
      have hans : T8.1 166 20 = nI r.length := by
        rw [k4.1 20 (by decide) (by decide) (by decide) (by decide) (by decide) (by decide), pI_k (by decide), s3.1 20 (by decide) (by decide) (by decide) (by decide) (by decide) (by decide)]
        exact r6
      have hR : spX7_execute (pL T (nI r.length).toInt64) = some (nI r.length, T8) := by
        rw [r1, wr_eq, if_pos (show (pI T7 166 7 0).1 166 9 ≤ 0 from by rw [pI_k (by decide), s4]; decide), k1, Option.bind_some, hans]
      have fA : Fr7 (pL T (nI r.length).toInt64) T8 := r4.tr (s3.f7.tr ((Fr7.rf.pI (by decide)).tr k4.f7))
      have hC6 : C6 (pushX (setD (setA (setT x 0 ch) A') d') (xA x)) (pL T (nI r.length).toInt64) := by
        have c7 : C6 (pushX (setT (setD (setA x A') d') 0 (xC x)) (xA x)) T := c7
        rw [hch] at c7
        exact c7
      refine ⟨0, _, nI r.length, T8, _, hL, hR, k2, fun _ => ?_, ?_, hC6.fr fA, k3⟩
      · rw [fA.2.2.2]; rfl
      · have := pushX_wx (wx_A (d := d') wy wB (by omega) hD)
        exact ⟨wA, this.2⟩
    | some jo =>
      obtain ⟨j, o⟩ := jo
      obtain ⟨T, e7, c7, f7⟩ := h6r
      have hL : spL_execute S = some (0, nI 2, T) := by
        unfold spL_execute
        rw [e7]
        rfl
      obtain ⟨W, V, r1, -, r3, r4, r5, r6, r7, r8⟩ := ref _ f7
      obtain ⟨u, T7, s1, s2, s3, ⟨ee, s4, s5, s6⟩, s7⟩ := h7q _ V r4 _ r3 r6 r7 r8
      rw [s1] at r1
      have s2 : C7w true (setD (setA (setT x 0 ch) A') d') T7 := s2
      have s8 : C7w false (setD (setA (setT x 0 ch) A') d') (pI T7 166 7 0) := s2.wi (wi' := false)
      have s9 : RG ((pI T7 166 7 0).2.1 170) (xA x) := by
        rw [pI_2, s3.2.1 170 (by decide) (by decide)]; exact r5
      have ec := q_copies (a1 := 170) (N1 := 112) (a3 := 167) (N3 := 112) (P2 := 0) (P4 := 0) (by decide) (by decide) (by decide) (by decide) (by decide) (pI T7 166 7 0)
      have ec : spX7_copies 170 112 0 167 112 0 (pI T7 166 7 0) = _ := ec
      have hg : RG (fb_put ((pI T7 166 7 0).2.1 167) (fun k => (pI T7 166 7 0).2.1 170 (0 + k)) 0 112) (xA x) := by
        refine s9.cong (fun i hi => ?_) wx.1.1.1.1 wx.1.1.1.2.1
        rw [fb_put_in (by omega) (by omega), Nat.zero_add]
        rfl
      have s10 := s8.g hg
      generalize hS22 : pF (pI T7 166 7 0) 167 (fb_put ((pI T7 166 7 0).2.1 167) (fun k => (pI T7 166 7 0).2.1 170 (0 + k)) 0 112) = S22 at ec s10
      have s7 : T7.1 166 8 = b2 (decide (o = 3)) := s7
      have h8 : S22.1 166 8 = b2 (decide (o = 3)) := by rw [← hS22, pF_1, pI_k (by decide)]; exact s7
      have h10 : S22.1 166 10 = d'.1 := s10.2.2.2.2.2.2.1
      have f22 : Fr7 T7 S22 := by rw [← hS22]; exact (Fr7.rf.pI (by decide)).pF (by decide)
      have ed : spX7_deniesText (nI j) S22 = some (0, pI (dn7 S22 2 6 (nI j)) 166 12 (if o = 3 then d'.1 else 7)) := by
        unfold spX7_deniesText
        rw [jn_e]
        dsimp only
        rw [h8]
        by_cases eo : o = 3
        · rw [if_pos eo, decide_eq_true eo, if_neg (show ¬ b2 true = 0 from i1_0), q_denies, bd2_s, wr_eq, h10]
        · rw [if_neg eo, decide_eq_false eo, if_pos (show b2 false = 0 from rfl), q_denies, bd2_s, wr_eq]
      have s11 := (s10.dn 2 6 (nI j)).d12 (if o = 3 then d'.1 else 7)
      have hR : ∃ b, spX7_execute T = some (b, pI (dn7 S22 2 6 (nI j)) 166 12 (if o = 3 then d'.1 else 7)) := by
        have hne : ¬ (pI T7 166 7 0).1 166 9 ≤ 0 := by
          rw [pI_k (by decide), s6]
          exact nI_nle s4 (by omega)
        rw [r1, wr_eq, if_neg hne, ec, Option.bind_some, ed, bd2_s]
        by_cases eu : u ≤ 0
        · rw [if_pos eu]; exact ⟨_, rfl⟩
        · rw [if_neg eu]; exact ⟨_, rfl⟩
      obtain ⟨b, hR⟩ := hR
      have fA : Fr7 T (pI (dn7 S22 2 6 (nI j)) 166 12 (if o = 3 then d'.1 else 7)) := r4.tr (s3.f7.tr (f22.tr ((dn7_fr _ _ _ _).f7.tr (Fr7.rf.pI (by decide)))))
      have hC6 : C6 (setD (setA (setT x 0 ch) (xA x)) (6, nI j, if o = 3 then d'.1 else 7)) T := by
        have c7 : C6 (setD (setA (setT x 0 (xC x)) (xA x)) (6, nI j, if o = 3 then d'.1 else 7)) T := c7
        rw [hch] at c7
        exact c7
      refine ⟨2, T, b, _, setD (setA (setT x 0 ch) (xA x)) (6, nI j, if o = 3 then d'.1 else 7), hL, hR, ?_, fun q => absurd q (by decide), ?_, hC6.fr fA, s11⟩
      · rw [pI_k (by decide)]; exact dn7_9 _ _ _ _
      · exact wx_A wy wB (by omega) hD
end RUN7

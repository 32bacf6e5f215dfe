/-! ===== a command read by the class ===== -/
section RC6
variable {S : Wo} {n q : Nat} {ch : Nat → Int32}
theorem cg_len {k : Nat} (hk : k < 9) (h : (cg n ch k q).1 = true) : (cg n ch k q).2.2.1 = k ∧ (cg n ch k q).2.2.2.length = (Fg k).length ∧ q + 3 ≤ (cg n ch k q).2.1 := by
  unfold cg at h ⊢
  by_cases e : prI n ch (stm k) q = (stm k).length
  · rw [if_pos e] at h ⊢
    have := pgs_le (n := n) (ch := ch) (Fg k) (q + (stm k).length)
    have := (w_sh k hk).2.2.1
    refine ⟨rfl, pgs_len _ _ h, ?_⟩
    show q + 3 ≤ (pgs n ch (Fg k) (q + (stm k).length)).2.1
    omega
  · rw [if_neg e] at h
    exact absurd h Bool.false_ne_true
theorem cg_in {k : Nat} (hk : k < 9) (hq : q ≤ n) (hch : True) : (cg n ch k q).2.1 ≤ n ∧ q ≤ (cg n ch k q).2.1 := by
  obtain ⟨-, -, w1, w2, w3, w4, w5⟩ := w_sh k hk
  have h0 := prI_in (n := n) (ch := ch) hch (stm k) q w5 hq
  unfold cg
  by_cases e : prI n ch (stm k) q = (stm k).length
  · rw [if_pos e]
    have := pgs_le (n := n) (ch := ch) (Fg k) (q + (stm k).length)
    refine ⟨pgs_in (Fg k) _ w4 (by omega), ?_⟩
    show q ≤ (pgs n ch (Fg k) (q + (stm k).length)).2.1
    omega
  · rw [if_neg e]
    exact ⟨h0, Nat.le_add_right _ _⟩
theorem cmd_len (h : (cmd n ch q).1 = true) : (cmd n ch q).2.2.1 < 9 ∧ (cmd n ch q).2.2.2.length = (Fg (cmd n ch q).2.2.1).length ∧ q + 3 ≤ (cmd n ch q).2.1 := by
  rcases cmd_rw (n := n) (ch := ch) q with ⟨k, hk, e, -⟩ | ⟨e, -⟩
  · rw [e] at h ⊢
    obtain ⟨a, b, c⟩ := cg_len hk h
    rw [a]
    exact ⟨hk, b, c⟩
  · rw [e] at h
    exact absurd h Bool.false_ne_true
theorem cmd_in (hq : q ≤ n) (hch : True) : (cmd n ch q).2.1 ≤ n ∧ q ≤ (cmd n ch q).2.1 := by
  rcases cmd_rw (n := n) (ch := ch) q with ⟨k, hk, e, -⟩ | ⟨e, e1, e2, e3, -⟩
  · rw [e]
    exact cg_in hk hq hch
  · refine ⟨?_, e1⟩
    by_cases z : (cmd n ch q).2.1 = q + 1
    · have := e3 z
      have hq2 : q < n := by
        by_cases z : q < n
        · exact z
        · exfalso
          unfold sg at this
          rw [if_neg z] at this
          exact absurd this (by decide)
      omega
    · omega
/-- what the class holds behind a command -/
def Cv (r : Bool × Nat × Nat × List Nat) (T : Wo) : Prop := r.1 = true → T.2.2.1.1 = r.2.2.1 ∧ ∀ i, i < (Fg r.2.2.1).length → T.2.1 163 i = nI (r.2.2.2.getD i 0)
theorem q_wp (h : TX S n ch q) (hq : q ≤ n) (hch : True) : ∃ T, bd2 (spX1_readWord S) (fun x7 S8 => (if x7 = 0 then rz 0 (fun y => some (y, S8)) else bd2 (spX1_readParameters S8) (fun x9 S10 => (if x9 = 0 then rz 0 (fun y => some (y, S10)) else rz 1 (fun y => some (y, S10)))))) = some (b2 (cmd n ch q).1, T) ∧ TX T n ch (cmd n ch q).2.1 ∧ FrT S T ∧ Cv (cmd n ch q) T := by
  have hn := h.1
  rw [q_rw h (by omega), bd2_s]
  rcases cmd_rw (n := n) (ch := ch) q with ⟨k, hk, e, er⟩ | ⟨e, e1, -, -, er⟩
  · obtain ⟨s1, s2, s3, s4, s5, s6, s7⟩ := w_sh k hk
    unfold Rw at er
    rw [e, er]
    unfold cg
    rw [s1, prI_app]
    have hle := prI_le n ch (stm k) q
    have h32 : prI n ch [32] (q + (stm k).length) = if sg n ch (q + (stm k).length) = 32 then 1 else 0 := rfl
    rw [List.length_append, List.length_singleton, h32]
    by_cases c1 : prI n ch (stm k) q = (stm k).length
    · rw [if_pos c1, if_pos c1]
      have hin := prI_in (n := n) (ch := ch) hch (stm k) q s7 hq
      rw [c1] at hin
      have hpm := prm_flF (n := n) (ch := ch) (Fg k) (q + (stm k).length) 0 (S.2.1 163) s6
      rw [← s2, prm, if_neg (by decide)] at hpm
      by_cases c2 : sg n ch (q + (stm k).length) = 32
      · rw [if_pos c2] at hpm ⊢
        rw [if_pos rfl]
        show ∃ T, (if (1 : Int32) = 0 then _ else _) = _ ∧ _
        rw [if_neg i1_0]
        have hq2 : q + (stm k).length + 1 ≤ n := by
          by_cases z : q + (stm k).length < n
          · exact z
          · exfalso
            unfold sg at c2
            rw [if_neg z] at c2
            exact absurd c2 (by decide)
        have hcd := cD_3 k hk
        have hl2 : (shp k).length < 200 := by
          have : ∀ k, k < 9 → (shp k).length < 200 := by decide +kernel
          exact this k hk
        have hT : TX (pI (pK S k) 159 2 (nI (q + ((stm k).length + 1)))) n ch (q + (stm k).length + 1) := by
          have := (h.pK k).mv (q + (stm k).length + 1)
          rw [show q + ((stm k).length + 1) = q + (stm k).length + 1 by omega]
          exact this
        obtain ⟨T, g1, g2, g3, g4, g5⟩ := q_pr hk (shp k) [] (q + (stm k).length + 1) 0 200 _ rfl hl2 hT hq2 (by omega) rfl
        have g1 : spX1_readParameters (pI (pK S k) 159 2 (nI (q + ((stm k).length + 1)))) = _ := g1
        have eP : (pI (pK S k) 159 2 (nI (q + ((stm k).length + 1)))).2.1 163 = S.2.1 163 := rfl
        rw [eP] at g1 g2 g3
        rw [hpm.1] at g1
        rw [hpm.2.1] at g2
        show ∃ T, bd2 (spX1_readParameters (pI (pK S k) 159 2 (nI (q + ((stm k).length + 1))))) _ = _ ∧ _
        rw [g1, bd2_s]
        refine ⟨T, ?_, g2, (FrT.rf.pK.pI).tr g4, fun z => ⟨g5, fun i hi => ?_⟩⟩
        · cases (pgs n ch (Fg k) (q + (stm k).length)).1 <;> rfl
        · have := hpm.2.2.2 z i hi
          rw [g3, ← this, Nat.zero_add]
      · rw [if_neg c2] at hpm ⊢
        rw [if_neg (show ¬ (stm k).length + 0 = (stm k).length + 1 by omega)]
        show ∃ T, (if (0 : Int32) = 0 then _ else _) = _ ∧ _
        rw [if_pos rfl]
        obtain ⟨p1, p2, -⟩ := hpm
        have p1 : false = (pgs n ch (Fg k) (q + (stm k).length)).1 := p1
        have p2 : q + (stm k).length = (pgs n ch (Fg k) (q + (stm k).length)).2.1 := p2
        rw [← p1, ← p2]
        exact ⟨_, rfl, h.mv _, FrT.rf.pI, fun z => absurd z Bool.false_ne_true⟩
    · rw [if_neg c1, if_neg c1, if_neg (show ¬ prI n ch (stm k) q = (stm k).length + 1 by omega)]
      show ∃ T, (if (0 : Int32) = 0 then _ else _) = _ ∧ _
      rw [if_pos rfl]
      exact ⟨_, rfl, h.mv _, FrT.rf.pI, fun z => absurd z Bool.false_ne_true⟩
  · rw [er]
    show ∃ T, (if (0 : Int32) = 0 then _ else _) = _ ∧ _
    rw [if_pos rfl, e]
    refine ⟨_, rfl, ?_, FrT.rf.pI, fun z => absurd (e.symm.trans z) Bool.false_ne_true⟩
    have := h.mv (q + ((cmd n ch q).2.1 - q))
    rw [show q + ((cmd n ch q).2.1 - q) = (cmd n ch q).2.1 by omega] at this ⊢
    exact this
/-- a command at its place: behind a sign 59, save at the text's begin -/
theorem q_rc0 (h : TX S n ch 0) (hch : True) : ∃ T, spX1_readCommand S = some (b2 (cmd n ch 0).1, T) ∧ TX T n ch (cmd n ch 0).2.1 ∧ FrT S T ∧ Cv (cmd n ch 0) T := by
  obtain ⟨T, e1, e2⟩ := q_wp h (Nat.zero_le _) hch
  refine ⟨T, ?_, e2⟩
  unfold spX1_readCommand
  rw [if_pos (show S.1 159 2 = 0 from h.2.2.2)]
  exact e1
theorem q_rcn (h : TX S n ch q) (h0 : 0 < q) (hq : q ≤ n) (e : ¬ sg n ch q = 59) : spX1_readCommand S = some (0, S) := by
  have hn := h.1
  unfold spX1_readCommand
  rw [if_neg (by rw [h.2.2.2]; exact (fun z => by have := (nI_eq (a := q) (b := 0) (by omega) (by decide)).mp z; omega)), q_rs h (by omega), if_neg e, bd2_s, if_pos rfl]
  rfl
theorem q_rcs (h : TX S n ch q) (h0 : 0 < q) (hq : q ≤ n) (e : sg n ch q = 59) (hch : True) : ∃ T, spX1_readCommand S = some (b2 (cmd n ch (q + 1)).1, T) ∧ TX T n ch (cmd n ch (q + 1)).2.1 ∧ FrT S T ∧ Cv (cmd n ch (q + 1)) T := by
  have hn := h.1
  have hq2 : q + 1 ≤ n := by
    by_cases z : q < n
    · exact z
    · exfalso
      unfold sg at e
      rw [if_neg z] at e
      exact absurd e (by decide)
  obtain ⟨T, e1, e2, e3, e4⟩ := q_wp (h.mv (q + 1)) hq2 hch
  refine ⟨T, ?_, e2, FrT.rf.pI.tr e3, e4⟩
  unfold spX1_readCommand
  rw [if_neg (by rw [h.2.2.2]; exact (fun z => by have := (nI_eq (a := q) (b := 0) (by omega) (by decide)).mp z; omega)), q_rs h (by omega), if_pos e, bd2_s, if_neg i1_0]
  exact e1
end RC6

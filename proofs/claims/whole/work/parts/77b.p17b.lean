def mds (A : As) : Nat → Nat
  | 0 => 0
  | t + 1 => mds A t + ((aC A t).2.2.2 - aD A)
theorem mds_le {A : As} {D : Nat} (w : WF0 D A) : ∀ t, t ≤ aM A → mds A t ≤ 99 * t
  | 0, _ => Nat.le_refl _
  | t + 1, h => by
    have := mds_le w t (by omega)
    have := (w.2.2.1 t (by omega)).2.2.2
    show mds A t + ((aC A t).2.2.2 - aD A) ≤ 99 * (t + 1)
    omega
theorem nn64 {s m : Nat} (hm : 0 < m) (hm2 : m ≤ 20) (hs : s ≤ 99 * m) : (FP.ddiv (FP.i2d (nI s)) (FP.i2d (nI m))) &&& 0x7fffffffffffffff ≤ 0x7ff0000000000000 := by
  obtain ⟨k, rfl⟩ : ∃ k, m = k + 1 := ⟨m - 1, by omega⟩
  exact of_decide_eq_true (okd_m k (by omega) s (by omega))
theorem nn32 {s m : Nat} (hm : 0 < m) (hm2 : m ≤ 20) (hs : s ≤ m) : (FP.fdiv (FP.i2f (nI s)) (FP.i2f (nI m))) &&& 0x7fffffff ≤ 0x7f800000 ∧ FP.f2d (FP.fdiv (FP.i2f (nI s)) (FP.i2f (nI m))) &&& 0x7fffffffffffffff ≤ 0x7ff0000000000000 := by
  obtain ⟨k, rfl⟩ : ∃ k, m = k + 1 := ⟨m - 1, by omega⟩
  have := okf_m k (by omega) s (by omega)
  unfold okf at this
  rw [Bool.and_eq_true] at this
  exact ⟨of_decide_eq_true this.1, of_decide_eq_true this.2⟩
section DBL
variable {D : Nat} {x : AX} {S : Wo}
theorem q_mdl {A : As} (h : RS S 1 A) (w : WFA D A) (hm : 0 < aM A) : lpX6_meanDaysLeft_24 200 0 0 S = some (0, FP.ddiv (FP.i2d (nI (mds A (aM A)))) (FP.i2d (nI (aM A))), S) := by
  have hm2 := w.1.1.2.1
  have hD := w.1.1.2.2.1
  have hD2 := w.1.1.2.2.2
  refine lp_up (L := fun f t => lpX6_meanDaysLeft_24 f (nI (mds A t)) (nI t) S) (m := aM A) ?_ ?_ (aM A) 0 200 (by omega) (by omega)
  · intro f t ht
    have hl := w.2 t ht
    have eg : spX4_get 10 20 (nI t) S = some (nI (aC A t).2.2.2) := rs_l h w.1 ht
    show lpX6_meanDaysLeft_24 (f + 1) (nI (mds A t)) (nI t) S = lpX6_meanDaysLeft_24 f (nI (mds A (t + 1))) (nI (t + 1)) S
    rw [lpX6_meanDaysLeft_24, if_neg (fun e => absurd ((rs_m h w.1 (by omega)).mp e) (by omega)), eg, Option.bind_some, h.1.2.2.2.1, q_sub hl, nI_add, nI_1]
    rfl
  · intro f
    show lpX6_meanDaysLeft_24 (f + 1) (nI (mds A (aM A))) (nI (aM A)) S = _
    rw [lpX6_meanDaysLeft_24, if_pos ((rs_m h w.1 (by omega)).mpr (Nat.le_refl _)), h.1.2.2.1]
    unfold n64
    rw [if_pos (nn64 hm hm2 (mds_le w.1 _ (Nat.le_refl _)))]
theorem q_mdl7 {A : As} (h : RG (S.2.1 167) A) (w : WFA D A) (hm : 0 < aM A) : lpX7_meanDaysLeft_27 200 0 0 S = some (FP.ddiv (FP.i2d (nI (mds A (aM A)))) (FP.i2d (nI (aM A))), S) := by
  have hm2 := w.1.1.2.1
  have hD := w.1.1.2.2.1
  have hD2 := w.1.1.2.2.2
  refine lp_up (L := fun f t => lpX7_meanDaysLeft_27 f (nI (mds A t)) (nI t) S) (m := aM A) ?_ ?_ (aM A) 0 200 (by omega) (by omega)
  · intro f t ht
    have hl := w.2 t ht
    show lpX7_meanDaysLeft_27 (f + 1) (nI (mds A t)) (nI t) S = lpX7_meanDaysLeft_27 f (nI (mds A (t + 1))) (nI (t + 1)) S
    rw [lpX7_meanDaysLeft_27, if_pos in_1, ix_1, if_neg (fun e => absurd ((rg_m h w.1 (by omega)).mp e) (by omega)), rg_l h w.1 ht, Option.bind_some, if_pos in_2, q_day7 h, q_sub hl, nI_add, nI_1]
    rfl
  · intro f
    show lpX7_meanDaysLeft_27 (f + 1) (nI (mds A (aM A))) (nI (aM A)) S = _
    rw [lpX7_meanDaysLeft_27, if_pos in_1, ix_1, if_pos ((rg_m h w.1 (by omega)).mpr (Nat.le_refl _)), if_pos in_1, h.1.2.2.1]
    unfold n64
    rw [if_pos (nn64 hm hm2 (mds_le w.1 _ (Nat.le_refl _)))]
theorem st_meanDaysLeft (h : Inv D x S) : ∃ k S1 b S2, spL_meanDaysLeft S = some (0, nI k, S1) ∧ spX7_meanDaysLeft S1 = some (b, S2) ∧ S2.1 166 9 = nI k ∧ (nI k = 0 → S2.2.2.2.2 = b ∧ b &&& 0x7fffffffffffffff ≤ 0x7ff0000000000000) ∧ Inv D x S2 := by
  have w := h.1.1
  have hm2 := w.1.1.2.1
  by_cases e : aM (xA x) = 0
  · refine ⟨1, S, FP.dconst0, flS S (nI 1), ?_, ?_, flS_9 _ _, fun q => absurd q (by decide), h.fl _⟩
    · unfold spL_meanDaysLeft spX6_meanDaysLeft
      rw [h.2.1.1.1.2.2.1, e, if_neg (by decide)]
      rfl
    · unfold spX7_meanDaysLeft
      rw [if_pos in_1, jn_e]
      dsimp only
      rw [ix_1, h.2.2.1.1.2.2.1, e, if_pos (by decide), q_fails1, bd2_s, if_neg i1_0]
  · have hm : 0 < aM (xA x) := by omega
    have h2 := h.pD (FP.ddiv (FP.i2d (nI (mds (xA x) (aM (xA x))))) (FP.i2d (nI (aM (xA x)))))
    have hf := h2.fl 0
    refine ⟨0, pD S (FP.ddiv (FP.i2d (nI (mds (xA x) (aM (xA x))))) (FP.i2d (nI (aM (xA x))))), FP.ddiv (FP.i2d (nI (mds (xA x) (aM (xA x))))) (FP.i2d (nI (aM (xA x)))), _, ?_, ?_, ?_, fun _ => ?_, hf⟩
    · unfold spL_meanDaysLeft spX6_meanDaysLeft
      rw [h.2.1.1.1.2.2.1, if_pos (show (0 : Int32) < nI (aM (xA x)) from show nI 0 < nI (aM (xA x)) from nI_lt hm (by omega)), q_mdl h.2.1.1 w hm, bxc_0]
      rfl
    · unfold spX7_meanDaysLeft
      rw [if_pos in_1, jn_e]
      dsimp only
      rw [ix_1, h2.2.2.1.1.2.2.1, if_neg (nI_ne0 hm (by omega)), q_fails0, bd2_s, if_pos rfl, q_mdl7 hf.2.2.1 w hm]
    · exact flS_9 _ _
    · exact ⟨rfl, nn64 hm hm2 (mds_le w.1 _ (Nat.le_refl _))⟩
theorem st_inForceShare (h : Inv D x S) : ∃ k S1 b S2, spL_inForceShare S = some (0, nI k, S1) ∧ spX7_inForceShare S1 = some (b, S2) ∧ S2.1 166 9 = nI k ∧ (nI k = 0 → S2.2.2.2.2 = FP.f2d b ∧ FP.f2d b &&& 0x7fffffffffffffff ≤ 0x7ff0000000000000) ∧ Inv D x S2 := by
  have w := h.1.1
  have hm2 := w.1.1.2.1
  by_cases e : aM (xA x) = 0
  · refine ⟨1, S, FP.fconst0, flS S (nI 1), ?_, ?_, flS_9 _ _, fun q => absurd q (by decide), h.fl _⟩
    · unfold spL_inForceShare spX6_inForceShare
      rw [h.2.1.1.1.2.2.1, e, if_neg (by decide)]
      rfl
    · unfold spX7_inForceShare
      rw [if_pos in_1, jn_e]
      dsimp only
      rw [ix_1, h.2.2.1.1.2.2.1, e, if_pos (by decide), q_fails1, bd2_s, if_neg i1_0]
  · have hm : 0 < aM (xA x) := by omega
    obtain ⟨n1, n2⟩ := nn32 hm hm2 (fb_ct_le (vld (xA x)) (aM (xA x)))
    have h2 := h.pD (FP.f2d (FP.fdiv (FP.i2f (nI (fb_ct (vld (xA x)) (aM (xA x))))) (FP.i2f (nI (aM (xA x))))))
    have hf := h2.fl 0
    have ei := q_ifc w.1 S
    unfold ifn at ei
    refine ⟨0, pD S (FP.f2d (FP.fdiv (FP.i2f (nI (fb_ct (vld (xA x)) (aM (xA x))))) (FP.i2f (nI (aM (xA x)))))), FP.fdiv (FP.i2f (nI (fb_ct (vld (xA x)) (aM (xA x))))) (FP.i2f (nI (aM (xA x)))), _, ?_, ?_, ?_, fun _ => ?_, hf⟩
    · unfold spL_inForceShare spX6_inForceShare
      rw [h.2.1.1.1.2.2.1, if_pos (show (0 : Int32) < nI (aM (xA x)) from show nI 0 < nI (aM (xA x)) from nI_lt hm (by omega)), q_ifn h.2.1.1 w.1, Option.bind_some, ei, Option.bind_some]
      unfold n32
      rw [if_pos n1, bxc_0]
      unfold n64
      rw [if_pos n2]
      rfl
    · unfold spX7_inForceShare
      rw [if_pos in_1, jn_e]
      dsimp only
      rw [ix_1, h2.2.2.1.1.2.2.1, if_neg (nI_ne0 hm (by omega)), q_fails0, bd2_s, if_pos rfl, q_valid hf.2.2.1 w.1, Option.bind_some, if_pos in_1, hf.2.2.1.1.2.2.1]
      unfold n32
      rw [if_pos n1]
    · exact flS_9 _ _
    · exact ⟨rfl, n2⟩
end DBL

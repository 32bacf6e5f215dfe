/-! ===== counts and ranks ===== -/
theorem ct_bkd {A : As} {D d : Nat} {X : Int32} (w : WF0 D A) : fb_ct (bt (bkd A d X)) 20 = fb_ct (hol A d X) (aM A) := by
  have hm := w.1.2.1
  rw [show (20 : Nat) = aM A + (20 - aM A) by omega, fb_ct_split]
  have e1 : fb_ct (bt (bkd A d X)) (aM A) = fb_ct (hol A d X) (aM A) := fb_ct_cong (fun k hk => by
    rw [Bool.eq_iff_iff, bkd_bt w (by omega)]
    exact ⟨fun h => h.2, fun h => ⟨hk, h⟩⟩)
  have e2 : fb_ct (fun k => bt (bkd A d X) (aM A + k)) (20 - aM A) = 0 := fb_ct_zero.mpr (fun k hk => by
    rw [Bool.eq_false_iff]
    intro q
    have := ((bkd_bt w (by omega)).mp q).1
    omega)
  rw [e1, e2, Nat.add_zero]
def cfP (A : As) (s c : Nat) : Bool := decide ((aC A c).2.1 = s) && vld A c
def vof (A : As) (s : Nat) : Nat := fb_ct (cfP A s) (aM A)
def rkP (A : As) (s o : Nat) : Bool := decide (vof A s < vof A o) || (decide (vof A o = vof A s) && decide (o < s))
def rnk (A : As) (s : Nat) : Nat := fb_ct (rkP A s) (aN A)
def sbc (A : As) (p : Int32) : Option Nat := fst (fun k => decide (nI (rnk A k) = p)) 0 (aN A)
theorem vof_le {A : As} {D : Nat} (w : WF0 D A) (s : Nat) : vof A s ≤ 20 := Nat.le_trans (fb_ct_le _ _) w.1.2.1
theorem rnk_le {A : As} {D : Nat} (w : WF0 D A) (s : Nat) : rnk A s ≤ 10 := Nat.le_trans (fb_ct_le _ _) w.1.1
def ifn (A : As) : Int32 := bkd A (aD A) (cfd A (aD A))
section CNT
variable {S : Wo} {o D : Nat} {A : As} {X : Int32} {p : Int32}
theorem ifn_bt (w : WF0 D A) {c : Nat} (hc : c < aM A) : bt (ifn A) c = vld A c := by
  have hm := w.1.2.1
  rw [Bool.eq_iff_iff]
  unfold ifn
  rw [bkd_bt w (by omega)]
  exact ⟨fun h => h.2, fun h => ⟨hc, h⟩⟩
theorem q_ifc (w : WF0 D A) (S : Wo) : spJ6_bitCount_0f7a4 (ifn A) S = some (nI (fb_ct (vld A) (aM A))) := by
  have hm := w.1.2.1
  unfold ifn
  rw [q_pop (fun i hi hb => by have := ((bkd_bt w hi).mp hb).1; omega), ct_bkd w]
  rfl
theorem q_valid (h : RG (S.2.1 167) A) (w : WF0 D A) : spX7_valid S = some (nI (fb_ct (vld A) (aM A))) := by
  have hm := w.1.2.1
  unfold spX7_valid
  refine lp_up (L := fun f t => lpX7_valid_4 S f (nI (fb_ct (vld A) t)) (nI t)) (m := aM A) ?_ ?_ (aM A) 0 200 (by omega) (by omega)
  · intro f t ht
    show lpX7_valid_4 S (f + 1) (nI (fb_ct (vld A) t)) (nI t) = lpX7_valid_4 S f (nI (fb_ct (vld A) (t + 1))) (nI (t + 1))
    rw [lpX7_valid_4, if_pos in_1, ix_1, if_neg (fun e => absurd ((rg_m h w (by omega)).mp e) (by omega)), q_valid7 h w ht, Option.bind_some, nI_1, nI_1, fb_ct_succ]
    cases vld A t
    · rw [if_pos (show b2 false = 0 from rfl), if_neg (by decide)]
      show lpX7_valid_4 S f (nI (fb_ct (vld A) t) + nI 0) (nI (t + 1)) = _
      rw [nI_add]
    · rw [if_neg (show ¬ b2 true = 0 from by decide), if_pos rfl]
  · intro f
    show lpX7_valid_4 S (f + 1) (nI (fb_ct (vld A) (aM A))) (nI (aM A)) = _
    rw [lpX7_valid_4, if_pos in_1, ix_1, if_pos ((rg_m h w (by omega)).mpr (Nat.le_refl _))]
theorem q_cntF (h : RS S o A) (w : WF0 D A) {s : Nat} (hs : s < 100) : spX5_countFor o (nI s) (ifn A) S = some (nI (vof A s)) := by
  have hm := w.1.2.1
  have hn := w.1.1
  unfold spX5_countFor
  refine lp_up (L := fun f t => lpX5_countFor_5 o (nI s) (ifn A) S f (nI (fb_ct (cfP A s) t)) (nI t)) (m := aM A) ?_ ?_ (aM A) 0 200 (by omega) (by omega)
  · intro f t ht
    have w2 := (w.2.2.1 t ht).2.1
    show lpX5_countFor_5 o (nI s) (ifn A) S (f + 1) (nI (fb_ct (cfP A s) t)) (nI t) = lpX5_countFor_5 o (nI s) (ifn A) S f (nI (fb_ct (cfP A s) (t + 1))) (nI (t + 1))
    rw [lpX5_countFor_5, if_neg (fun e => absurd ((rs_m h w (by omega)).mp e) (by omega)), q_has (by omega), Option.bind_some, ifn_bt w ht, rs_s h w ht, nI_1, nI_1, fb_ct_succ]
    unfold cfP
    cases vld A t
    · rw [if_pos (show b2 false = 0 from rfl), Bool.and_false, if_neg (by decide)]; rfl
    · rw [if_neg (show ¬ b2 true = 0 from by decide), Option.bind_some, Bool.and_true]
      by_cases e : (aC A t).2.1 = s
      · rw [if_pos (by rw [e]), if_pos (decide_eq_true e)]
      · rw [if_neg (fun q => e ((nI_eq (by omega) (by omega)).mp q)), if_neg (fun q => e (of_decide_eq_true q))]; rfl
  · intro f
    show lpX5_countFor_5 o (nI s) (ifn A) S (f + 1) (nI (fb_ct (cfP A s) (aM A))) (nI (aM A)) = _
    rw [lpX5_countFor_5, if_pos ((rs_m h w (by omega)).mpr (Nat.le_refl _))]
    rfl
theorem q_vof7 (h : RG (S.2.1 167) A) (w : WF0 D A) {s : Nat} (hs : s < 100) : spX7_validOf (nI s) S = some (nI (vof A s)) := by
  have hm := w.1.2.1
  have hn := w.1.1
  unfold spX7_validOf
  refine lp_up (L := fun f t => lpX7_validOf_4 (nI s) S f (nI (fb_ct (cfP A s) t)) (nI t)) (m := aM A) ?_ ?_ (aM A) 0 200 (by omega) (by omega)
  · intro f t ht
    have w2 := (w.2.2.1 t ht).2.1
    have e0 : nI (fb_ct (cfP A s) t) + 0 = nI (fb_ct (cfP A s) t) := by
      show nI (fb_ct (cfP A s) t) + nI 0 = _
      rw [nI_add]; rfl
    show lpX7_validOf_4 (nI s) S (f + 1) (nI (fb_ct (cfP A s) t)) (nI t) = lpX7_validOf_4 (nI s) S f (nI (fb_ct (cfP A s) (t + 1))) (nI (t + 1))
    rw [lpX7_validOf_4, if_pos in_1, ix_1, if_neg (fun e => absurd ((rg_m h w (by omega)).mp e) (by omega)), rg_s h w ht, Option.bind_some, q_valid7 h w ht, Option.bind_some, nI_1, nI_1, e0, fb_ct_succ]
    unfold cfP
    by_cases e : (aC A t).2.1 = s
    · rw [if_pos (by rw [e]), decide_eq_true e, Bool.true_and]
      cases vld A t
      · rw [if_pos (show b2 false = 0 from rfl), if_neg (by decide)]; rfl
      · rw [if_neg (show ¬ b2 true = 0 from by decide), if_pos rfl]
    · rw [if_neg (fun q => e ((nI_eq (by omega) (by omega)).mp q)), decide_eq_false e, Bool.false_and, if_neg (by decide)]; rfl
  · intro f
    show lpX7_validOf_4 (nI s) S (f + 1) (nI (fb_ct (cfP A s) (aM A))) (nI (aM A)) = _
    rw [lpX7_validOf_4, if_pos in_1, ix_1, if_pos ((rg_m h w (by omega)).mpr (Nat.le_refl _))]
    rfl
theorem q_rank (h : RS S o A) (w : WF0 D A) {s : Nat} (hs : s < 100) : spX5_rankOf o (nI s) (ifn A) S = some (nI (rnk A s)) := by
  have hn := w.1.1
  unfold spX5_rankOf
  rw [q_cntF h w hs, Option.bind_some]
  refine lp_up (L := fun f t => lpX5_rankOf_13 o (nI s) (ifn A) S (nI (vof A s)) f (nI (fb_ct (rkP A s) t)) (nI t)) (m := aN A) ?_ ?_ (aN A) 0 200 (by omega) (by omega)
  · intro f t ht
    have v1 := vof_le w s
    have v2 := vof_le w t
    show lpX5_rankOf_13 o (nI s) (ifn A) S (nI (vof A s)) (f + 1) (nI (fb_ct (rkP A s) t)) (nI t) = lpX5_rankOf_13 o (nI s) (ifn A) S (nI (vof A s)) f (nI (fb_ct (rkP A s) (t + 1))) (nI (t + 1))
    rw [lpX5_rankOf_13, if_neg (fun e => absurd ((rs_n h w (by omega)).mp e) (by omega)), q_cntF h w (by omega), Option.bind_some, nI_1, nI_1, fb_ct_succ]
    unfold rkP
    by_cases e : vof A s < vof A t
    · rw [if_pos (nI_lt e (by omega)), decide_eq_true e, Bool.true_or, if_pos rfl]
    · rw [if_neg (nI_nlt (by omega) (by omega)), decide_eq_false e, Bool.false_or]
      by_cases e2 : vof A t = vof A s
      · rw [if_pos (by rw [e2]), decide_eq_true e2, Bool.true_and]
        by_cases e3 : t < s
        · rw [if_neg (nI_ge e3 (by omega)), if_pos (decide_eq_true e3)]
        · rw [if_pos (nI_le (by omega) (by omega)), if_neg (fun q => e3 (of_decide_eq_true q))]; rfl
      · rw [if_neg (fun q => e2 ((nI_eq (by omega) (by omega)).mp q)), decide_eq_false e2, Bool.false_and, if_neg (by decide)]; rfl
  · intro f
    show lpX5_rankOf_13 o (nI s) (ifn A) S (nI (vof A s)) (f + 1) (nI (fb_ct (rkP A s) (aN A))) (nI (aN A)) = _
    rw [lpX5_rankOf_13, if_pos ((rs_n h w (by omega)).mpr (Nat.le_refl _))]
    rfl
theorem q_r17 (h : RG (S.2.1 167) A) (w : WF0 D A) {s : Nat} (hs : s < 100) (K : Int32 → Int32 → Wo → Option (Int32 × Wo)) : lpX7_scarecrowByCertificates_17 p (nI s) K 200 0 0 S = K (nI (rnk A s)) (nI (aN A)) S := by
  have hn := w.1.1
  refine lp_up (L := fun f t => lpX7_scarecrowByCertificates_17 p (nI s) K f (nI (fb_ct (rkP A s) t)) (nI t) S) (m := aN A) ?_ ?_ (aN A) 0 200 (by omega) (by omega)
  · intro f t ht
    have v1 := vof_le w s
    have v2 := vof_le w t
    have e0 : nI (fb_ct (rkP A s) t) + 0 = nI (fb_ct (rkP A s) t) := by
      show nI (fb_ct (rkP A s) t) + nI 0 = _
      rw [nI_add]; rfl
    show lpX7_scarecrowByCertificates_17 p (nI s) K (f + 1) (nI (fb_ct (rkP A s) t)) (nI t) S = lpX7_scarecrowByCertificates_17 p (nI s) K f (nI (fb_ct (rkP A s) (t + 1))) (nI (t + 1)) S
    rw [lpX7_scarecrowByCertificates_17, if_pos in_0, ix_0, if_neg (fun e => absurd ((rg_n h w (by omega)).mp e) (by omega)), q_vof7 h w (by omega), Option.bind_some, q_vof7 h w hs, Option.bind_some, Option.bind_some, Option.bind_some, nI_1, nI_1, e0, fb_ct_succ]
    unfold rkP
    by_cases e : vof A s < vof A t
    · rw [if_pos (nI_lt e (by omega)), decide_eq_true e, Bool.true_or, if_pos rfl]
    · rw [if_neg (nI_nlt (by omega) (by omega)), decide_eq_false e, Bool.false_or]
      by_cases e2 : vof A t = vof A s
      · rw [if_pos (by rw [e2]), decide_eq_true e2, Bool.true_and]
        by_cases e3 : t < s
        · rw [if_neg (nI_ge e3 (by omega)), if_pos (decide_eq_true e3)]
        · rw [if_pos (nI_le (by omega) (by omega)), if_neg (fun q => e3 (of_decide_eq_true q))]; rfl
      · rw [if_neg (fun q => e2 ((nI_eq (by omega) (by omega)).mp q)), decide_eq_false e2, Bool.false_and, if_neg (by decide)]; rfl
  · intro f
    show lpX7_scarecrowByCertificates_17 p (nI s) K (f + 1) (nI (fb_ct (rkP A s) (aN A))) (nI (aN A)) S = _
    rw [lpX7_scarecrowByCertificates_17, if_pos in_0, ix_0, if_pos ((rg_n h w (by omega)).mpr (Nat.le_refl _))]
    rfl
theorem q_sbc (h : RS S 1 A) (w : WF0 D A) : spX6_scarecrowByCertificates p S = some ((sbc A p).elim (3, 0, S) (fun k => (0, nI k, S))) := by
  have hn := w.1.1
  unfold spX6_scarecrowByCertificates
  rw [q_ifn h w, Option.bind_some]
  refine (lp_fst (L := fun f t => lpX6_scarecrowByCertificates_10 p (ifn A) f (nI t) S) (P := fun k => decide (nI (rnk A k) = p)) (m := aN A) (r := some (3, 0, S)) (R := fun k => some (0, nI k, S)) ?_ ?_ ?_ (aN A) 0 200 (by omega) (by omega)).trans ?_
  · intro f t ht hp
    show lpX6_scarecrowByCertificates_10 p (ifn A) (f + 1) (nI t) S = lpX6_scarecrowByCertificates_10 p (ifn A) f (nI (t + 1)) S
    rw [lpX6_scarecrowByCertificates_10, if_neg (fun e => absurd ((rs_n h w (by omega)).mp e) (by omega)), q_rank h w (by omega), Option.bind_some, if_neg (of_decide_eq_false hp), nI_1]
  · intro f t ht hp
    show lpX6_scarecrowByCertificates_10 p (ifn A) (f + 1) (nI t) S = _
    rw [lpX6_scarecrowByCertificates_10, if_neg (fun e => absurd ((rs_n h w (by omega)).mp e) (by omega)), q_rank h w (by omega), Option.bind_some, if_pos (of_decide_eq_true hp)]
  · intro f
    show lpX6_scarecrowByCertificates_10 p (ifn A) (f + 1) (nI (aN A)) S = _
    rw [lpX6_scarecrowByCertificates_10, if_pos ((rs_n h w (by omega)).mpr (Nat.le_refl _))]
  · unfold sbc
    cases fst (fun k => decide (nI (rnk A k) = p)) 0 (aN A) <;> rfl
theorem q_sbc7 (h : RG (S.2.1 167) A) (w : WF0 D A) : spX7_scarecrowByCertificates p S = some ((sbc A p).elim (0, pI S 166 9 1) (fun k => (nI k, pI S 166 9 0))) := by
  have hn := w.1.1
  unfold spX7_scarecrowByCertificates
  refine (lp_fst (L := fun f t => lpX7_scarecrowByCertificates_2 p f (nI t) S) (P := fun k => decide (nI (rnk A k) = p)) (m := aN A) (r := some (0, pI S 166 9 1)) (R := fun k => some (nI k, pI S 166 9 0)) ?_ ?_ ?_ (aN A) 0 200 (by omega) (by omega)).trans ?_
  · intro f t ht hp
    show lpX7_scarecrowByCertificates_2 p (f + 1) (nI t) S = lpX7_scarecrowByCertificates_2 p f (nI (t + 1)) S
    rw [lpX7_scarecrowByCertificates_2, if_pos in_0, ix_0, if_neg (fun e => absurd ((rg_n h w (by omega)).mp e) (by omega)), q_r17 h w (by omega), if_neg (of_decide_eq_false hp), nI_1]
  · intro f t ht hp
    show lpX7_scarecrowByCertificates_2 p (f + 1) (nI t) S = _
    rw [lpX7_scarecrowByCertificates_2, if_pos in_0, ix_0, if_neg (fun e => absurd ((rg_n h w (by omega)).mp e) (by omega)), q_r17 h w (by omega), if_pos (of_decide_eq_true hp)]
    rfl
  · intro f
    show lpX7_scarecrowByCertificates_2 p (f + 1) (nI (aN A)) S = _
    rw [lpX7_scarecrowByCertificates_2, if_pos in_0, ix_0, if_pos ((rg_n h w (by omega)).mpr (Nat.le_refl _))]
    rfl
  · unfold sbc
    cases fst (fun k => decide (nI (rnk A k) = p)) 0 (aN A) <;> rfl
/-! guarded fields, grains -/
def gfN (A : As) : Nat := fb_ct (nr A (cfd A (aD A))) 16
theorem gfN_gds (A : As) : fb_ct (bt (gds A)) 16 = gfN A := fb_ct_cong (fun k hk => gds_bt hk)
theorem gds20 (A : As) : fb_ct (bt (gds A)) 20 = gfN A := by
  rw [show (20 : Nat) = 16 + 4 from rfl, fb_ct_split, gfN_gds]
  have e2 : fb_ct (fun k => bt (gds A) (16 + k)) 4 = 0 := fb_ct_zero.mpr (fun k hk => by
    rw [Bool.eq_false_iff]
    intro q
    unfold gds at q
    have := ((gs_bt (by omega) _).mp q).1
    omega)
  rw [e2, Nat.add_zero]
theorem q_gf (h : RS S 1 A) (w : WF0 D A) : spX6_guardedFields S = some (nI (gfN A)) := by
  unfold spX6_guardedFields
  rw [q_cfdNow h w, Option.bind_some]
  refine lp_up (L := fun f t => lpX6_guardedFields_12 S (cfd A (aD A)) f (nI (fb_ct (nr A (cfd A (aD A))) t)) (nI t)) (m := 16) ?_ ?_ 16 0 200 (by omega) (by omega)
  · intro f t ht
    show lpX6_guardedFields_12 S (cfd A (aD A)) (f + 1) (nI (fb_ct (nr A (cfd A (aD A))) t)) (nI t) = lpX6_guardedFields_12 S (cfd A (aD A)) f (nI (fb_ct (nr A (cfd A (aD A))) (t + 1))) (nI (t + 1))
    rw [lpX6_guardedFields_12, if_neg (show ¬ (16 : Int32) ≤ nI t from show ¬ nI 16 ≤ nI t from nI_ge ht (by omega)), q_near h w ht, Option.bind_some, nI_1, nI_1, fb_ct_succ]
    cases nr A (cfd A (aD A)) t
    · rw [if_pos (show b2 false = 0 from rfl), if_neg (by decide)]; rfl
    · rw [if_neg (show ¬ b2 true = 0 from by decide), if_pos rfl]
  · intro f
    show lpX6_guardedFields_12 S (cfd A (aD A)) (f + 1) (nI (fb_ct (nr A (cfd A (aD A))) 16)) (nI 16) = _
    rw [lpX6_guardedFields_12, if_pos (by decide)]
    rfl
theorem q_gfs (h : RS S 1 A) (w : WF0 D A) : spX6_guardedFieldsByScarecrows S = some (nI (gfN A)) := by
  have hn := w.1.1
  unfold spX6_guardedFieldsByScarecrows
  rw [q_cfdNow h w, Option.bind_some]
  refine lp_up (L := fun f t => lpX6_guardedFieldsByScarecrows_12 S (cfd A (aD A)) f (gs6 A (cfd A (aD A)) t) (nI t)) (m := aN A) ?_ ?_ (aN A) 0 200 (by omega) (by omega)
  · intro f t ht
    show lpX6_guardedFieldsByScarecrows_12 S (cfd A (aD A)) (f + 1) (gs6 A (cfd A (aD A)) t) (nI t) = lpX6_guardedFieldsByScarecrows_12 S (cfd A (aD A)) f (gs6 A (cfd A (aD A)) (t + 1)) (nI (t + 1))
    have ef : spX4_get 2 10 (nI t) S = some (nI (aF A t)) := rs_f h w ht
    rw [lpX6_guardedFieldsByScarecrows_12, if_neg (fun e => absurd ((rs_n h w (by omega)).mp e) (by omega)), q_has (by omega), Option.bind_some, ef, nI_1, gs6]
    cases bt (cfd A (aD A)) t
    · rw [if_pos (show b2 false = 0 from rfl), if_neg (by decide)]
    · rw [if_neg (show ¬ b2 true = 0 from by decide), if_pos rfl, Option.bind_some, q_fnear S _ (w.2.1 t ht), Option.bind_some]
  · intro f
    show lpX6_guardedFieldsByScarecrows_12 S (cfd A (aD A)) (f + 1) (gs6 A (cfd A (aD A)) (aN A)) (nI (aN A)) = _
    rw [lpX6_guardedFieldsByScarecrows_12, if_pos ((rs_n h w (by omega)).mpr (Nat.le_refl _)), gs6_gs]
    show (spJ6_bitCount_0f7a4 (gds A) S).bind (fun x3 => some x3) = _
    rw [q_pop (fun i hi hb => by
      unfold gds at hb
      have := ((gs_bt hi _).mp hb).1
      omega), gds20]
    rfl
def tgr (A : As) : Nat → Nat
  | 0 => 0
  | t + 1 => tgr A t + aG A t
theorem q_tg (h : RS S 1 A) : spX6_totalGrains S = some (nI (tgr A 16)) := by
  unfold spX6_totalGrains
  refine lp_up (L := fun f t => lpX6_totalGrains_4 S f (nI (tgr A t)) (nI t)) (m := 16) ?_ ?_ 16 0 200 (by omega) (by omega)
  · intro f t ht
    show lpX6_totalGrains_4 S (f + 1) (nI (tgr A t)) (nI t) = lpX6_totalGrains_4 S f (nI (tgr A (t + 1))) (nI (t + 1))
    have eg : spX4_get 12 16 (nI t) S = some (nI (aG A t)) := rs_g h ht
    rw [lpX6_totalGrains_4, if_neg (show ¬ (16 : Int32) ≤ nI t from show ¬ nI 16 ≤ nI t from nI_ge ht (by omega)), eg, Option.bind_some, nI_add, nI_1]
    rfl
  · intro f
    show lpX6_totalGrains_4 S (f + 1) (nI (tgr A 16)) (nI 16) = _
    rw [lpX6_totalGrains_4, if_pos (by decide)]
theorem q_tg7 (h : RG (S.2.1 167) A) : spX7_totalGrains S = some (nI (tgr A 16), pI S 166 9 0) := by
  have h2 : RG ((pI S 166 9 0).2.1 167) A := h
  show lpX7_totalGrains_9 200 0 0 (pI S 166 9 0) = _
  refine lp_up (L := fun f t => lpX7_totalGrains_9 f (nI (tgr A t)) (nI t) (pI S 166 9 0)) (m := 16) ?_ ?_ 16 0 200 (by omega) (by omega)
  · intro f t ht
    show lpX7_totalGrains_9 (f + 1) (nI (tgr A t)) (nI t) (pI S 166 9 0) = lpX7_totalGrains_9 f (nI (tgr A (t + 1))) (nI (t + 1)) (pI S 166 9 0)
    rw [lpX7_totalGrains_9, if_neg (show ¬ (16 : Int32) ≤ nI t from show ¬ nI 16 ≤ nI t from nI_ge ht (by omega)), if_pos (in_16 ht), ix_16 ht, h2.2.2.2 t ht, nI_add, nI_1]
    rfl
  · intro f
    show lpX7_totalGrains_9 (f + 1) (nI (tgr A 16)) (nI 16) (pI S 166 9 0) = _
    rw [lpX7_totalGrains_9, if_pos (by decide)]
end CNT

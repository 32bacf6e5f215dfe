/-! ===== the reference's reading of a command ===== -/
def chF : List (Int32 × Nat) → Int32 → Wo → Option (Int32 × Wo)
  | [], _, S => rz 1 (fun y => some (y, S))
  | (s, m) :: r, p, S => bd2 (spX7_figures s p (nI m) S) (fun x S' => (if x = 0 then rz 0 (fun y => some (y, S')) else chF r (p + 1) S'))
section RD7
variable {n : Nat} {ch : Nat → Int32}
theorem pgs_c (s : Int32) (m : Nat) (r : List (Int32 × Nat)) (q : Nat) : pgs n ch ((s, m) :: r) q = if sg n ch q = s then (if (rdn n ch m (q + 1)).1 = 0 then (false, q + 1, []) else ((pgs n ch r (q + 1 + (rdn n ch m (q + 1)).1)).1, (pgs n ch r (q + 1 + (rdn n ch m (q + 1)).1)).2.1, (rdn n ch m (q + 1)).2 :: (pgs n ch r (q + 1 + (rdn n ch m (q + 1)).1)).2.2)) else (false, q, []) := rfl
theorem q_chF : ∀ (F : List (Int32 × Nat)) (q p : Nat) (S : Wo), RX S n ch q → q ≤ n → okF F → p + F.length ≤ 124 → ∃ T, chF F (nI p) S = some (b2 (pgs n ch F q).1, T) ∧ RX T n ch (pgs n ch F q).2.1 ∧ FrV S T ∧ (∀ j, j < p → T.2.1 174 j = S.2.1 174 j) ∧ ((pgs n ch F q).1 = true → ∀ a, a < F.length → T.2.1 174 (p + a) = nI ((pgs n ch F q).2.2.getD a 0)) := by
  intro F
  induction F with
  | nil => intro q p S h _ _ _; exact ⟨S, rfl, h, FrV.rf, fun _ _ => rfl, fun _ a ha => absurd ha (Nat.not_lt_zero _)⟩
  | cons e r ih =>
    obtain ⟨s, m⟩ := e
    intro q p S h hq ho hp
    obtain ⟨h1, h2, h4, h3, ho'⟩ := okF_c ho
    rw [List.length_cons] at hp
    obtain ⟨T, e1, r1, f1, a1, v1⟩ := q_fig (s := s) h hq (by omega : p < 124) h3 h4
    have hin := pgs_in (n := n) (ch := ch) [(s, m)] q (fun e he => ho e (by
      obtain rfl : e = (s, m) := List.mem_singleton.mp he
      exact List.mem_cons_self)) hq
    rw [chF, e1, bd2_s]
    rw [pgs_c s m [] q] at v1 r1 hin ⊢
    rw [pgs_c s m r q]
    by_cases c1 : sg n ch q = s
    · rw [if_pos c1] at v1 r1 hin ⊢
      rw [if_pos c1]
      by_cases c2 : (rdn n ch m (q + 1)).1 = 0
      · rw [if_pos c2] at v1 r1 hin ⊢
        rw [if_pos c2]
        refine ⟨T, ?_, r1, f1, fun j hj => a1 j (by omega), fun z => absurd z Bool.false_ne_true⟩
        show (if (0 : Int32) = 0 then _ else _) = _
        rw [if_pos rfl]; rfl
      · rw [if_neg c2] at v1 r1 hin ⊢
        rw [if_neg c2]
        have v1 : T.2.1 174 p = nI (rdn n ch m (q + 1)).2 := v1 rfl
        have r1 : RX T n ch (q + 1 + (rdn n ch m (q + 1)).1) := r1
        have hin : q + 1 + (rdn n ch m (q + 1)).1 ≤ n := hin
        obtain ⟨U, e2, r2, f2, a2, v2⟩ := ih (q + 1 + (rdn n ch m (q + 1)).1) (p + 1) T r1 hin ho' (by omega)
        refine ⟨U, ?_, r2, f1.tr f2, fun j hj => ?_, fun z a ha => ?_⟩
        · show (if (1 : Int32) = 0 then _ else _) = _
          rw [if_neg i1_0, nI_1, e2]
        · rw [a2 j (by omega)]; exact a1 j (by omega)
        · cases a with
          | zero =>
            show U.2.1 174 p = nI (rdn n ch m (q + 1)).2
            rw [a2 p (by omega), v1]
          | succ a =>
            have := v2 z a (by rw [List.length_cons] at ha; omega)
            rw [show p + (a + 1) = p + 1 + a by omega, this]
            rfl
    · rw [if_neg c1] at v1 r1 hin ⊢
      rw [if_neg c1]
      refine ⟨T, ?_, r1, f1, fun j hj => a1 j (by omega), fun z => absurd z Bool.false_ne_true⟩
      show (if (0 : Int32) = 0 then _ else _) = _
      rw [if_pos rfl]; rfl
/-- behind a command read by the reference as its i-th -/
def Rv (n : Nat) (ch : Nat → Int32) (i : Nat) (S : Wo) (r : Bool × Nat × Nat × List Nat) (T : Wo) : Prop := RX T n ch r.2.1 ∧ FrV S T ∧ (∀ j, j < 4 * i → T.2.1 174 j = S.2.1 174 j) ∧ (r.1 = true → T.2.1 174 (4 * i) = nI r.2.2.1 ∧ ∀ a, a < (Fg r.2.2.1).length → T.2.1 174 (4 * i + 1 + a) = nI (r.2.2.2.getD a 0))
theorem q_br {S0 S : Wo} {i k t q : Nat} (Ld : List Int32) (hk : k < 9) (ht : t < 24) (hst : stm k = Ld ++ bytL.getD t []) (hl : prI n ch Ld q = Ld.length) (h : RX S n ch (q + Ld.length)) (hf : FrV S0 S) (ha : ∀ j, S.2.1 174 j = S0.2.1 174 j) (hq : q + Ld.length ≤ n) (hi : S0.1 166 20 = nI i) (hi2 : i ≤ 30) (hch : True) : ∃ T, bd2 (spX7_isWord (nI k) t S) (fun x S' => (if x = 0 then rz 0 (fun y => some (y, S')) else chF (Fg k) (nI (4 * i + 1)) S')) = some (b2 (cg n ch k q).1, T) ∧ Rv n ch i S0 (cg n ch k q) T := by
  obtain ⟨-, -, w1, w2, w3, w4, w5⟩ := w_sh k hk
  have hi' : S.1 166 20 = nI i := by rw [hf.2.1 20 (by decide)]; exact hi
  obtain ⟨T, e1, r1, f1, a1⟩ := q_isw (p := nI k) h hq ht hi' hi2
  have hin := prI_in (n := n) (ch := ch) hch (bytL.getD t []) (q + Ld.length) (byt_ne t ht) hq
  · have hle := prI_le n ch (bytL.getD t []) (q + Ld.length)
    have a1' : ∀ j, j < 4 * i → T.2.1 174 j = S0.2.1 174 j := fun j hj => by rw [a1, u_ne (by omega), ha]
    have eL : (stm k).length = Ld.length + (bytL.getD t []).length := by rw [hst, List.length_append]
    rw [e1, bd2_s]
    unfold cg
    have eP : prI n ch (stm k) q = Ld.length + prI n ch (bytL.getD t []) (q + Ld.length) := by rw [hst, prI_app, if_pos hl]
    rw [eP, eL]
    by_cases c1 : prI n ch (bytL.getD t []) (q + Ld.length) = (bytL.getD t []).length
    · rw [decide_eq_true c1]
      show ∃ T', (if (1 : Int32) = 0 then _ else _) = _ ∧ _
      rw [if_neg i1_0, if_pos (show Ld.length + prI n ch (bytL.getD t []) (q + Ld.length) = Ld.length + (bytL.getD t []).length by omega)]
      rw [c1] at r1 hin
      have e3 : q + (Ld.length + (bytL.getD t []).length) = q + Ld.length + (bytL.getD t []).length := by omega
      rw [e3]
      obtain ⟨U, e2, r2, f2, a2, v2⟩ := q_chF (Fg k) _ (4 * i + 1) T r1 hin w4 (by omega)
      refine ⟨U, e2, r2, hf.tr (f1.tr f2), fun j hj => ?_, fun z => ⟨?_, v2 z⟩⟩
      · rw [a2 j (by omega)]; exact a1' j hj
      · rw [a2 (4 * i) (by omega), a1, u_at]
    · rw [decide_eq_false c1]
      show ∃ T', (if (0 : Int32) = 0 then _ else _) = _ ∧ _
      rw [if_pos rfl, if_neg (show ¬ Ld.length + prI n ch (bytL.getD t []) (q + Ld.length) = Ld.length + (bytL.getD t []).length by omega)]
      refine ⟨T, rfl, ?_, hf.tr f1, a1', fun z => absurd z Bool.false_ne_true⟩
      rw [← Nat.add_assoc]
      exact r1
theorem w_st : stm 0 = [112] ++ bytL.getD 18 [] ∧ stm 1 = [109] ++ bytL.getD 19 [] ∧ stm 2 = [114, 101, 118] ++ bytL.getD 16 [] ∧ stm 3 = [114, 101] ++ bytL.getD 17 [] ∧ stm 4 = [114, 111] ++ bytL.getD 15 [] ∧ stm 5 = [105] ++ bytL.getD 20 [] ∧ stm 6 = [100] ++ bytL.getD 21 [] ∧ stm 7 = [115] ++ bytL.getD 22 [] ∧ stm 8 = [119] ++ bytL.getD 23 [] := by decide +kernel
theorem sg_lt {q : Nat} {c : Int32} (e : sg n ch q = c) (hc : c ≠ -1) : q < n := by
  by_cases z : q < n
  · exact z
  · exfalso
    unfold sg at e
    rw [if_neg z] at e
    exact hc e.symm
theorem prI_1 {q : Nat} {c : Int32} (e : sg n ch q = c) : prI n ch [c] q = 1 := by rw [prI, if_pos e]; rfl
theorem prI_2 {q : Nat} {c d : Int32} (e : sg n ch q = c) (e2 : sg n ch (q + 1) = d) : prI n ch [c, d] q = 2 := by rw [prI, if_pos e, prI_1 e2]
theorem prI_3 {q : Nat} {c d f : Int32} (e : sg n ch q = c) (e2 : sg n ch (q + 1) = d) (e3 : sg n ch (q + 2) = f) : prI n ch [c, d, f] q = 3 := by rw [prI, if_pos e, prI_2 e2 e3]
theorem q_cmd7 {S : Wo} {i q : Nat} (h : RX S n ch q) (hq : q ≤ n) (hi : S.1 166 20 = nI i) (hi2 : i ≤ 30) (hch : True) : ∃ T, spX7_commandHere S = some (b2 (cmd n ch q).1, T) ∧ Rv n ch i S (cmd n ch q) T := by
  have hn := h.1
  obtain ⟨s0, s1, s2, s3, s4, s5, s6, s7, s8⟩ := w_st
  have e41 : 4 * nI i + 1 = nI (4 * i + 1) := by
    rw [show (4 : Int32) * nI i = nI (4 * i) from q_mul (a := 4) (b := i), nI_1]
  have e42 : nI (4 * i + 1) + 2 = nI (4 * i + 1) + 1 + 1 := by
    rw [nI_1, nI_1]
    exact nI_add (a := 4 * i + 1) (b := 2)
  have h1 := h.mv (q + 1)
  have g1 : ∀ (k t : Nat) (c : Int32), k < 9 → t < 24 → stm k = [c] ++ bytL.getD t [] → sg n ch q = c → c ≠ -1 → ∃ T, bd2 (spX7_isWord (nI k) t (pI S 166 18 (nI (q + 1)))) (fun x S' => (if x = 0 then rz 0 (fun y => some (y, S')) else chF (Fg k) (nI (4 * i + 1)) S')) = some (b2 (cg n ch k q).1, T) ∧ Rv n ch i S (cg n ch k q) T := by
    intro k t c hk ht hst hc hc1
    have hq2 := sg_lt hc hc1
    exact q_br [c] hk ht hst (prI_1 hc) h1 FrV.rf.pI (fun _ => rfl) hq2 hi hi2 hch
  unfold spX7_commandHere cmd
  rw [hi, e41, e42]
  rw [q_skips h (by omega)]
  by_cases e0 : sg n ch q = 112
  · rw [if_pos e0, if_pos e0, bd2_s, if_neg i1_0]
    exact g1 0 18 112 (by decide) (by decide) s0 e0 (by decide)
  rw [if_neg e0, if_neg e0, bd2_s, if_pos rfl, q_skips h (by omega)]
  by_cases e1 : sg n ch q = 109
  · rw [if_pos e1, if_pos e1, bd2_s, if_neg i1_0]
    exact g1 1 19 109 (by decide) (by decide) s1 e1 (by decide)
  rw [if_neg e1, if_neg e1, bd2_s, if_pos rfl, q_skips h (by omega)]
  by_cases e2 : sg n ch q = 114
  · rw [if_pos e2, if_pos e2, bd2_s, if_neg i1_0]
    have hq2 := sg_lt e2 (by decide)
    have h2 := h1.mv (q + 2)
    unfold spX7_withR
    rw [q_skips h1 (by omega)]
    by_cases e3 : sg n ch (q + 1) = 111
    · have hq3 := sg_lt e3 (by decide)
      rw [if_pos e3, if_pos e3, bd2_s, if_neg i1_0]
      obtain ⟨T, u1, u2⟩ := q_br (S0 := S) [114, 111] (by decide : 4 < 9) (by decide : 15 < 24) s4 (prI_2 e2 e3) h2 FrV.rf.pI.pI (fun _ => rfl) (by show q + 2 ≤ n; omega) hi hi2 hch
      refine ⟨T, ?_, u2⟩
      have u1 : bd2 (spX7_isWord 4 15 (pI (pI S 166 18 (nI (q + 1))) 166 18 (nI (q + 1 + 1)))) _ = _ := u1
      refine Eq.trans (congrArg (fun z => bd2 z _) u1) ?_
      rw [bd2_s, rz_b2]
    rw [if_neg e3, if_neg e3, bd2_s, if_pos rfl, q_skips h1 (by omega)]
    by_cases e4 : sg n ch (q + 1) = 101
    · have hq3 := sg_lt e4 (by decide)
      rw [if_pos e4, if_pos e4, bd2_s, if_neg i1_0, q_skips h2 (by omega)]
      by_cases e5 : sg n ch (q + 2) = 118
      · have hq4 := sg_lt e5 (by decide)
        rw [if_pos e5, if_pos e5, bd2_s, if_neg i1_0]
        obtain ⟨T, u1, u2⟩ := q_br (S0 := S) [114, 101, 118] (by decide : 2 < 9) (by decide : 16 < 24) s2 (prI_3 e2 e4 e5) (h2.mv (q + 3)) FrV.rf.pI.pI.pI (fun _ => rfl) (by show q + 3 ≤ n; omega) hi hi2 hch
        refine ⟨T, ?_, u2⟩
        refine Eq.trans (congrArg (fun z => bd2 z _) u1) ?_
        rw [bd2_s, rz_b2]
      · rw [if_neg e5, if_neg e5, bd2_s, if_pos rfl]
        obtain ⟨T, u1, u2⟩ := q_br (S0 := S) [114, 101] (by decide : 3 < 9) (by decide : 17 < 24) s3 (prI_2 e2 e4) h2 FrV.rf.pI.pI (fun _ => rfl) (by show q + 2 ≤ n; omega) hi hi2 hch
        refine ⟨T, ?_, u2⟩
        refine Eq.trans (congrArg (fun z => bd2 z _) u1) ?_
        rw [bd2_s, rz_b2]
    · rw [if_neg e4, if_neg e4, bd2_s, if_pos rfl]
      exact ⟨_, rfl, h1, FrV.rf.pI, fun _ _ => rfl, fun z => absurd z Bool.false_ne_true⟩
  rw [if_neg e2, if_neg e2, bd2_s, if_pos rfl, q_skips h (by omega)]
  by_cases e3 : sg n ch q = 105
  · rw [if_pos e3, if_pos e3, bd2_s, if_neg i1_0]
    exact g1 5 20 105 (by decide) (by decide) s5 e3 (by decide)
  rw [if_neg e3, if_neg e3, bd2_s, if_pos rfl, q_skips h (by omega)]
  by_cases e4 : sg n ch q = 100
  · rw [if_pos e4, if_pos e4, bd2_s, if_neg i1_0]
    exact g1 6 21 100 (by decide) (by decide) s6 e4 (by decide)
  rw [if_neg e4, if_neg e4, bd2_s, if_pos rfl, q_skips h (by omega)]
  by_cases e5 : sg n ch q = 115
  · rw [if_pos e5, if_pos e5, bd2_s, if_neg i1_0]
    exact g1 7 22 115 (by decide) (by decide) s7 e5 (by decide)
  rw [if_neg e5, if_neg e5, bd2_s, if_pos rfl, q_skips h (by omega)]
  by_cases e6 : sg n ch q = 119
  · rw [if_pos e6, if_pos e6, bd2_s, if_neg i1_0]
    exact g1 8 23 119 (by decide) (by decide) s8 e6 (by decide)
  rw [if_neg e6, if_neg e6, bd2_s, if_pos rfl]
  exact ⟨S, rfl, h, FrV.rf, fun _ _ => rfl, fun z => absurd z Bool.false_ne_true⟩
end RD7

/-! ===== a command read by the reference ===== -/
def RX (S : Wo) (n : Nat) (ch : Nat → Int32) (q : Nat) : Prop := n ≤ 60 ∧ S.1 166 14 = nI n ∧ (∀ i, i < n → S.2.1 172 i = ch i) ∧ S.1 166 18 = nI q
def FrV (S T : Wo) : Prop := (∀ a, a ≠ 166 → T.1 a = S.1 a) ∧ (∀ k, k ≠ 18 → T.1 166 k = S.1 166 k) ∧ (∀ a, a ≠ 174 → T.2.1 a = S.2.1 a) ∧ T.2.2 = S.2.2
theorem FrV.rf {S : Wo} : FrV S S := ⟨fun _ _ => rfl, fun _ _ => rfl, fun _ _ => rfl, rfl⟩
theorem FrV.tr {S T U : Wo} (h1 : FrV S T) (h2 : FrV T U) : FrV S U := ⟨fun a h => (h2.1 a h).trans (h1.1 a h), fun a h => (h2.2.1 a h).trans (h1.2.1 a h), fun a h => (h2.2.2.1 a h).trans (h1.2.2.1 a h), h2.2.2.2.trans h1.2.2.2⟩
theorem FrV.pI {S T : Wo} {v : Int32} (h : FrV S T) : FrV S (pI T 166 18 v) := h.tr ⟨fun a ha => pI_ne ha, fun k hk => pI_k hk, fun _ _ => rfl, rfl⟩
theorem FrV.pF {S T : Wo} {f : Nat → Int32} (h : FrV S T) : FrV S (pF T 174 f) := h.tr ⟨fun _ _ => rfl, fun _ _ => rfl, fun a ha => pF_ne ha, rfl⟩
theorem RX.mv {S : Wo} {n : Nat} {ch : Nat → Int32} {q : Nat} (h : RX S n ch q) (r : Nat) : RX (pI S 166 18 (nI r)) n ch r := ⟨h.1, by rw [pI_k (by decide)]; exact h.2.1, h.2.2.1, pI_at _ _ _ _⟩
theorem RX.pF {S : Wo} {n : Nat} {ch : Nat → Int32} {q : Nat} (h : RX S n ch q) (f : Nat → Int32) : RX (pF S 174 f) n ch q := ⟨h.1, h.2.1, by rw [pF_ne (by decide)]; exact h.2.2.1, h.2.2.2⟩
section RC7
variable {n q : Nat} {ch : Nat → Int32}
theorem q_here {S : Wo} (h : RX S n ch q) (hq : q < 1000) : spX7_here S = some (sg n ch q) := by
  obtain ⟨h0, h1, h2, h3⟩ := h
  unfold spX7_here sg
  rw [h1, h3]
  by_cases e : q < n
  · rw [if_neg (nI_ge e (by omega)), if_pos e, if_pos (q_in (by omega) (by decide)), q_ix (by omega), h2 q e]
  · rw [if_pos (nI_le (by omega) (by omega)), if_neg e]
theorem q_skips {S : Wo} (h : RX S n ch q) (hq : q < 1000) (c : Int32) : spX7_skips c S = some (if sg n ch q = c then (1, pI S 166 18 (nI (q + 1))) else (0, S)) := by
  unfold spX7_skips
  rw [q_here h hq, Option.bind_some, h.2.2.2]
  by_cases e : sg n ch q = c
  · rw [if_pos e, if_pos e, wr_eq, nI_1]; rfl
  · rw [if_neg e, if_neg e]; rfl
theorem byt_ne : ∀ t, t < 24 → ∀ c ∈ bytL.getD t [], ¬ c = -1 := by decide +kernel
theorem q_isw {S : Wo} {i t : Nat} {p : Int32} (h : RX S n ch q) (hq : q ≤ n) (ht : t < 24) (hi : S.1 166 20 = nI i) (hi2 : i ≤ 30) : ∃ T, spX7_isWord p t S = some (b2 (decide (prI n ch (bytL.getD t []) q = (bytL.getD t []).length)), T) ∧ RX T n ch (q + prI n ch (bytL.getD t []) q) ∧ FrV S T ∧ T.2.1 174 = upd (S.2.1 174) (4 * i) p := by
  have hl := len_9 t ht
  have hn := h.1
  have key : ∀ (rest front : List Int32) f q (S : Wo), bytL.getD t [] = front ++ rest → rest.length < f → RX S n ch q → q ≤ n → ∃ T, lpX7_isWord_14 p t f (nI front.length) S = some (b2 (decide (prI n ch rest q = rest.length)), T) ∧ RX T n ch (q + prI n ch rest q) ∧ FrV S T ∧ T.2 = S.2 := by
    intro rest
    induction rest with
    | nil =>
      intro front f q S h1 h2 h3 hq
      obtain ⟨g, rfl⟩ : ∃ g, f = g + 1 := ⟨f - 1, by omega⟩
      rw [List.append_nil] at h1
      rw [lpX7_isWord_14, q_sl S t ht, Option.bind_some, h1, if_pos (nI_le (Nat.le_refl _) (by rw [← h1]; omega))]
      exact ⟨S, rfl, h3, FrV.rf, rfl⟩
    | cons c cs ih =>
      intro front f q S h1 h2 h3 hq
      obtain ⟨g, rfl⟩ : ∃ g, f = g + 1 := ⟨f - 1, by omega⟩
      have hlen : (bytL.getD t []).length = front.length + (cs.length + 1) := by rw [h1, List.length_append, List.length_cons]
      have hget : (bytL.getD t []).getD front.length 0 = c := by rw [h1]; simp
      have hc : ¬ c = -1 := byt_ne t ht c (by rw [h1]; simp)
      rw [lpX7_isWord_14, q_sl S t ht, Option.bind_some, if_neg (nI_ge (by omega) (by omega)), q_sc S t ht _ (by omega) (by omega), Option.bind_some, hget, q_skips h3 (by omega), prI]
      by_cases e : sg n ch q = c
      · have hq2 : q < n := by
          by_cases z : q < n
          · exact z
          · exfalso
            unfold sg at e
            rw [if_neg z] at e
            exact hc e.symm
        rw [if_pos e, if_pos e, bd2_s, if_neg i1_0, nI_1]
        obtain ⟨T, e1, e2, e3, e4⟩ := ih (front ++ [c]) g (q + 1) _ (by rw [h1, List.append_assoc]; rfl) (by rw [List.length_cons] at h2; omega) (h3.mv (q + 1)) hq2
        rw [List.length_append, List.length_singleton] at e1
        refine ⟨T, ?_, ?_, FrV.rf.pI.tr e3, e4⟩
        · rw [e1, List.length_cons]
          congr 3
          rw [decide_eq_decide]
          omega
        · rw [show q + (1 + prI n ch cs (q + 1)) = q + 1 + prI n ch cs (q + 1) by omega]
          exact e2
      · rw [if_neg e, if_neg e, bd2_s, if_pos rfl, List.length_cons]
        refine ⟨S, ?_, h3, FrV.rf, rfl⟩
        rw [decide_eq_false (by omega)]
        rfl
  unfold spX7_isWord
  have e0 : (4 : Int32) * nI i = nI (4 * i) := q_mul (a := 4) (b := i)
  rw [hi, e0, if_pos (q_in (by omega) (by decide)), wr_eq, q_ix (by omega)]
  obtain ⟨T, e1, e2, e3, e4⟩ := key (bytL.getD t []) [] 200 q (pF S 174 (upd (S.2.1 174) (4 * i) p)) rfl (by omega) (h.pF _) hq
  refine ⟨T, e1, e2, FrV.rf.pF.tr e3, ?_⟩
  rw [e4, pF_at]
/-- a sign, then digits -/
theorem q_fig {S : Wo} {p m : Nat} {s : Int32} (h : RX S n ch q) (hq : q ≤ n) (hp : p < 124) (hm : m = 1 ∨ m = 2) (hs : s ≠ -1) : ∃ T, spX7_figures s (nI p) (nI m) S = some (b2 (pgs n ch [(s, m)] q).1, T) ∧ RX T n ch (pgs n ch [(s, m)] q).2.1 ∧ FrV S T ∧ (∀ j, j ≠ p → T.2.1 174 j = S.2.1 174 j) ∧ ((pgs n ch [(s, m)] q).1 = true → T.2.1 174 p = nI ((pgs n ch [(s, m)] q).2.2.getD 0 0)) := by
  have hn := h.1
  have v48 : ∀ v, v < 10 → nI (48 + v) - 48 = nI v ∧ True := fun v hv => ⟨by
    show nI (48 + v) - nI 48 = nI v
    rw [q_sub (by omega)]
    congr 1
    omega, trivial⟩
  have cls : ∀ (c : Int32) (S : Wo), (isd c = none → spX7_in c 48 57 S = some 0) ∧ (∀ v, isd c = some v → spX7_in c 48 57 S = some 1) := by
    intro c S
    refine ⟨fun e => ?_, fun v e => ?_⟩
    · unfold spX7_in
      rcases isd_none e with e | ⟨e1, e2⟩
      · rw [if_pos e]; rfl
      · rw [if_neg e1, if_pos]
        · rfl
        · rw [Int32.le_iff_toInt_le] at e2
          rw [Int32.lt_iff_toInt_lt]
          omega
    · obtain ⟨hv, rfl⟩ := isd_some e
      unfold spX7_in
      rw [if_neg (show ¬ nI (48 + v) < (48 : Int32) from show ¬ nI (48 + v) < nI 48 from nI_nlt (by omega) (by omega)), if_neg (show ¬ (57 : Int32) < nI (48 + v) from show ¬ nI 57 < nI (48 + v) from nI_nlt (by omega) (by decide))]
      rfl
  have e10 : ∀ a v, v < 10 → a < 10 → (10 * nI a + nI (48 + v)) - 48 = nI (10 * a + v) := by
    intro a v hv ha
    show (nI 10 * nI a + nI (48 + v)) - nI 48 = nI (10 * a + v)
    rw [q_mul, nI_add, q_sub (by omega)]
    congr 1
    omega
  rw [pgs]
  unfold spX7_figures
  rw [q_skips h (by omega)]
  by_cases e1 : sg n ch q = s
  · have hq2 : q < n := by
      by_cases z : q < n
      · exact z
      · exfalso
        unfold sg at e1
        rw [if_neg z] at e1
        exact hs e1.symm
    have h1 := h.mv (q + 1)
    rw [if_pos e1, if_pos e1, bd2_s, if_neg i1_0, q_here h1 (by omega), Option.bind_some]
    cases hd : isd (sg n ch (q + 1)) with
    | none =>
      rw [(cls _ _).1 hd, Option.bind_some, if_pos rfl, rdn_0 hd, if_pos rfl]
      exact ⟨_, rfl, h1, FrV.rf.pI, fun _ _ => rfl, fun z => absurd z Bool.false_ne_true⟩
    | some v =>
      have hv := (isd_some hd).1
      have hc := (isd_some hd).2
      have hq3 := sg_dig hd
      have h2 := h1.pF (upd ((pI S 166 18 (nI (q + 1))).2.1 174) p 0)
      rw [(cls _ _).2 v hd, Option.bind_some, if_neg i1_0, if_pos (q_in hp (by decide)), wr_eq, q_ix (by omega)]
      show ∃ T, lpX7_figures_34 s (nI p) (nI m) (199 + 1) (nI 0) _ = _ ∧ _
      rw [lpX7_figures_34, if_neg (nI_ge (by omega) (by omega)), q_here h2 (by omega), Option.bind_some, (cls _ _).2 v hd, Option.bind_some, if_neg i1_0, if_pos (q_in hp (by decide)), Option.bind_some, if_pos (q_in hp (by decide)), wr_eq, wr_eq, q_ix (by omega), pF_at, u_at, nI_1, hc]
      have e0 : (10 * (0 : Int32) + nI (48 + v)) - 48 = nI v := by
        have := e10 0 v hv (by decide)
        rw [Nat.mul_zero, Nat.zero_add] at this
        exact this
      rw [e0]
      have hS3 : ∀ U : Wo, U = pI (pF (pF (pI S 166 18 (nI (q + 1))) 174 (upd ((pI S 166 18 (nI (q + 1))).2.1 174) p 0)) 174 (upd (upd ((pI S 166 18 (nI (q + 1))).2.1 174) p 0) p (nI v))) 166 18 (nI (q + 2)) → RX U n ch (q + 2) ∧ FrV S U ∧ (∀ j, j ≠ p → U.2.1 174 j = S.2.1 174 j) ∧ U.2.1 174 p = nI v := by
        rintro U rfl
        refine ⟨(h2.pF _).mv (q + 2), FrV.rf.pI.pF.pF.pI, fun j hj => ?_, ?_⟩
        · rw [pI_2, pF_at, u_ne hj, u_ne hj]; rfl
        · rw [pI_2, pF_at, u_at]
      have epos : (pF (pF (pI S 166 18 (nI (q + 1))) 174 (upd ((pI S 166 18 (nI (q + 1))).2.1 174) p 0)) 174 (upd (upd ((pI S 166 18 (nI (q + 1))).2.1 174) p 0) p (nI v))).1 166 18 = nI (q + 1) := pI_at S 166 18 (nI (q + 1))
      rw [epos, nI_1]
      obtain ⟨r1, r2, r3, r4⟩ := hS3 _ rfl
      generalize pI (pF (pF (pI S 166 18 (nI (q + 1))) 174 (upd ((pI S 166 18 (nI (q + 1))).2.1 174) p 0)) 174 (upd (upd ((pI S 166 18 (nI (q + 1))).2.1 174) p 0) p (nI v))) 166 18 (nI (q + 1 + 1)) = U at r1 r2 r3 r4 ⊢
      show ∃ T, lpX7_figures_34 s (nI p) (nI m) (198 + 1) (nI (0 + 1)) U = _ ∧ _
      rw [lpX7_figures_34]
      by_cases em : m ≤ 1
      · rw [if_pos (nI_le (by omega) (by omega)), rdn_1 hd em, if_neg (show ¬ (1 : Nat) = 0 by decide)]
        exact ⟨U, rfl, r1, r2, r3, fun _ => r4⟩
      · rw [if_neg (nI_ge (by omega) (by omega)), q_here r1 (by omega), Option.bind_some]
        cases hd2 : isd (sg n ch (q + 1 + 1)) with
        | none =>
          have hd2' : isd (sg n ch (q + 2)) = none := hd2
          rw [(cls _ _).1 hd2', Option.bind_some, if_pos rfl, rdn_2 hd em hd2, if_neg (show ¬ (1 : Nat) = 0 by decide)]
          exact ⟨U, rfl, r1, r2, r3, fun _ => r4⟩
        | some u =>
          have hd2' : isd (sg n ch (q + 2)) = some u := hd2
          have hu := (isd_some hd2').1
          have hcu := (isd_some hd2').2
          have hq4 := sg_dig hd2'
          rw [(cls _ _).2 u hd2', Option.bind_some, if_neg i1_0, if_pos (q_in hp (by decide)), Option.bind_some, if_pos (q_in hp (by decide)), wr_eq, wr_eq, q_ix (by omega), r4, hcu, e10 v u hu hv]
          have epos2 : (pF U 174 (upd (U.2.1 174) p (nI (10 * v + u)))).1 166 18 = nI (q + 2) := r1.2.2.2
          rw [epos2, nI_1, nI_1, rdn_3 hd em hd2, if_neg (show ¬ (2 : Nat) = 0 by decide)]
          show ∃ T, lpX7_figures_34 s (nI p) (nI m) (197 + 1) _ _ = _ ∧ _
          rw [lpX7_figures_34, if_pos (nI_le (by omega) (by omega))]
          refine ⟨_, rfl, (r1.pF _).mv (q + 2 + 1), r2.tr FrV.rf.pF.pI, fun j hj => ?_, fun _ => ?_⟩
          · rw [pI_2, pF_at, u_ne hj]; exact r3 j hj
          · rw [pI_2, pF_at, u_at]; rfl
  · rw [if_neg e1, if_neg e1, bd2_s, if_pos rfl]
    exact ⟨S, rfl, h, FrV.rf, fun _ _ => rfl, fun z => absurd z Bool.false_ne_true⟩
end RC7

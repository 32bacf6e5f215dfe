/-! ===== the eight changes of the reference ===== -/
def K7 (wi : Bool) (x : AX) (S : Wo) (sp : Option (Int32 × Wo)) (c : Co) (code : Nat → Nat) : Prop :=
  ∃ b T, sp = some (b, T) ∧ FrR S T ∧ C7w wi (apx wi x c) T ∧ (c.1 = 0 → T.1 166 9 = 0 ∧ b = nI c.2.1) ∧ (c.1 ≠ 0 → T.1 166 9 = nI (code c.1) ∧ T.1 166 8 = b2 (decide (c.1 = 3)) ∧ b = 0)
theorem setD_id (x : AX) : setD x (xD x) = x := rfl
section KK7
variable {wi : Bool} {x : AX} {S : Wo} {code : Nat → Nat}
theorem K7.bad {sp : Option (Int32 × Wo)} {k : Nat} (hk : k = 1 ∨ k = 2) (h : C7w wi x S) (e : sp = some (0, flS S (nI (code k)))) : K7 wi x S sp (k, 0, xA x, xD x) code := by
  refine ⟨0, _, e, FrR.rf.fl, ?_, fun q => ?_, fun _ => ⟨flS_9 _ _, ?_, rfl⟩⟩
  · have e0 : apx wi x (k, 0, xA x, xD x) = x := by
      unfold apx
      rw [if_neg (by show ¬ k = 0; omega)]
      rfl
    rw [e0]
    exact h.fl _
  · have q : k = 0 := q
    omega
  · show (flS S _).1 166 8 = b2 (decide (k = 3))
    rw [decide_eq_false (by omega : ¬ k = 3)]
    unfold flS
    rw [pI_at]; rfl
theorem K7.den {sp : Option (Int32 × Wo)} {a b : Int32} {A : As} {S0 : Wo} (h : C7w wi x S0) (hf : FrR S S0) (e : sp = some (0, dn7 S0 (nI (code 3)) a b)) : K7 wi x S sp (3, 0, A, (a, b, 0)) code := by
  refine ⟨0, _, e, hf.tr (dn7_fr _ _ _ _), ?_, fun q => ?_, fun _ => ⟨dn7_9 _ _ _ _, dn7_8 _ _ _ _, rfl⟩⟩
  · exact h.dn _ _ _
  · have q : 3 = 0 := q
    omega
theorem K7.ok {sp : Option (Int32 × Wo)} {v : Nat} {B : As} {S1 : Wo} {g : Nat → Int32} (e : sp = some (nI v, pF S1 167 g)) (h : C7w wi (pusX wi x (xA x)) S1) (hg : RG g B) (hf : FrR S S1) (h9 : S1.1 166 9 = 0) : K7 wi x S sp (0, v, B, xD x) code := by
  refine ⟨_, _, e, hf.pF (by decide), ?_, fun _ => ⟨h9, rfl⟩, fun q => absurd rfl q⟩
  show C7w wi (if 0 = 0 then setA (pusX wi x (xA x)) B else _) _
  rw [if_pos rfl]
  exact h.g hg
end KK7
/-! rows of the reference under each change -/
section RGW
variable {g : Nat → Int32} {D : Nat} {A : As}
theorem rg_reg (h : RG g A) (hn : aN A < 10) (f : Nat) : RG (upd (upd g (5 + aN A) (nI f)) 0 (nI (aN A + 1))) (regA A f) := by
  obtain ⟨⟨a1, a2, a3, a4, a5, a6⟩, b, c, d⟩ := h
  refine ⟨⟨?_, ?_, ?_, ?_, ?_, ?_⟩, fun k hk => ?_, fun k hk => ⟨?_, ?_, ?_, ?_⟩, fun f' hf => ?_⟩
  · rw [u_at]; rfl
  · rw [u_ne (by omega), u_ne (by omega)]; exact a2
  · rw [u_ne (by omega), u_ne (by omega)]; exact a3
  · rw [u_ne (by omega), u_ne (by omega)]; exact a4
  · rw [u_ne (by omega), u_ne (by omega)]; exact a5
  · rw [u_ne (by omega), u_ne (by omega)]; exact a6
  · have hk : k < aN A + 1 := hk
    show _ = nI (putc (aF A) (aN A) f k)
    rw [u_ne (by omega)]
    by_cases e : k = aN A
    · subst e; rw [u_at, putc_at]
    · rw [u_ne (by omega), putc_ne e]; exact b k (by omega)
  · rw [u_ne (by omega), u_ne (by omega)]; exact (c k hk).1
  · rw [u_ne (by omega), u_ne (by omega)]; exact (c k hk).2.1
  · rw [u_ne (by omega), u_ne (by omega)]; exact (c k hk).2.2.1
  · rw [u_ne (by omega), u_ne (by omega)]; exact (c k hk).2.2.2
  · rw [u_ne (by omega), u_ne (by omega)]; exact d f' hf
theorem rg_mov (h : RG g A) (w : WF0 D A) {s : Nat} (hs : s < aN A) (f : Nat) : RG (upd g (5 + s) (nI f)) (movA A s f) := by
  obtain ⟨⟨a1, a2, a3, a4, a5, a6⟩, b, c, d⟩ := h
  have hn := w.1.1
  refine ⟨⟨?_, ?_, ?_, ?_, ?_, ?_⟩, fun k hk => ?_, fun k hk => ⟨?_, ?_, ?_, ?_⟩, fun f' hf => ?_⟩
  · rw [u_ne (by omega)]; exact a1
  · rw [u_ne (by omega)]; exact a2
  · rw [u_ne (by omega)]; exact a3
  · rw [u_ne (by omega)]; exact a4
  · rw [u_ne (by omega)]; exact a5
  · rw [u_ne (by omega)]; exact a6
  · show _ = nI (putc (aF A) s f k)
    by_cases e : k = s
    · subst e; rw [u_at, putc_at]
    · rw [u_ne (by omega), putc_ne e]; exact b k hk
  · rw [u_ne (by omega)]; exact (c k hk).1
  · rw [u_ne (by omega)]; exact (c k hk).2.1
  · rw [u_ne (by omega)]; exact (c k hk).2.2.1
  · rw [u_ne (by omega)]; exact (c k hk).2.2.2
  · rw [u_ne (by omega)]; exact d f' hf
/-- one of the first five numbers, or the revoked -/
theorem rg_rev (h : RG g A) (w : WF0 D A) (s : Nat) : RG (upd g 15 (aR A ^^^ shb s)) (revA A s) := by
  obtain ⟨⟨a1, a2, a3, a4, a5, a6⟩, b, c, d⟩ := h
  have hn := w.1.1
  refine ⟨⟨?_, ?_, ?_, ?_, ?_, ?_⟩, fun k hk => ?_, fun k hk => ⟨?_, ?_, ?_, ?_⟩, fun f' hf => ?_⟩
  · rw [u_ne (by omega)]; exact a1
  · rw [u_at]; rfl
  · rw [u_ne (by omega)]; exact a3
  · rw [u_ne (by omega)]; exact a4
  · rw [u_ne (by omega)]; exact a5
  · rw [u_ne (by omega)]; exact a6
  · have hk : k < aN A := hk
    rw [u_ne (by omega)]; exact b k hk
  · rw [u_ne (by omega)]; exact (c k hk).1
  · rw [u_ne (by omega)]; exact (c k hk).2.1
  · rw [u_ne (by omega)]; exact (c k hk).2.2.1
  · rw [u_ne (by omega)]; exact (c k hk).2.2.2
  · rw [u_ne (by omega)]; exact d f' hf
theorem rg_day (h : RG g A) (w : WF0 D A) : RG (upd g 2 (nI (aD A + 1))) (dayA A) := by
  obtain ⟨⟨a1, a2, a3, a4, a5, a6⟩, b, c, d⟩ := h
  refine ⟨⟨?_, ?_, ?_, ?_, ?_, ?_⟩, fun k hk => ?_, fun k hk => ⟨?_, ?_, ?_, ?_⟩, fun f' hf => ?_⟩
  · rw [u_ne (by omega)]; exact a1
  · rw [u_ne (by omega)]; exact a2
  · rw [u_ne (by omega)]; exact a3
  · rw [u_at]; rfl
  · rw [u_ne (by omega)]; exact a5
  · rw [u_ne (by omega)]; exact a6
  · rw [u_ne (by omega)]; exact b k hk
  · rw [u_ne (by omega)]; exact (c k hk).1
  · rw [u_ne (by omega)]; exact (c k hk).2.1
  · rw [u_ne (by omega)]; exact (c k hk).2.2.1
  · rw [u_ne (by omega)]; exact (c k hk).2.2.2
  · rw [u_ne (by omega)]; exact d f' hf
theorem rg_cnt (h : RG g A) (n : Nat) : RG (upd g 3 (aE A + nI n)) (cntA A n) := by
  obtain ⟨⟨a1, a2, a3, a4, a5, a6⟩, b, c, d⟩ := h
  refine ⟨⟨?_, ?_, ?_, ?_, ?_, ?_⟩, fun k hk => ?_, fun k hk => ⟨?_, ?_, ?_, ?_⟩, fun f' hf => ?_⟩
  · rw [u_ne (by omega)]; exact a1
  · rw [u_ne (by omega)]; exact a2
  · rw [u_ne (by omega)]; exact a3
  · rw [u_ne (by omega)]; exact a4
  · rw [u_at]; rfl
  · rw [u_ne (by omega)]; exact a6
  · rw [u_ne (by omega)]; exact b k hk
  · rw [u_ne (by omega)]; exact (c k hk).1
  · rw [u_ne (by omega)]; exact (c k hk).2.1
  · rw [u_ne (by omega)]; exact (c k hk).2.2.1
  · rw [u_ne (by omega)]; exact (c k hk).2.2.2
  · rw [u_ne (by omega)]; exact d f' hf
theorem rg_gr (h : RG g A) (w : WF0 D A) {f : Nat} (hf : f < 16) (v : Nat) : RG (upd g (16 + f) (nI v)) (A.1, aF A, aC A, putc (aG A) f v) := by
  obtain ⟨⟨a1, a2, a3, a4, a5, a6⟩, b, c, d⟩ := h
  have hn := w.1.1
  refine ⟨⟨?_, ?_, ?_, ?_, ?_, ?_⟩, fun k hk => ?_, fun k hk => ⟨?_, ?_, ?_, ?_⟩, fun f' hf' => ?_⟩
  · rw [u_ne (by omega)]; exact a1
  · rw [u_ne (by omega)]; exact a2
  · rw [u_ne (by omega)]; exact a3
  · rw [u_ne (by omega)]; exact a4
  · rw [u_ne (by omega)]; exact a5
  · rw [u_ne (by omega)]; exact a6
  · have hk : k < aN A := hk
    rw [u_ne (by omega)]; exact b k hk
  · rw [u_ne (by omega)]; exact (c k hk).1
  · rw [u_ne (by omega)]; exact (c k hk).2.1
  · rw [u_ne (by omega)]; exact (c k hk).2.2.1
  · rw [u_ne (by omega)]; exact (c k hk).2.2.2
  · show _ = nI (putc (aG A) f v f')
    by_cases e : f' = f
    · subst e; rw [u_at, putc_at]
    · rw [u_ne (by omega), putc_ne e]; exact d f' hf'
theorem rg_sown (h : RG g A) (n : Nat) : RG (upd g 4 (aW A + nI n)) ((aN A, aR A, aM A, aD A, aE A, aW A + nI n), A.2) := by
  obtain ⟨⟨a1, a2, a3, a4, a5, a6⟩, b, c, d⟩ := h
  refine ⟨⟨?_, ?_, ?_, ?_, ?_, ?_⟩, fun k hk => ?_, fun k hk => ⟨?_, ?_, ?_, ?_⟩, fun f' hf => ?_⟩
  · rw [u_ne (by omega)]; exact a1
  · rw [u_ne (by omega)]; exact a2
  · rw [u_ne (by omega)]; exact a3
  · rw [u_ne (by omega)]; exact a4
  · rw [u_ne (by omega)]; exact a5
  · rw [u_at]; rfl
  · rw [u_ne (by omega)]; exact b k hk
  · rw [u_ne (by omega)]; exact (c k hk).1
  · rw [u_ne (by omega)]; exact (c k hk).2.1
  · rw [u_ne (by omega)]; exact (c k hk).2.2.1
  · rw [u_ne (by omega)]; exact (c k hk).2.2.2
  · rw [u_ne (by omega)]; exact d f' hf
theorem rg_add (h : RG g A) (w : WF0 D A) (hm : aM A < 20) {i s d : Nat} (hs : s < aN A) : RG (upd (upd (upd (upd (upd g (32 + 4 * aM A + 0) (cIs i)) (32 + 4 * aM A + 1) (nI s)) (32 + 4 * aM A + 2) (nI (aF A s))) (32 + 4 * aM A + 3) (nI (aD A + d))) 1 (nI (aM A + 1))) (addA A i s d) := by
  obtain ⟨⟨a1, a2, a3, a4, a5, a6⟩, b, c, dd⟩ := h
  have hn := w.1.1
  have hc : ∀ k, aC (addA A i s d) k = putc (aC A) (aM A) (i, s, aF A s, aD A + d) k := fun _ => rfl
  refine ⟨⟨?_, ?_, ?_, ?_, ?_, ?_⟩, fun k hk => ?_, fun k hk => ?_, fun f' hf => ?_⟩
  · rw [u_ne (by omega), u_ne (by omega), u_ne (by omega), u_ne (by omega), u_ne (by omega)]; exact a1
  · rw [u_ne (by omega), u_ne (by omega), u_ne (by omega), u_ne (by omega), u_ne (by omega)]; exact a2
  · rw [u_at]; rfl
  · rw [u_ne (by omega), u_ne (by omega), u_ne (by omega), u_ne (by omega), u_ne (by omega)]; exact a4
  · rw [u_ne (by omega), u_ne (by omega), u_ne (by omega), u_ne (by omega), u_ne (by omega)]; exact a5
  · rw [u_ne (by omega), u_ne (by omega), u_ne (by omega), u_ne (by omega), u_ne (by omega)]; exact a6
  · have hk : k < aN A := hk
    rw [u_ne (by omega), u_ne (by omega), u_ne (by omega), u_ne (by omega), u_ne (by omega)]; exact b k hk
  · have hk : k < aM A + 1 := hk
    rw [hc]
    by_cases e : k = aM A
    · subst e
      rw [putc_at]
      refine ⟨?_, ?_, ?_, ?_⟩
      · rw [u_ne (by omega), u_ne (by omega), u_ne (by omega), u_ne (by omega), u_at]
      · rw [u_ne (by omega), u_ne (by omega), u_ne (by omega), u_at]
      · rw [u_ne (by omega), u_ne (by omega), u_at]
      · rw [u_ne (by omega), u_at]
    · rw [putc_ne e]
      obtain ⟨c1, c2, c3, c4⟩ := c k (by omega)
      refine ⟨?_, ?_, ?_, ?_⟩
      · rw [u_ne (by omega), u_ne (by omega), u_ne (by omega), u_ne (by omega), u_ne (by omega)]; exact c1
      · rw [u_ne (by omega), u_ne (by omega), u_ne (by omega), u_ne (by omega), u_ne (by omega)]; exact c2
      · rw [u_ne (by omega), u_ne (by omega), u_ne (by omega), u_ne (by omega), u_ne (by omega)]; exact c3
      · rw [u_ne (by omega), u_ne (by omega), u_ne (by omega), u_ne (by omega), u_ne (by omega)]; exact c4
  · rw [u_ne (by omega), u_ne (by omega), u_ne (by omega), u_ne (by omega), u_ne (by omega)]; exact dd f' hf
end RGW
/-! a certificate taken out -/
def dr1 (g : Nat → Int32) (i u : Nat) : Nat → Int32 := fun k => if 32 + 4 * i ≤ k ∧ k < 32 + 4 * i + u then g (k + 4) else g k
def dr2 (g : Nat → Int32) (z u : Nat) : Nat → Int32 := fun k => if z ≤ k ∧ k < z + u then 0 else g k
theorem q_d54 {S : Wo} {g : Nat → Int32} {m : Nat} {p : Int32} (hm : m < 20) (hg : g 1 = nI m) : lpX7_drops_54 p 200 0 (pF S 167 g) = some (pF S 167 (dr2 g (32 + 4 * m) 4)) := by
  have e0 : g = dr2 g (32 + 4 * m) 0 := by
    funext k
    unfold dr2
    rw [if_neg (by omega)]
  have key := lp_up (L := fun f u => lpX7_drops_54 p f (nI u) (pF S 167 (dr2 g (32 + 4 * m) u))) (m := 4) (r := some (pF S 167 (dr2 g (32 + 4 * m) 4))) (fun f u hu => by
    show lpX7_drops_54 p (f + 1) (nI u) (pF S 167 (dr2 g (32 + 4 * m) u)) = lpX7_drops_54 p f (nI (u + 1)) (pF S 167 (dr2 g (32 + 4 * m) (u + 1)))
    have e1 : dr2 g (32 + 4 * m) u 1 = nI m := by unfold dr2; rw [if_neg (by omega)]; exact hg
    have e2 : ((32 : Int32) + 4 * nI m) + nI u = nI (32 + 4 * m + u) := by show (nI 32 + nI 4 * nI m) + nI u = _; rw [q_mul, nI_add, nI_add]
    rw [lpX7_drops_54, if_neg (show ¬ (4 : Int32) ≤ nI u from show ¬ nI 4 ≤ nI u from nI_ge hu (by decide)), if_pos in_1, ix_1, pF_at, e1, e2, if_pos (q_in (by omega) (by decide)), q_ix (by omega), wr_eq, pF_pF, nI_1]
    have e3 : upd (dr2 g (32 + 4 * m) u) (32 + 4 * m + u) 0 = dr2 g (32 + 4 * m) (u + 1) := by
      funext k
      unfold upd dr2
      by_cases e : k = 32 + 4 * m + u
      · subst e
        rw [if_pos rfl, if_pos (by omega)]
      · rw [if_neg e]
        by_cases e2 : 32 + 4 * m ≤ k ∧ k < 32 + 4 * m + u
        · rw [if_pos e2, if_pos (by omega)]
        · rw [if_neg e2, if_neg (by omega)]
    rw [e3]) (fun f => by
    show lpX7_drops_54 p (f + 1) (nI 4) _ = _
    rw [lpX7_drops_54, if_pos (by decide)]) 4 0 200 (by decide) (by decide)
  refine Eq.trans ?_ key
  exact congrArg (fun g' => lpX7_drops_54 p 200 0 (pF S 167 g')) e0
theorem q_d17 {S : Wo} {g : Nat → Int32} {m i : Nat} {p : Int32} (hm : m < 20) (hi : i ≤ m) (hg : g 1 = nI m) : lpX7_drops_17 p 200 (nI (32 + 4 * i)) (pF S 167 g) = some (pF S 167 (dr2 (dr1 g i (4 * (m - i))) (32 + 4 * m) 4)) := by
  have e0 : g = dr1 g i 0 := by
    funext k
    unfold dr1
    rw [if_neg (by omega)]
  have e1 : ∀ u, dr1 g i u 1 = nI m := fun u => by unfold dr1; rw [if_neg (by omega)]; exact hg
  have e2 : ((32 : Int32) + 4 * nI m) = nI (32 + 4 * m) := by show (nI 32 + nI 4 * nI m) = _; rw [q_mul, nI_add]
  have key := lp_up (L := fun f u => lpX7_drops_17 p f (nI (32 + 4 * i + u)) (pF S 167 (dr1 g i u))) (m := 4 * (m - i)) (r := some (pF S 167 (dr2 (dr1 g i (4 * (m - i))) (32 + 4 * m) 4))) (fun f u hu => by
    show lpX7_drops_17 p (f + 1) (nI (32 + 4 * i + u)) (pF S 167 (dr1 g i u)) = lpX7_drops_17 p f (nI (32 + 4 * i + (u + 1))) (pF S 167 (dr1 g i (u + 1)))
    have e4 : nI (32 + 4 * i + u) + 4 = nI (32 + 4 * i + u + 4) := by show nI (32 + 4 * i + u) + nI 4 = _; rw [nI_add]
    rw [lpX7_drops_17, if_pos in_1, ix_1, pF_at, e1, e2, if_neg (nI_ge (by omega) (by omega)), e4, if_pos (q_in (by omega) (by decide)), if_pos (q_in (by omega) (by decide)), q_ix (by omega), q_ix (by omega), wr_eq, pF_pF, nI_1]
    have e3 : upd (dr1 g i u) (32 + 4 * i + u) (dr1 g i u (32 + 4 * i + u + 4)) = dr1 g i (u + 1) := by
      funext k
      unfold upd dr1
      by_cases e : k = 32 + 4 * i + u
      · subst e
        rw [if_pos rfl, if_neg (by omega), if_pos (by omega)]
      · rw [if_neg e]
        by_cases e2 : 32 + 4 * i ≤ k ∧ k < 32 + 4 * i + u
        · rw [if_pos e2, if_pos (by omega)]
        · rw [if_neg e2, if_neg (by omega)]
    rw [e3]
    rfl) (fun f => by
    show lpX7_drops_17 p (f + 1) (nI (32 + 4 * i + 4 * (m - i))) (pF S 167 (dr1 g i (4 * (m - i)))) = _
    rw [lpX7_drops_17, if_pos in_1, ix_1, pF_at, e1, e2, if_pos (nI_le (by omega) (by omega))]
    exact q_d54 hm (e1 _)) (4 * (m - i)) 0 200 (by omega) (by omega)
  refine Eq.trans ?_ key
  exact congrArg (fun g' => lpX7_drops_17 p 200 (nI (32 + 4 * i)) (pF S 167 g')) e0
theorem q_drops {S : Wo} {D : Nat} {A : As} (h : RG (S.2.1 167) A) (w : WF0 D A) {i : Nat} (hi : i < aM A) : ∃ g, spX7_drops (nI i) S = some (pF S 167 g) ∧ RG g (remA A i) := by
  have hm := w.1.2.1
  have hn := w.1.1
  obtain ⟨⟨a1, a2, a3, a4, a5, a6⟩, b, c, d⟩ := h
  unfold spX7_drops
  have e2 : ((32 : Int32) + 4 * nI i) = nI (32 + 4 * i) := by show (nI 32 + nI 4 * nI i) = _; rw [q_mul, nI_add]
  have e3 : nI (aM A) - 1 = nI (aM A - 1) := q_sub (b := 1) (by omega)
  rw [if_pos in_1, if_pos in_1, ix_1, wr_eq, a3, e2, e3, q_d17 (m := aM A - 1) (by omega) (by omega) (u_at _ _ _)]
  refine ⟨_, rfl, ⟨⟨?_, ?_, ?_, ?_, ?_, ?_⟩, fun k hk => ?_, fun k hk => ?_, fun f' hf => ?_⟩⟩
  · unfold dr2 dr1; rw [if_neg (by omega), if_neg (by omega), u_ne (by omega)]; exact a1
  · unfold dr2 dr1; rw [if_neg (by omega), if_neg (by omega), u_ne (by omega)]; exact a2
  · unfold dr2 dr1; rw [if_neg (by omega), if_neg (by omega), u_at]; rfl
  · unfold dr2 dr1; rw [if_neg (by omega), if_neg (by omega), u_ne (by omega)]; exact a4
  · unfold dr2 dr1; rw [if_neg (by omega), if_neg (by omega), u_ne (by omega)]; exact a5
  · unfold dr2 dr1; rw [if_neg (by omega), if_neg (by omega), u_ne (by omega)]; exact a6
  · have hk : k < aN A := hk
    unfold dr2 dr1; rw [if_neg (by omega), if_neg (by omega), u_ne (by omega)]; exact b k hk
  · have hk : k < aM A - 1 := hk
    rw [remA_c]
    unfold dr2 dr1
    by_cases e : k < i
    · rw [if_pos e, if_neg (by omega), if_neg (by omega), u_ne (by omega), if_neg (by omega), if_neg (by omega), u_ne (by omega), if_neg (by omega), if_neg (by omega), u_ne (by omega), if_neg (by omega), if_neg (by omega), u_ne (by omega)]
      exact c k (by omega)
    · obtain ⟨c1, c2, c3, c4⟩ := c (k + 1) (by omega)
      rw [if_neg e, if_neg (by omega), if_pos (by omega), u_ne (by omega), if_neg (by omega), if_pos (by omega), u_ne (by omega), if_neg (by omega), if_pos (by omega), u_ne (by omega), if_neg (by omega), if_pos (by omega), u_ne (by omega)]
      refine ⟨?_, ?_, ?_, ?_⟩
      · rw [← c1]; congr 1
      · rw [← c2] ; congr 1 <;> omega
      · rw [← c3] ; congr 1 <;> omega
      · rw [← c4] ; congr 1 <;> omega
  · unfold dr2 dr1; rw [if_neg (by omega), if_neg (by omega), u_ne (by omega)]; exact d f' hf
/-! a day -/
theorem q_g19 : ∀ k (D : Nat) (B : As) (S : Wo) f, RG (S.2.1 167) B → WF0 D B → k ≤ aM B → k < f → (LV (expF k B)) → ∃ g, lpX7_goes_19 f (cIs k) S = some (nI (if nxtE (expF k B) = true then 1 else 0), pF S 167 g) ∧ RG g (if nxtE (expF k B) = true then cntA (eatA (expF k B) (lok (aD B))) 1 else expF k B)
  | 0, D, B, S, f, h, w, hk, hf, hl => by
    obtain ⟨g, rfl⟩ : ∃ g, f = g + 1 := ⟨f - 1, by omega⟩
    have hD := w.1.2.2.1
    have hD2 := w.1.2.2.2
    have hg := w.2.2.2 (lok (aD B)) (lok_lt _)
    have e7 : (7 : Int32) * nI (aD B) - 7 * nI (aD B) / 16 * 16 = nI (lok (aD B)) := by
      show nI 7 * nI (aD B) - nI 7 * nI (aD B) / nI 16 * nI 16 = _
      rw [q_mul, q_rem (by omega) (by decide)]; rfl
    rw [lpX7_goes_19, if_pos (by decide), if_pos in_2, q_day7 h, e7]
    simp only [nm]
    have es : S = pF S 167 (S.2.1 167) := by
      unfold pF
      refine Prod.ext rfl (Prod.ext ?_ rfl)
      funext b
      show S.2.1 b = if b = 167 then S.2.1 167 else S.2.1 b
      by_cases h : b = 167
      · rw [if_pos h, h]
      · rw [if_neg h]
    rw [if_pos (in_16 (lok_lt _)), ix_16 (lok_lt _), h.2.2.2 _ (lok_lt _), q_guards h w, Option.bind_some, q_has7 (by have := lok_lt (aD B); omega), Option.bind_some, gds_bt (lok_lt _)]
    show ∃ g', _ = some (nI (if nxtE B = true then 1 else 0), _) ∧ RG g' (if nxtE B = true then cntA (eatA B (lok (aD B))) 1 else B)
    have hne : nxtE B = (decide (0 < aG B (lok (aD B))) && !nr B (cfd B (aD B)) (lok (aD B))) := rfl
    by_cases e3 : 0 < aG B (lok (aD B))
    · rw [if_neg (nI_ne0 e3 (by omega))]
      cases e4 : nr B (cfd B (aD B)) (lok (aD B))
      · rw [if_pos b2_f, if_pos (in_16 (lok_lt _)), if_pos (in_16 (lok_lt _)), wr_eq, if_pos in_3, if_pos in_3, ix_3, wr_eq, pF_at, pF_pF, u_ne (by omega), h.1.2.2.2.2.1]
        rw [e4, decide_eq_true e3] at hne
        have hne : nxtE B = true := hne
        rw [hne, if_pos rfl, if_pos rfl]
        have es : nI (aG B (lok (aD B))) - 1 = nI (aG B (lok (aD B)) - 1) := q_sub (b := 1) (by omega)
        rw [es]
        exact ⟨_, rfl, rg_cnt (A := eatA B (lok (aD B))) (rg_gr h w (lok_lt _) _) 1⟩
      · rw [if_neg (show ¬ b2 true = 0 from by decide)]
        rw [e4, Bool.not_true, Bool.and_false] at hne
        rw [hne, if_neg (by decide), if_neg (by decide)]
        exact ⟨S.2.1 167, by rw [← es]; rfl, h⟩
    · have e0 : aG B (lok (aD B)) = 0 := by omega
      rw [if_pos (show nI (aG B (lok (aD B))) = 0 from by rw [e0]; rfl)]
      rw [decide_eq_false e3, Bool.false_and] at hne
      rw [hne, if_neg (by decide), if_neg (by decide)]
      exact ⟨S.2.1 167, by rw [← es]; rfl, h⟩
  | k + 1, D, B, S, f, h, w, hk, hf, hl => by
    obtain ⟨g, rfl⟩ : ∃ g, f = g + 1 := ⟨f - 1, by omega⟩
    have hm := w.1.2.1
    have w4 := (w.2.2.1 k (by omega)).2.2.2
    have hD := w.1.2.2.1
    have hD2 := w.1.2.2.2
    show ∃ g', lpX7_goes_19 (g + 1) (nI k) S = _ ∧ _
    rw [lpX7_goes_19, if_neg (nI_pos (by omega)), rg_l h w (by omega), Option.bind_some, if_pos in_2, q_day7 h, nI_dec]
    rw [expF] at hl ⊢
    by_cases e : (aC B k).2.2.2 < aD B
    · rw [if_pos e] at hl ⊢
      rw [if_neg (nI_ge e (by omega))]
      obtain ⟨g1, e1, r1⟩ := q_drops h w (i := k) (by omega)
      rw [e1, Option.bind_some]
      obtain ⟨g2, e2, r2⟩ := q_g19 k D (remA B k) (pF S 167 g1) g (by rw [pF_at]; exact r1) (wf0_rem w (by omega)) (by show k ≤ aM B - 1; omega) (by omega) hl
      rw [pF_pF] at e2
      exact ⟨g2, e2, r2⟩
    · rw [if_neg e] at hl ⊢
      rw [if_pos (nI_le (by omega) (by omega))]
      exact q_g19 k D B S g h w (by omega) (by omega) hl
theorem q_goes {D : Nat} {A : As} {S : Wo} (h : RG (S.2.1 167) A) (w : WF0 D A) (hD : D + 1 ≤ 1000000) : ∃ g, spX7_goes S = some (nI (nxtN A), pF S 167 g) ∧ RG g (cntA (nxtA A) (nxtN A)) := by
  have hm := w.1.2.1
  have wb := wf_nxtB w hD
  unfold spX7_goes
  rw [if_pos in_2, if_pos in_2, wr_eq, ix_2, h.1.2.2.2.1, nI_1, if_pos in_1, pF_at, ix_1, u_ne (by omega), h.1.2.2.1, nI_dec']
  obtain ⟨g, e, r⟩ := q_g19 (aM A) (D + 1) (dayA A) (pF S 167 (upd (S.2.1 167) 2 (nI (aD A + 1)))) 200 (by rw [pF_at]; exact rg_day h w) (wf0_day w hD) (Nat.le_refl _) (by omega) wb.2
  rw [pF_pF] at e
  have hb : expF (aM A) (dayA A) = nxtB A := rfl
  rw [hb] at e r
  refine ⟨g, by rw [e]; rfl, ?_⟩
  unfold nxtN nxtA
  by_cases q : nxtE (nxtB A) = true
  · rw [if_pos q] at r
    rw [if_pos q, if_pos q]
    have ed : aD (nxtB A) = aD (dayA A) := exp_d _ _
    rw [ed]
    exact r
  · rw [if_neg q] at r
    rw [if_neg q, if_neg q, cnt_0]
    exact r
theorem q_goesOn (p : Nat) (hp : p ≤ 100) : ∀ k t v n (D : Nat) (A : As) (S : Wo) f, t + k = p → k < f → RG (S.2.1 167) (cntA A n) → WF0 D A → D + k ≤ 1000000 → ∃ g, lpX7_goesOn_4 (nI p) f (nI v) (nI t) S = some (nI (v + dysN k A), pF S 167 g) ∧ RG g (cntA (dysA k A) (n + dysN k A))
  | 0, t, v, n, D, A, S, f, h1, h2, h, w, hD => by
    obtain ⟨g, rfl⟩ : ∃ g, f = g + 1 := ⟨f - 1, by omega⟩
    have es : S = pF S 167 (S.2.1 167) := by
      unfold pF
      refine Prod.ext rfl (Prod.ext ?_ rfl)
      funext b
      show S.2.1 b = if b = 167 then S.2.1 167 else S.2.1 b
      by_cases h : b = 167
      · rw [if_pos h, h]
      · rw [if_neg h]
    rw [lpX7_goesOn_4, if_pos (nI_le (by omega) (by omega))]
    exact ⟨S.2.1 167, by rw [← es]; rfl, h⟩
  | k + 1, t, v, n, D, A, S, f, h1, h2, h, w, hD => by
    obtain ⟨g, rfl⟩ : ∃ g, f = g + 1 := ⟨f - 1, by omega⟩
    rw [lpX7_goesOn_4, if_neg (nI_ge (by omega) (by omega))]
    obtain ⟨g1, e1, r1⟩ := q_goes h (D := D) (A := cntA A n) w (by omega)
    rw [nxtN_cnt] at e1 r1
    rw [nxtA_cnt, cnt_cnt] at r1
    have wn := wf_nxt w (by omega)
    obtain ⟨g2, e2, r2⟩ := q_goesOn p hp k (t + 1) (v + nxtN A) (n + nxtN A) (D + 1) (nxtA A) (pF S 167 g1) g (by omega) (by omega) (by rw [pF_at]; exact r1) wn.1 (by omega)
    rw [pF_pF] at e2
    refine ⟨g2, ?_, ?_⟩
    · unfold bd2
      rw [e1, Option.bind_some]
      show lpX7_goesOn_4 (nI p) g (nI v + nI (nxtN A)) (nI t + 1) (pF S 167 g1) = _
      rw [nI_add, nI_1, e2]
      show some (nI (v + nxtN A + dysN k (nxtA A)), _) = some (nI (v + (nxtN A + dysN k (nxtA A))), _)
      rw [Nat.add_assoc]
    · show RG g2 (cntA (dysA k (nxtA A)) (n + (nxtN A + dysN k (nxtA A))))
      rw [← Nat.add_assoc]; exact r2
theorem q_gop {k D : Nat} {A : As} {S : Wo} (hk : k ≤ 100) (h : RG (S.2.1 167) A) (w : WFA D A) (hD : D + k ≤ 1000000) : ∃ g, spX7_goesOn (nI k) S = some (nI (dysN k A), pF S 167 g) ∧ RG g (pasA k A) := by
  obtain ⟨g, e, r⟩ := q_goesOn k hk k 0 0 0 D A S 200 (by omega) (by omega) (by rw [cnt_0]; exact h) w.1 hD
  rw [Nat.zero_add] at e r
  exact ⟨g, e, r⟩

/-! ===== the eight changes: the reference's side ===== -/
theorem u_at (f : Nat → Int32) (k : Nat) (v : Int32) : upd f k v k = v := if_pos rfl
theorem u_ne {f : Nat → Int32} {k j : Nat} {v : Int32} (h : j ≠ k) : upd f k v j = f j := if_neg h
def setA (x : AX) (A : As) : AX := (A, x.2)
def setD (x : AX) (d : Int32 × Int32 × Int32) : AX := (x.1, x.2.1, x.2.2.1, x.2.2.2.1, x.2.2.2.2.1, d, x.2.2.2.2.2.2)
def pushX (x : AX) (A : As) : AX := (x.1, (if xK x < 8 then (xK x + 1, putc (xH x) (xK x) A) else (8, fun a => if a < 7 then xH x (a + 1) else A)), x.2.2)
def pusX (wi : Bool) (x : AX) (A : As) : AX := if wi = true then x else pushX x A
def apx (wi : Bool) (x : AX) (c : Co) : AX := if c.1 = 0 then setA (pusX wi x (xA x)) c.2.2.1 else setD x c.2.2.2
def FrR (S T : Wo) : Prop := (∀ k, k ≠ 6 → k ≠ 8 → k ≠ 9 → k ≠ 10 → k ≠ 11 → k ≠ 12 → T.1 166 k = S.1 166 k) ∧ (∀ a, a ≠ 167 → a ≠ 168 → T.2.1 a = S.2.1 a) ∧ (∀ a, a ≠ 166 → T.1 a = S.1 a) ∧ T.2.2 = S.2.2
theorem FrR.rf {S : Wo} : FrR S S := ⟨fun _ _ _ _ _ _ _ => rfl, fun _ _ _ => rfl, fun _ _ => rfl, rfl⟩
theorem FrR.tr {S T U : Wo} (h1 : FrR S T) (h2 : FrR T U) : FrR S U := ⟨fun k a b c d e f => (h2.1 k a b c d e f).trans (h1.1 k a b c d e f), fun a b c => (h2.2.1 a b c).trans (h1.2.1 a b c), fun a b => (h2.2.2.1 a b).trans (h1.2.2.1 a b), h2.2.2.2.trans h1.2.2.2⟩
theorem FrR.pI {S T : Wo} {k : Nat} {v : Int32} (h : FrR S T) (hk : k = 6 ∨ k = 8 ∨ k = 9 ∨ k = 10 ∨ k = 11 ∨ k = 12) : FrR S (pI T 166 k v) := h.tr ⟨fun j a b c d e f => pI_k (by omega), fun _ _ _ => rfl, fun a ha => pI_ne ha, rfl⟩
theorem FrR.pF {S T : Wo} {a : Nat} {f : Nat → Int32} (h : FrR S T) (ha : a = 167 ∨ a = 168) : FrR S (pF T a f) := h.tr ⟨fun _ _ _ _ _ _ _ => rfl, fun b h1 h2 => pF_ne (by omega), fun _ _ => rfl, rfl⟩
theorem FrR.f7 {S T : Wo} (h : FrR S T) : Fr7 S T := ⟨fun a ha => h.2.2.1 a (by omega), fun a ha => h.2.1 a (by omega) (by omega), by rw [h.2.2.2], by rw [h.2.2.2]⟩
theorem FrR.fl {S T : Wo} {p : Int32} (h : FrR S T) : FrR S (flS T p) := (h.pI (by decide)).pI (by decide)
theorem C7w.g {wi : Bool} {x : AX} {S : Wo} {g : Nat → Int32} {A : As} (h : C7w wi x S) (hg : RG g A) : C7w wi (setA x A) (pF S 167 g) := by
  obtain ⟨h1, ⟨h2, h3, h4⟩, ⟨h5, h6⟩, ⟨h7, h8⟩, ⟨h9, h10⟩, h11⟩ := h
  refine ⟨?_, ⟨h2, h3, ?_⟩, ⟨h5, ?_⟩, ⟨h7, ?_⟩, ⟨h9, ?_⟩, h11⟩
  · rw [pF_at]; exact hg
  · rw [pF_ne (by decide)]; exact h4
  · rw [pF_ne (by decide)]; exact h6
  · rw [pF_ne (by decide)]; exact h8
  · rw [pF_ne (by decide)]; exact h10
theorem q_copies {a1 N1 a3 N3 P2 P4 : Nat} (hne : a1 ≠ a3) (h1 : P2 + 112 ≤ N1) (h3 : P4 + 112 ≤ N3) (hN1 : N1 < 2 ^ 31) (hN3 : N3 < 2 ^ 31) (S : Wo) : spX7_copies a1 N1 (nI P2) a3 N3 (nI P4) S = some (pF S a3 (fb_put (S.2.1 a3) (fun k => S.2.1 a1 (P2 + k)) P4 112)) := by
  unfold spX7_copies
  have e0 : S = pF S a3 (fb_put (S.2.1 a3) (fun k => S.2.1 a1 (P2 + k)) P4 0) := by
    rw [fb_put_0]
    unfold pF
    refine Prod.ext rfl (Prod.ext ?_ rfl)
    funext b
    show S.2.1 b = if b = a3 then S.2.1 a3 else S.2.1 b
    by_cases h : b = a3
    · rw [if_pos h, h]
    · rw [if_neg h]
  have key := lp_up (L := fun f t => lpX7_copies_3 a1 N1 (nI P2) a3 N3 (nI P4) f (nI t) (pF S a3 (fb_put (S.2.1 a3) (fun k => S.2.1 a1 (P2 + k)) P4 t))) (m := 112) (r := some (pF S a3 (fb_put (S.2.1 a3) (fun k => S.2.1 a1 (P2 + k)) P4 112))) (fun f t ht => by
    show lpX7_copies_3 a1 N1 (nI P2) a3 N3 (nI P4) (f + 1) (nI t) (pF S a3 (fb_put (S.2.1 a3) (fun k => S.2.1 a1 (P2 + k)) P4 t)) = lpX7_copies_3 a1 N1 (nI P2) a3 N3 (nI P4) f (nI (t + 1)) (pF S a3 (fb_put (S.2.1 a3) (fun k => S.2.1 a1 (P2 + k)) P4 (t + 1)))
    rw [lpX7_copies_3, if_neg (show ¬ (112 : Int32) ≤ nI t from show ¬ nI 112 ≤ nI t from nI_ge ht (by decide)), nI_add, nI_add, if_pos (q_in (by omega) hN1), if_pos (q_in (by omega) hN3), wr_eq, q_ix (by omega), q_ix (by omega), pF_at, pF_ne hne, pF_pF, nI_1]
    have := fb_put_succ (S.2.1 a3) (fun k => S.2.1 a1 (P2 + k)) P4 t
    rw [this]) (fun f => by
    show lpX7_copies_3 a1 N1 (nI P2) a3 N3 (nI P4) (f + 1) (nI 112) _ = _
    rw [lpX7_copies_3, if_pos (by decide)]) 112 0 200 (by decide) (by decide)
  refine Eq.trans ?_ key
  exact congrArg (lpX7_copies_3 a1 N1 (nI P2) a3 N3 (nI P4) 200 0) e0
def shf (f : Nat → Int32) (t : Nat) : Nat → Int32 := fun k => if k < t then f (k + 112) else f k
theorem q_k24 {a1 N1 : Nat} (K : Int32 → Wo → Option Wo) (S : Wo) : lpX7_keeps_24 a1 N1 K 800 0 S = K (nI 784) (pF S 168 (shf (S.2.1 168) 784)) := by
  have e0 : S = pF S 168 (shf (S.2.1 168) 0) := by
    unfold pF
    refine Prod.ext rfl (Prod.ext ?_ rfl)
    funext b
    show S.2.1 b = if b = 168 then shf (S.2.1 168) 0 else S.2.1 b
    by_cases h : b = 168
    · rw [if_pos h, h]
      funext k
      unfold shf
      rw [if_neg (by omega)]
    · rw [if_neg h]
  have key := lp_up (L := fun f t => lpX7_keeps_24 a1 N1 K f (nI t) (pF S 168 (shf (S.2.1 168) t))) (m := 784) (r := K (nI 784) (pF S 168 (shf (S.2.1 168) 784))) (fun f t ht => by
    show lpX7_keeps_24 a1 N1 K (f + 1) (nI t) (pF S 168 (shf (S.2.1 168) t)) = lpX7_keeps_24 a1 N1 K f (nI (t + 1)) (pF S 168 (shf (S.2.1 168) (t + 1)))
    have e112 : nI t + 112 = nI (t + 112) := by show nI t + nI 112 = _; rw [nI_add]
    rw [lpX7_keeps_24, if_neg (show ¬ (784 : Int32) ≤ nI t from show ¬ nI 784 ≤ nI t from nI_ge ht (by decide)), e112, if_pos (q_in (by omega) (by decide)), if_pos (q_in (by omega) (by decide)), wr_eq, q_ix (by omega), q_ix (by omega), pF_at, pF_pF, nI_1]
    have e : upd (shf (S.2.1 168) t) t (shf (S.2.1 168) t (t + 112)) = shf (S.2.1 168) (t + 1) := by
      funext k
      unfold upd shf
      by_cases e : k = t
      · subst e
        rw [if_pos rfl, if_neg (by omega), if_pos (by omega)]
      · rw [if_neg e]
        by_cases e2 : k < t
        · rw [if_pos e2, if_pos (by omega)]
        · rw [if_neg e2, if_neg (by omega)]
    rw [e]) (fun f => by
    show lpX7_keeps_24 a1 N1 K (f + 1) (nI 784) _ = _
    rw [lpX7_keeps_24, if_pos (by decide)]) 784 0 800 (by decide) (by decide)
  refine Eq.trans ?_ key
  exact congrArg (lpX7_keeps_24 a1 N1 K 800 0) e0
theorem RG.cong {g g' : Nat → Int32} {A : As} (h : RG g A) (e : ∀ i, i < 112 → g' i = g i) (w1 : aN A ≤ 10) (w2 : aM A ≤ 20) : RG g' A := by
  obtain ⟨⟨a1, a2, a3, a4, a5, a6⟩, b, c, d⟩ := h
  refine ⟨⟨by rw [e _ (by omega)]; exact a1, by rw [e _ (by omega)]; exact a2, by rw [e _ (by omega)]; exact a3, by rw [e _ (by omega)]; exact a4, by rw [e _ (by omega)]; exact a5, by rw [e _ (by omega)]; exact a6⟩, fun k hk => by rw [e _ (by omega)]; exact b k hk, fun k hk => ?_, fun f hf => by rw [e _ (by omega)]; exact d f hf⟩
  rw [e _ (by omega), e _ (by omega), e _ (by omega), e _ (by omega)]
  exact c k hk
theorem q_keeps {wi : Bool} {x : AX} {S : Wo} {a1 D : Nat} {A : As} (h : C7w wi x S) (wx : WX D x) (hA : RG (S.2.1 a1) A) (w : WF0 D A) (ha : a1 ≠ 168) : ∃ T, spX7_keeps a1 112 S = some T ∧ T.1 166 9 = 0 ∧ C7w wi (pusX wi x A) T ∧ FrR S T ∧ T.2.1 167 = S.2.1 167 := by
  have hk8 := wx.2.1.1
  have hwf := wx.2.1.2
  have h0 := h.end_ (k := 9) (v := 0) (by decide)
  have hn := w.1.1
  have hm := w.1.2.1
  unfold spX7_keeps
  rw [wr_eq]
  obtain ⟨h1, ⟨h2, h3, h4⟩, ⟨h5, h6⟩, ⟨h7, h8⟩, ⟨h9, h10⟩, h11⟩ := h0
  rw [h2, h3]
  cases wi with
  | true =>
    rw [if_neg (show ¬ b2 true = 0 from by decide)]
    exact ⟨_, rfl, pI_at _ _ _ _, h.end_ (by decide), FrR.rf.pI (by decide), rfl⟩
  | false =>
    rw [if_pos (show b2 false = 0 from rfl)]
    show ∃ T, (if nI (xK x) = 8 then _ else _) = some T ∧ _
    by_cases e : xK x = 8
    · have e8 : nI (xK x) = 8 := by rw [e]; rfl
      rw [if_pos e8, q_k24, wr_eq]
      have e7 : (pF (pI S 166 9 0) 168 (shf ((pI S 166 9 0).2.1 168) 784)).1 166 6 - 1 = nI 7 := by
        rw [pF_1, h3, e8]; decide
      rw [e7]
      have e6 : (pI (pF (pI S 166 9 0) 168 (shf ((pI S 166 9 0).2.1 168) 784)) 166 6 (nI 7)).1 166 6 = nI 7 := pI_at _ _ _ _
      show ∃ T, (spX7_copies a1 112 (nI 0) 168 896 (nI 112 * (pI (pF (pI S 166 9 0) 168 (shf ((pI S 166 9 0).2.1 168) 784)) 166 6 (nI 7)).1 166 6) _).bind _ = some T ∧ _
      rw [e6, q_mul, q_copies ha (by decide) (by decide) (by decide) (by decide), Option.bind_some, wr_eq]
      refine ⟨_, rfl, ?_, ⟨?_, ⟨?_, ?_, ?_⟩, ⟨?_, ?_⟩, ⟨?_, ?_⟩, ⟨?_, ?_⟩, ?_, ?_, ?_, ?_⟩, ?_, ?_⟩
      · rw [pI_k (by decide), pF_1, pI_k (by decide), pF_1, pI_at]
      · rw [pI_2, pF_ne (by decide), pI_2, pF_ne (by decide)]; exact h1
      · rw [pI_k (by decide), pF_1, pI_k (by decide), pF_1]; exact h2
      · rw [pI_at, pF_1, e6]
        show nI 7 + 1 = nI (if xK x < 8 then (xK x + 1, putc (xH x) (xK x) A) else (8, fun a => if a < 7 then xH x (a + 1) else A)).1
        rw [if_neg (by omega)]
        show nI 7 + 1 = nI 8
        decide
      · intro a hK
        have hx : xK (pushX x A) = 8 := by
          show (if xK x < 8 then (xK x + 1, putc (xH x) (xK x) A) else (8, fun a => if a < 7 then xH x (a + 1) else A)).1 = 8
          rw [if_neg (by omega)]
        have hxh : xH (pushX x A) a = if a < 7 then xH x (a + 1) else A := by
          show (if xK x < 8 then (xK x + 1, putc (xH x) (xK x) A) else (8, fun a => if a < 7 then xH x (a + 1) else A)).2 a = _
          rw [if_neg (by omega)]
        have hK : a < xK (pushX x A) := hK
        rw [hx] at hK
        show RG _ (xH (pushX x A) a)
        rw [hxh, pI_2, pF_at]
        by_cases e2 : a < 7
        · rw [if_pos e2]
          have w2 := hwf (a + 1) (by omega)
          refine RG.cong (h4 (a + 1) (by omega)) (fun i hi => ?_) w2.1.1.1 w2.1.1.2.1
          rw [fb_put_out (by omega), pI_2, pF_at]
          unfold shf
          rw [if_pos (by omega)]
          show S.2.1 168 (112 * a + i + 112) = S.2.1 168 (112 * (a + 1) + i)
          rw [show 112 * a + i + 112 = 112 * (a + 1) + i by omega]
        · rw [if_neg e2]
          refine RG.cong hA (fun i hi => ?_) hn hm
          rw [fb_put_in (by omega) (by omega), pI_2, pF_ne ha, pI_2]
          show S.2.1 a1 (0 + (112 * a + i - 112 * 7)) = S.2.1 a1 i
          rw [show 0 + (112 * a + i - 112 * 7) = i by omega]
      · rw [pI_k (by decide), pF_1, pI_k (by decide), pF_1]; exact h5
      · rw [pI_2, pF_ne (by decide), pI_2, pF_ne (by decide)]; exact h6
      · rw [pI_k (by decide), pF_1, pI_k (by decide), pF_1]; exact h7
      · rw [pI_2, pF_ne (by decide), pI_2, pF_ne (by decide)]; exact h8
      · rw [pI_k (by decide), pF_1, pI_k (by decide), pF_1]; exact h9
      · rw [pI_2, pF_ne (by decide), pI_2, pF_ne (by decide)]; exact h10
      · rw [pI_k (by decide), pF_1, pI_k (by decide), pF_1]; exact h11.1
      · rw [pI_k (by decide), pF_1, pI_k (by decide), pF_1]; exact h11.2.1
      · rw [pI_k (by decide), pF_1, pI_k (by decide), pF_1]; exact h11.2.2.1
      · rw [pI_k (by decide), pF_1, pI_k (by decide), pF_1]; exact h11.2.2.2
      · exact ((((FrR.rf.pI (by decide)).pF (by decide)).pI (by decide)).pF (by decide)).pI (by decide)
      · rw [pI_2, pF_ne (by decide), pI_2, pF_ne (by decide)]; rfl
    · have e8 : ¬ nI (xK x) = 8 := fun q => e ((nI_eq (b := 8) (by omega) (by decide)).mp q)
      rw [if_neg e8]
      show ∃ T, (spX7_copies a1 112 (nI 0) 168 896 (nI 112 * (pI S 166 9 0).1 166 6) _).bind _ = some T ∧ _
      rw [h3, q_mul, q_copies ha (by decide) (by omega) (by decide) (by decide), Option.bind_some, wr_eq]
      refine ⟨_, rfl, ?_, ⟨?_, ⟨?_, ?_, ?_⟩, ⟨?_, ?_⟩, ⟨?_, ?_⟩, ⟨?_, ?_⟩, ?_, ?_, ?_, ?_⟩, ?_, ?_⟩
      · rw [pI_k (by decide), pF_1, pI_at]
      · rw [pI_2, pF_ne (by decide)]; exact h1
      · rw [pI_k (by decide), pF_1]; exact h2
      · rw [pI_at, pF_1, h3, nI_1]
        show nI (xK x + 1) = nI (if xK x < 8 then (xK x + 1, putc (xH x) (xK x) A) else (8, fun a => if a < 7 then xH x (a + 1) else A)).1
        rw [if_pos (by omega)]
      · intro a hK
        have hx : xK (pushX x A) = xK x + 1 := by
          show (if xK x < 8 then (xK x + 1, putc (xH x) (xK x) A) else (8, fun a => if a < 7 then xH x (a + 1) else A)).1 = _
          rw [if_pos (by omega)]
        have hxh : xH (pushX x A) a = putc (xH x) (xK x) A a := by
          show (if xK x < 8 then (xK x + 1, putc (xH x) (xK x) A) else (8, fun a => if a < 7 then xH x (a + 1) else A)).2 a = _
          rw [if_pos (by omega)]
        have hK : a < xK (pushX x A) := hK
        rw [hx] at hK
        show RG _ (xH (pushX x A) a)
        rw [hxh, pI_2, pF_at]
        by_cases e2 : a = xK x
        · subst e2
          rw [putc_at]
          refine RG.cong hA (fun i hi => ?_) hn hm
          rw [fb_put_in (by omega) (by omega), pI_2]
          show S.2.1 a1 (0 + (112 * xK x + i - 112 * xK x)) = S.2.1 a1 i
          rw [show 0 + (112 * xK x + i - 112 * xK x) = i by omega]
        · rw [putc_ne e2]
          have w2 := hwf a (by omega)
          refine RG.cong (h4 a (by omega)) (fun i hi => ?_) w2.1.1.1 w2.1.1.2.1
          rw [fb_put_out (by omega)]
      · rw [pI_k (by decide), pF_1]; exact h5
      · rw [pI_2, pF_ne (by decide)]; exact h6
      · rw [pI_k (by decide), pF_1]; exact h7
      · rw [pI_2, pF_ne (by decide)]; exact h8
      · rw [pI_k (by decide), pF_1]; exact h9
      · rw [pI_2, pF_ne (by decide)]; exact h10
      · rw [pI_k (by decide), pF_1]; exact h11.1
      · rw [pI_k (by decide), pF_1]; exact h11.2.1
      · rw [pI_k (by decide), pF_1]; exact h11.2.2.1
      · rw [pI_k (by decide), pF_1]; exact h11.2.2.2
      · exact ((FrR.rf.pI (by decide)).pF (by decide)).pI (by decide)
      · rw [pI_2, pF_ne (by decide)]; rfl
def dn7 (S : Wo) (a b c : Int32) : Wo := pI (pI (pI (pI (pI S 166 9 a) 166 8 1) 166 10 b) 166 11 c) 166 12 0
theorem q_denies (a b c : Int32) (S : Wo) : spX7_denies a b c S = some (0, dn7 S a b c) := rfl
theorem dn7_fr (S : Wo) (a b c : Int32) : FrR S (dn7 S a b c) := ((((FrR.rf.pI (by decide)).pI (by decide)).pI (by decide)).pI (by decide)).pI (by decide)
theorem dn7_9 (S : Wo) (a b c : Int32) : (dn7 S a b c).1 166 9 = a := by
  unfold dn7
  rw [pI_k (by decide), pI_k (by decide), pI_k (by decide), pI_k (by decide), pI_at]
theorem dn7_8 (S : Wo) (a b c : Int32) : (dn7 S a b c).1 166 8 = 1 := by
  unfold dn7
  rw [pI_k (by decide), pI_k (by decide), pI_k (by decide), pI_at]
theorem C7w.dn {wi : Bool} {x : AX} {S : Wo} (h : C7w wi x S) (a b c : Int32) : C7w wi (setD x (b, c, 0)) (dn7 S a b c) := by
  obtain ⟨h1, ⟨h2, h3, h4⟩, ⟨h5, h6⟩, ⟨h7, h8⟩, ⟨h9, h10⟩, h11, h12, h13, h14⟩ := h
  unfold dn7
  refine ⟨h1, ⟨?_, ?_, h4⟩, ⟨?_, h6⟩, ⟨?_, h8⟩, ⟨?_, h10⟩, ?_, ?_, ?_, ?_⟩
  · rw [pI_k (by decide), pI_k (by decide), pI_k (by decide), pI_k (by decide), pI_k (by decide)]; exact h2
  · rw [pI_k (by decide), pI_k (by decide), pI_k (by decide), pI_k (by decide), pI_k (by decide)]; exact h3
  · rw [pI_k (by decide), pI_k (by decide), pI_k (by decide), pI_k (by decide), pI_k (by decide)]; exact h5
  · rw [pI_k (by decide), pI_k (by decide), pI_k (by decide), pI_k (by decide), pI_k (by decide)]; exact h7
  · rw [pI_k (by decide), pI_k (by decide), pI_k (by decide), pI_k (by decide), pI_k (by decide)]; exact h9
  · rw [pI_k (by decide), pI_k (by decide), pI_k (by decide), pI_k (by decide), pI_k (by decide)]; exact h11
  · rw [pI_k (by decide), pI_k (by decide), pI_at]; rfl
  · rw [pI_k (by decide), pI_at]; rfl
  · rw [pI_at]; rfl

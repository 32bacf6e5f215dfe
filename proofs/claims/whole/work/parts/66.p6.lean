/-! ===== writes: what they touch; the changes of one state of the class ===== -/
theorem wr_eq {ρ : Type} (S : Wo) (f : Wo → Option ρ) : wr S f = f S := rfl
theorem pI_at (S : Wo) (o k : Nat) (v : Int32) : (pI S o k v).1 o k = v := by simp [pI]
theorem pI_k {S : Wo} {o k j : Nat} {v : Int32} (h : j ≠ k) : (pI S o k v).1 o j = S.1 o j := by simp [pI, h]
theorem pI_2 (S : Wo) (o k : Nat) (v : Int32) : (pI S o k v).2 = S.2 := rfl
theorem pF_1 (S : Wo) (a : Nat) (f : Nat → Int32) : (pF S a f).1 = S.1 := rfl
theorem pF_22 (S : Wo) (a : Nat) (f : Nat → Int32) : (pF S a f).2.2 = S.2.2 := rfl
theorem pF_at (S : Wo) (a : Nat) (f : Nat → Int32) : (pF S a f).2.1 a = f := by simp [pF]
theorem pF_pF (S : Wo) (a : Nat) (f g : Nat → Int32) : pF (pF S a f) a g = pF S a g := by
  unfold pF
  refine Prod.ext rfl (Prod.ext ?_ rfl)
  funext b
  show (if b = a then g else if b = a then f else S.2.1 b) = if b = a then g else S.2.1 b
  by_cases h : b = a
  · rw [if_pos h, if_pos h]
  · rw [if_neg h, if_neg h, if_neg h]
def FrO (o : Nat) (S T : Wo) : Prop := (∀ a, a ≠ o → T.1 a = S.1 a) ∧ (∀ a, ¬ (o < a ∧ a ≤ o + 12) → T.2.1 a = S.2.1 a) ∧ T.2.2 = S.2.2
theorem FrO.rf {o : Nat} {S : Wo} : FrO o S S := ⟨fun _ _ => rfl, fun _ _ => rfl, rfl⟩
theorem FrO.tr {o : Nat} {S T U : Wo} (h1 : FrO o S T) (h2 : FrO o T U) : FrO o S U := ⟨fun a h => (h2.1 a h).trans (h1.1 a h), fun a h => (h2.2.1 a h).trans (h1.2.1 a h), h2.2.2.trans h1.2.2⟩
theorem FrO.pI {o k : Nat} {S T : Wo} {v : Int32} (h : FrO o S T) : FrO o S (pI T o k v) := h.tr ⟨fun a h => pI_ne h, fun _ _ => rfl, rfl⟩
theorem FrO.pF {o j : Nat} {S T : Wo} {f : Nat → Int32} (h : FrO o S T) (hj : j ≤ 12) (h0 : 0 < j) : FrO o S (pF T (o + j) f) := h.tr ⟨fun _ _ => rfl, fun a h => pF_ne (by omega), rfl⟩
theorem RS.fr {o o1 : Nat} {S T : Wo} {A : As} (h : RS S o1 A) (hf : FrO o S T) (hd : o1 + 12 < o ∨ o + 12 < o1) : RS T o1 A := h.cong (fun k => by rw [hf.1 o1 (by omega)]) (fun j hj => hf.2.1 _ (by omega))
def cpy (n : Nat) (f g : Nat → Int32) : Nat → Int32 := fun k => if k < n then f k else g k
theorem cpy_lt {n k : Nat} {f g : Nat → Int32} (h : k < n) : cpy n f g k = f k := if_pos h
theorem q_cp {r N r1 : Nat} (hN : N < 2 ^ 31) (S : Wo) : spX4_copyFrom r N r1 N S = some (pF S (r + 1) (cpy N (S.2.1 (r1 + 1)) (S.2.1 (r + 1)))) := by
  have e1 : ¬ Int32.ofNat N < Int32.ofNat N := nI_nlt (Nat.le_refl _) hN
  have e2 : ix (Int32.ofNat N) = N := nI_clamp hN
  have e3 : cpok (Int32.ofNat N) N N = true := by
    unfold cpok
    have e4 : ¬ Int32.ofNat N < 0 := nI_pos hN
    have e5 : (Int32.ofNat N).toNatClampNeg = N := nI_clamp hN
    rw [e5]
    simp [e4]
  have e6 : va_cpy (S.2.1 (r1 + 1)) (S.2.1 (r + 1)) 0 0 N = cpy N (S.2.1 (r1 + 1)) (S.2.1 (r + 1)) := by
    funext k
    unfold va_cpy cpy
    simp
  unfold spX4_copyFrom
  rw [if_neg e1, if_pos e3, e2, e6]
  rfl
theorem q_cps {S : Wo} {o o1 D : Nat} {A : As} (h : RS S o1 A) (w : WF0 D A) (hd : o1 + 12 < o ∨ o + 12 < o1) : ∃ T, spX5_copyFrom o o1 S = some T ∧ RS T o A ∧ FrO o S T := by
  obtain ⟨⟨a1, a2, a3, a4, a5, a6⟩, b, c, d⟩ := h
  have hn := w.1.1
  have hm := w.1.2.1
  have ne : ¬ o1 = o := by omega
  have m2 : ¬ o1 + 2 = o := by omega
  have m4 : ¬ o1 + 4 = o := by omega
  have m6 : ¬ o1 + 6 = o := by omega
  have m8 : ¬ o1 + 8 = o := by omega
  have m10 : ¬ o1 + 10 = o := by omega
  unfold spX5_copyFrom
  simp only [q_cp (N := 10) (by decide), q_cp (N := 20) (by decide), q_cp (N := 16) (by decide), Option.bind_some, wr_eq]
  refine ⟨_, rfl, ⟨⟨?_, ?_, ?_, ?_, ?_, ?_⟩, fun k hk => ?_, fun k hk => ⟨?_, ?_, ?_, ?_⟩, fun f hf => ?_⟩, ?_⟩
  · simp [pI, pF, ne, a1]
  · simp [pI, pF, ne, a2]
  · simp [pI, pF, ne, a3]
  · simp [pI, pF, ne, a4]
  · simp [pI, pF, ne, a5]
  · simp [pI, pF, ne, a6]
  · rw [← b k hk]
    simp [pI, pF, cpy, show k < 10 by omega]
  · rw [← (c k hk).1]
    simp [pI, pF, cpy, show k < 20 by omega, m2, m4, m6, m8, m10]
  · rw [← (c k hk).2.1]
    simp [pI, pF, cpy, show k < 20 by omega, m2, m4, m6, m8, m10]
  · rw [← (c k hk).2.2.1]
    simp [pI, pF, cpy, show k < 20 by omega, m2, m4, m6, m8, m10]
  · rw [← (c k hk).2.2.2]
    simp [pI, pF, cpy, show k < 20 by omega, m2, m4, m6, m8, m10]
  · rw [← d f hf]
    simp [pI, pF, cpy, hf, m2, m4, m6, m8, m10]
  · refine FrO.pI (FrO.pI (FrO.pI (FrO.pF (j := 12) (FrO.pI (FrO.pF (j := 10) (FrO.pF (j := 8) (FrO.pF (j := 6) (FrO.pF (j := 4) (FrO.pI (FrO.pI (FrO.pF (j := 2) FrO.rf ?_ ?_))) ?_ ?_) ?_ ?_) ?_ ?_) ?_ ?_)) ?_ ?_))) <;> decide
/-! the changes, as numbers -/
def putc {α : Type} (f : Nat → α) (k : Nat) (v : α) : Nat → α := fun j => if j = k then v else f j
theorem putc_at {α : Type} (f : Nat → α) (k : Nat) (v : α) : putc f k v k = v := if_pos rfl
theorem putc_ne {α : Type} {f : Nat → α} {k j : Nat} {v : α} (h : j ≠ k) : putc f k v j = f j := if_neg h
def regA (A : As) (f : Nat) : As := ((aN A + 1, aR A, aM A, aD A, aE A, aW A), putc (aF A) (aN A) f, aC A, aG A)
def movA (A : As) (s f : Nat) : As := (A.1, putc (aF A) s f, A.2.2)
def revA (A : As) (s : Nat) : As := ((aN A, aR A ^^^ shb s, aM A, aD A, aE A, aW A), A.2)
def addA (A : As) (i s d : Nat) : As := ((aN A, aR A, aM A + 1, aD A, aE A, aW A), aF A, putc (aC A) (aM A) (i, s, aF A s, aD A + d), aG A)
def remA (A : As) (i : Nat) : As := ((aN A, aR A, aM A - 1, aD A, aE A, aW A), aF A, (fun c => if c < i then aC A c else aC A (c + 1)), aG A)
def sowA (A : As) (f n : Nat) : As := ((aN A, aR A, aM A, aD A, aE A, aW A + nI n), aF A, aC A, putc (aG A) f (aG A f + n))
def dayA (A : As) : As := ((aN A, aR A, aM A, aD A + 1, aE A, aW A), A.2)
def eatA (A : As) (f : Nat) : As := (A.1, aF A, aC A, putc (aG A) f (aG A f - 1))
def cntA (A : As) (b : Nat) : As := ((aN A, aR A, aM A, aD A, aE A + nI b, aW A), A.2)
section WFS
variable {D : Nat} {A : As}
theorem wf_reg (w : WFA D A) (hn : aN A < 10) {f : Nat} (hf : f < 16) : WFA D (regA A f) := by
  obtain ⟨⟨⟨h1, h2, h3, h4⟩, h5, h6, h7⟩, h8⟩ := w
  refine ⟨⟨⟨by show aN A + 1 ≤ 10; omega, h2, h3, h4⟩, fun k hk => ?_, fun c hc => ?_, h7⟩, h8⟩
  · have hk : k < aN A + 1 := hk
    show putc (aF A) (aN A) f k < 16
    by_cases e : k = aN A
    · subst e; rw [putc_at]; exact hf
    · rw [putc_ne e]; exact h5 k (by omega)
  · obtain ⟨q1, q2, q3, q4⟩ := h6 c hc
    exact ⟨by show _ ≤ aN A + 1; exact Nat.le_succ_of_le q1, by show _ < aN A + 1; exact Nat.lt_succ_of_lt q2, q3, q4⟩
theorem wf_mov (w : WFA D A) {s f : Nat} (hf : f < 16) : WFA D (movA A s f) := by
  obtain ⟨⟨h0, h5, h6, h7⟩, h8⟩ := w
  refine ⟨⟨h0, fun k hk => ?_, h6, h7⟩, h8⟩
  show putc (aF A) s f k < 16
  by_cases e : k = s
  · subst e; rw [putc_at]; exact hf
  · rw [putc_ne e]; exact h5 k hk
theorem wf_rev (w : WFA D A) {s : Nat} : WFA D (revA A s) := w
theorem wf_add (w : WFA D A) (hm : aM A < 20) {i s d : Nat} (hi : i ≤ aN A) (hs : s < aN A) (hd : d ≤ 99) : WFA D (addA A i s d) := by
  obtain ⟨⟨⟨h1, h2, h3, h4⟩, h5, h6, h7⟩, h8⟩ := w
  refine ⟨⟨⟨h1, by show aM A + 1 ≤ 20; omega, h3, h4⟩, h5, fun c hc => ?_, h7⟩, fun c hc => ?_⟩
  · have hc : c < aM A + 1 := hc
    show (putc (aC A) (aM A) (i, s, aF A s, aD A + d) c).1 ≤ aN A ∧ (putc (aC A) (aM A) (i, s, aF A s, aD A + d) c).2.1 < aN A ∧ (putc (aC A) (aM A) (i, s, aF A s, aD A + d) c).2.2.1 < 16 ∧ (putc (aC A) (aM A) (i, s, aF A s, aD A + d) c).2.2.2 ≤ aD A + 99
    by_cases e : c = aM A
    · subst e; rw [putc_at]; exact ⟨hi, hs, h5 s hs, by show aD A + d ≤ aD A + 99; omega⟩
    · rw [putc_ne e]; exact h6 c (by omega)
  · have hc : c < aM A + 1 := hc
    show aD A ≤ (putc (aC A) (aM A) (i, s, aF A s, aD A + d) c).2.2.2
    by_cases e : c = aM A
    · subst e; rw [putc_at]; exact Nat.le_add_right _ _
    · rw [putc_ne e]; exact h8 c (by omega)
theorem remA_c (A : As) (i c : Nat) : aC (remA A i) c = if c < i then aC A c else aC A (c + 1) := rfl
theorem wf0_rem (w : WF0 D A) {i : Nat} (hi : i < aM A) : WF0 D (remA A i) := by
  obtain ⟨⟨h1, h2, h3, h4⟩, h5, h6, h7⟩ := w
  refine ⟨⟨h1, by show aM A - 1 ≤ 20; omega, h3, h4⟩, h5, fun c hc => ?_, h7⟩
  have hc : c < aM A - 1 := hc
  rw [remA_c]
  by_cases e : c < i
  · rw [if_pos e]; exact h6 c (by omega)
  · rw [if_neg e]; exact h6 (c + 1) (by omega)
theorem wf_rem (w : WFA D A) {i : Nat} (hi : i < aM A) : WFA D (remA A i) := by
  refine ⟨wf0_rem w.1 hi, fun c hc => ?_⟩
  have hc : c < aM A - 1 := hc
  rw [remA_c]
  show aD A ≤ _
  by_cases e : c < i
  · rw [if_pos e]; exact w.2 c (by omega)
  · rw [if_neg e]; exact w.2 (c + 1) (by omega)
theorem wf_sow (w : WFA D A) {f n : Nat} (hn : aG A f + n ≤ 99) : WFA D (sowA A f n) := by
  obtain ⟨⟨h0, h5, h6, h7⟩, h8⟩ := w
  refine ⟨⟨h0, h5, h6, fun k hk => ?_⟩, h8⟩
  show putc (aG A) f (aG A f + n) k ≤ 99
  by_cases e : k = f
  · subst e; rw [putc_at]; exact hn
  · rw [putc_ne e]; exact h7 k hk
theorem wf0_day (w : WF0 D A) (hD : D + 1 ≤ 1000000) : WF0 (D + 1) (dayA A) := by
  obtain ⟨⟨h1, h2, h3, h4⟩, h5, h6, h7⟩ := w
  refine ⟨⟨h1, h2, by show aD A + 1 ≤ D + 1; omega, hD⟩, h5, fun c hc => ?_, h7⟩
  obtain ⟨q1, q2, q3, q4⟩ := h6 c hc
  exact ⟨q1, q2, q3, by show (aC A c).2.2.2 ≤ aD A + 1 + 99; omega⟩
theorem wf0_eat (w : WF0 D A) {f : Nat} : WF0 D (eatA A f) := by
  obtain ⟨h0, h5, h6, h7⟩ := w
  refine ⟨h0, h5, h6, fun k hk => ?_⟩
  show putc (aG A) f (aG A f - 1) k ≤ 99
  by_cases e : k = f
  · subst e; rw [putc_at]; have := h7 k hk; omega
  · rw [putc_ne e]; exact h7 k hk
theorem wf0_up {D' : Nat} (w : WF0 D A) (h : D ≤ D') (h2 : D' ≤ 1000000) : WF0 D' A := ⟨⟨w.1.1, w.1.2.1, Nat.le_trans w.1.2.2.1 h, h2⟩, w.2⟩
theorem wf_up {D' : Nat} (w : WFA D A) (h : D ≤ D') (h2 : D' ≤ 1000000) : WFA D' A := ⟨wf0_up w.1 h h2, w.2⟩
end WFS
section CHG6
variable {S : Wo} {o D : Nat} {A : As}
theorem q_addS (h : RS S o A) (hn : aN A < 10) (f : Nat) : ∃ T, spX5_addScarecrow o (nI f) S = some (nI (aN A), T) ∧ RS T o (regA A f) ∧ FrO o S T := by
  obtain ⟨⟨a1, a2, a3, a4, a5, a6⟩, b, c, d⟩ := h
  unfold spX5_addScarecrow
  rw [a1, q_set (by omega) (by omega), Option.bind_some, wr_eq]
  refine ⟨_, rfl, ⟨⟨?_, ?_, ?_, ?_, ?_, ?_⟩, fun k hk => ?_, fun k hk => ⟨?_, ?_, ?_, ?_⟩, fun f hf => ?_⟩, FrO.pI (FrO.pF (j := 2) FrO.rf (by decide) (by decide))⟩
  · rw [pI_at, pF_1, a1, nI_1]; rfl
  · rw [pI_k (by decide)]; exact a2
  · rw [pI_k (by decide)]; exact a3
  · rw [pI_k (by decide)]; exact a4
  · rw [pI_k (by decide)]; exact a5
  · rw [pI_k (by decide)]; exact a6
  · have hk : k < aN A + 1 := hk
    rw [pI_2, pF_at]
    show upd (S.2.1 (o + 1 + 1)) (aN A) (nI f) k = nI (putc (aF A) (aN A) f k)
    unfold upd putc
    by_cases e : k = aN A
    · rw [if_pos e, if_pos e]
    · rw [if_neg e, if_neg e]; exact b k (by omega)
  · rw [pI_2, pF_ne (by omega)]; exact (c k hk).1
  · rw [pI_2, pF_ne (by omega)]; exact (c k hk).2.1
  · rw [pI_2, pF_ne (by omega)]; exact (c k hk).2.2.1
  · rw [pI_2, pF_ne (by omega)]; exact (c k hk).2.2.2
  · rw [pI_2, pF_ne (by omega)]; exact d f hf
theorem q_movS (h : RS S o A) (w : WF0 D A) {s : Nat} (hs : s < aN A) (f : Nat) : ∃ T, spX4_set (o + 1) 10 (nI s) (nI f) S = some T ∧ RS T o (movA A s f) ∧ FrO o S T := by
  obtain ⟨⟨a1, a2, a3, a4, a5, a6⟩, b, c, d⟩ := h
  have hn := w.1.1
  rw [q_set (by omega) (by omega)]
  refine ⟨_, rfl, ⟨⟨a1, a2, a3, a4, a5, a6⟩, fun k hk => ?_, fun k hk => ⟨?_, ?_, ?_, ?_⟩, fun f hf => ?_⟩, FrO.pF (j := 2) FrO.rf (by decide) (by decide)⟩
  · rw [pF_at]
    show upd (S.2.1 (o + 1 + 1)) s (nI f) k = nI (putc (aF A) s f k)
    unfold upd putc
    by_cases e : k = s
    · rw [if_pos e, if_pos e]
    · rw [if_neg e, if_neg e]; exact b k hk
  · rw [pF_ne (by omega)]; exact (c k hk).1
  · rw [pF_ne (by omega)]; exact (c k hk).2.1
  · rw [pF_ne (by omega)]; exact (c k hk).2.2.1
  · rw [pF_ne (by omega)]; exact (c k hk).2.2.2
  · rw [pF_ne (by omega)]; exact d f hf
theorem q_revS (h : RS S o A) (s : Nat) : RS (pI S o 2 (S.1 o 2 ^^^ (1 <<< (nI s &&& 31)))) o (revA A s) ∧ FrO o S (pI S o 2 (S.1 o 2 ^^^ (1 <<< (nI s &&& 31)))) := by
  obtain ⟨⟨a1, a2, a3, a4, a5, a6⟩, b, c, d⟩ := h
  refine ⟨⟨⟨?_, ?_, ?_, ?_, ?_, ?_⟩, b, c, d⟩, FrO.pI FrO.rf⟩
  · rw [pI_k (by decide)]; exact a1
  · rw [pI_at, a2]; rfl
  · rw [pI_k (by decide)]; exact a3
  · rw [pI_k (by decide)]; exact a4
  · rw [pI_k (by decide)]; exact a5
  · rw [pI_k (by decide)]; exact a6
theorem q_addC (h : RS S o A) (w : WF0 D A) (hm : aM A < 20) {i s d : Nat} (hs : s < aN A) : ∃ T, spX5_addCertificate o (cIs i) (nI s) (nI d) S = some (nI (aM A), T) ∧ RS T o (addA A i s d) ∧ FrO o S T := by
  have hff := h.2.1 s hs
  obtain ⟨⟨a1, a2, a3, a4, a5, a6⟩, b, c, dd⟩ := h
  have hn := w.1.1
  unfold spX5_addCertificate
  rw [a3, q_set (by omega) (by omega), Option.bind_some, q_set (by omega) (by omega), Option.bind_some, q_get (by omega) (by omega), Option.bind_some, q_set (by omega) (by omega), Option.bind_some, q_set (by omega) (by omega), Option.bind_some, wr_eq]
  refine ⟨_, rfl, ⟨⟨?_, ?_, ?_, ?_, ?_, ?_⟩, fun k hk => ?_, fun k hk => ⟨?_, ?_, ?_, ?_⟩, fun f hf => ?_⟩, ?_⟩
  · rw [pI_k (by decide)]; exact a1
  · rw [pI_k (by decide)]; exact a2
  · rw [pI_at]
    show S.1 o 7 + 1 = _
    rw [a3, nI_1]; rfl
  · rw [pI_k (by decide)]; exact a4
  · rw [pI_k (by decide)]; exact a5
  · rw [pI_k (by decide)]; exact a6
  · rw [pI_2, pF_ne (by omega), pF_ne (by omega), pF_ne (by omega), pF_ne (by omega)]; exact b k hk
  · have hk : k < aM A + 1 := hk
    rw [pI_2, pF_ne (by omega), pF_ne (by omega), pF_ne (by omega), pF_at]
    show upd (S.2.1 (o + 3 + 1)) (aM A) (cIs i) k = cIs (putc (aC A) (aM A) (i, s, aF A s, aD A + d) k).1
    unfold upd putc
    by_cases e : k = aM A
    · rw [if_pos e, if_pos e]
    · rw [if_neg e, if_neg e]; exact (c k (by omega)).1
  · have hk : k < aM A + 1 := hk
    rw [pI_2, pF_ne (by omega), pF_ne (by omega), pF_at, pF_ne (by omega)]
    show upd (S.2.1 (o + 5 + 1)) (aM A) (nI s) k = nI (putc (aC A) (aM A) (i, s, aF A s, aD A + d) k).2.1
    unfold upd putc
    by_cases e : k = aM A
    · rw [if_pos e, if_pos e]
    · rw [if_neg e, if_neg e]; exact (c k (by omega)).2.1
  · have hk : k < aM A + 1 := hk
    rw [pI_2, pF_ne (by omega), pF_at, pF_ne (by omega), pF_ne (by omega), pF_ne (by omega), pF_ne (by omega), hff]
    show upd (S.2.1 (o + 7 + 1)) (aM A) (nI (aF A s)) k = nI (putc (aC A) (aM A) (i, s, aF A s, aD A + d) k).2.2.1
    unfold upd putc
    by_cases e : k = aM A
    · rw [if_pos e, if_pos e]
    · rw [if_neg e, if_neg e]; exact (c k (by omega)).2.2.1
  · have hk : k < aM A + 1 := hk
    rw [pI_2, pF_at, pF_ne (by omega), pF_ne (by omega), pF_ne (by omega)]
    show upd (S.2.1 (o + 9 + 1)) (aM A) (S.1 o 9 + nI d) k = nI (putc (aC A) (aM A) (i, s, aF A s, aD A + d) k).2.2.2
    rw [a4, nI_add]
    unfold upd putc
    by_cases e : k = aM A
    · rw [if_pos e, if_pos e]
    · rw [if_neg e, if_neg e]; exact (c k (by omega)).2.2.2
  · rw [pI_2, pF_ne (by omega), pF_ne (by omega), pF_ne (by omega), pF_ne (by omega)]; exact dd f hf
  · refine FrO.pI (FrO.pF (j := 10) (FrO.pF (j := 8) (FrO.pF (j := 6) (FrO.pF (j := 4) FrO.rf ?_ ?_) ?_ ?_) ?_ ?_) ?_ ?_) <;> decide
def rmf (N : Nat) (f : Nat → Int32) (i : Nat) : Nat → Int32 := fun k => if i ≤ k ∧ k < N - 1 then f (k + 1) else f k
theorem rmf_at {N k i : Nat} {f : Nat → Int32} (h : k < N - 1) : rmf N f i k = if k < i then f k else f (k + 1) := by
  unfold rmf
  by_cases e : k < i
  · rw [if_neg (by omega), if_pos e]
  · rw [if_pos (by omega), if_neg e]
theorem q_rm {r i : Nat} (hi : i < 20) (S : Wo) : spX4_remove r 20 (nI i) S = some (pF S (r + 1) (rmf 20 (S.2.1 (r + 1)) i)) := by
  have e19 : Int32.ofNat 20 - 1 = nI 19 := by decide
  unfold spX4_remove
  rw [if_neg (nI_pos (by omega)), if_neg (show ¬ Int32.ofNat 20 ≤ nI i from nI_ge hi (by omega))]
  have e0 : S = pF S (r + 1) (fun k => if i ≤ k ∧ k < i + 0 then S.2.1 (r + 1) (k + 1) else S.2.1 (r + 1) k) := by
    unfold pF
    refine Prod.ext rfl (Prod.ext ?_ rfl)
    funext b
    show S.2.1 b = if b = r + 1 then (fun k => if i ≤ k ∧ k < i + 0 then S.2.1 (r + 1) (k + 1) else S.2.1 (r + 1) k) else S.2.1 b
    by_cases h : b = r + 1
    · rw [if_pos h, h]
      funext k
      rw [if_neg (by omega)]
    · rw [if_neg h]
  have key := lp_up (L := fun f u => lpX4_remove_15 r 20 (nI i) f (nI (i + u)) (pF S (r + 1) (fun k => if i ≤ k ∧ k < i + u then S.2.1 (r + 1) (k + 1) else S.2.1 (r + 1) k))) (m := 19 - i) (r := some (pF S (r + 1) (rmf 20 (S.2.1 (r + 1)) i))) (fun f u hu => by
    show lpX4_remove_15 r 20 (nI i) (f + 1) (nI (i + u)) (pF S (r + 1) (fun k => if i ≤ k ∧ k < i + u then S.2.1 (r + 1) (k + 1) else S.2.1 (r + 1) k)) = lpX4_remove_15 r 20 (nI i) f (nI (i + (u + 1))) (pF S (r + 1) (fun k => if i ≤ k ∧ k < i + (u + 1) then S.2.1 (r + 1) (k + 1) else S.2.1 (r + 1) k))
    rw [lpX4_remove_15, e19, if_neg (nI_ge (by omega) (by omega)), nI_1, if_pos (q_in (by omega) (by omega)), if_pos (q_in (by omega) (by omega)), wr_eq, q_ix (by omega), q_ix (by omega), pF_at, pF_pF]
    have e : upd (fun k => if i ≤ k ∧ k < i + u then S.2.1 (r + 1) (k + 1) else S.2.1 (r + 1) k) (i + u) (if i ≤ i + u + 1 ∧ i + u + 1 < i + u then S.2.1 (r + 1) (i + u + 1 + 1) else S.2.1 (r + 1) (i + u + 1)) = (fun k => if i ≤ k ∧ k < i + (u + 1) then S.2.1 (r + 1) (k + 1) else S.2.1 (r + 1) k) := by
      funext k
      unfold upd
      by_cases e : k = i + u
      · subst e
        rw [if_pos rfl, if_neg (by omega), if_pos (by omega)]
      · rw [if_neg e]
        show (if i ≤ k ∧ k < i + u then S.2.1 (r + 1) (k + 1) else S.2.1 (r + 1) k) = _
        by_cases e2 : i ≤ k ∧ k < i + u
        · rw [if_pos e2, if_pos (by omega)]
        · rw [if_neg e2, if_neg (by omega)]
    rw [e]
    rfl) (fun f => by
    show lpX4_remove_15 r 20 (nI i) (f + 1) (nI (i + (19 - i))) (pF S (r + 1) (fun k => if i ≤ k ∧ k < i + (19 - i) then S.2.1 (r + 1) (k + 1) else S.2.1 (r + 1) k)) = _
    rw [show i + (19 - i) = 19 by omega, lpX4_remove_15, e19, if_pos (nI_le (Nat.le_refl _) (by omega))]
    rfl) (19 - i) 0 200 (by omega) (by omega)
  refine Eq.trans ?_ key
  exact congrArg (lpX4_remove_15 r 20 (nI i) 200 (nI i)) e0
theorem q_remS (h : RS S o A) (w : WF0 D A) {i : Nat} (hi : i < aM A) : ∃ T, spX5_removeCertificate o (nI i) S = some T ∧ RS T o (remA A i) ∧ FrO o S T := by
  obtain ⟨⟨a1, a2, a3, a4, a5, a6⟩, b, c, d⟩ := h
  have hm := w.1.2.1
  unfold spX5_removeCertificate
  rw [q_rm (by omega), Option.bind_some, q_rm (by omega), Option.bind_some, q_rm (by omega), Option.bind_some, q_rm (by omega), Option.bind_some, wr_eq]
  refine ⟨_, rfl, ⟨⟨?_, ?_, ?_, ?_, ?_, ?_⟩, fun k hk => ?_, fun k hk => ⟨?_, ?_, ?_, ?_⟩, fun f hf => ?_⟩, ?_⟩
  · rw [pI_k (by decide)]; exact a1
  · rw [pI_k (by decide)]; exact a2
  · rw [pI_at]
    show S.1 o 7 - 1 = nI (aM A - 1)
    rw [a3]
    exact q_sub (b := 1) (by omega)
  · rw [pI_k (by decide)]; exact a4
  · rw [pI_k (by decide)]; exact a5
  · rw [pI_k (by decide)]; exact a6
  · rw [pI_2, pF_ne (by omega), pF_ne (by omega), pF_ne (by omega), pF_ne (by omega)]; exact b k hk
  · have hk : k < aM A - 1 := hk
    rw [pI_2, pF_ne (by omega), pF_ne (by omega), pF_ne (by omega), pF_at, rmf_at (by omega), remA_c]
    by_cases e : k < i
    · rw [if_pos e, if_pos e]; exact (c k (by omega)).1
    · rw [if_neg e, if_neg e]; exact (c (k + 1) (by omega)).1
  · have hk : k < aM A - 1 := hk
    rw [pI_2, pF_ne (by omega), pF_ne (by omega), pF_at, pF_ne (by omega), rmf_at (by omega), remA_c]
    by_cases e : k < i
    · rw [if_pos e, if_pos e]; exact (c k (by omega)).2.1
    · rw [if_neg e, if_neg e]; exact (c (k + 1) (by omega)).2.1
  · have hk : k < aM A - 1 := hk
    rw [pI_2, pF_ne (by omega), pF_at, pF_ne (by omega), pF_ne (by omega), rmf_at (by omega), remA_c]
    by_cases e : k < i
    · rw [if_pos e, if_pos e]; exact (c k (by omega)).2.2.1
    · rw [if_neg e, if_neg e]; exact (c (k + 1) (by omega)).2.2.1
  · have hk : k < aM A - 1 := hk
    rw [pI_2, pF_at, pF_ne (by omega), pF_ne (by omega), pF_ne (by omega), rmf_at (by omega), remA_c]
    by_cases e : k < i
    · rw [if_pos e, if_pos e]; exact (c k (by omega)).2.2.2
    · rw [if_neg e, if_neg e]; exact (c (k + 1) (by omega)).2.2.2
  · rw [pI_2, pF_ne (by omega), pF_ne (by omega), pF_ne (by omega), pF_ne (by omega)]; exact d f hf
  · refine FrO.pI (FrO.pF (j := 10) (FrO.pF (j := 8) (FrO.pF (j := 6) (FrO.pF (j := 4) FrO.rf ?_ ?_) ?_ ?_) ?_ ?_) ?_ ?_) <;> decide
theorem q_setG (h : RS S o A) {f v : Nat} (hf : f < 16) : ∃ T, spX4_set (o + 11) 16 (nI f) (nI v) S = some T ∧ RS T o (A.1, aF A, aC A, putc (aG A) f v) ∧ FrO o S T := by
  obtain ⟨⟨a1, a2, a3, a4, a5, a6⟩, b, c, d⟩ := h
  rw [q_set (by omega) (by omega)]
  refine ⟨_, rfl, ⟨⟨a1, a2, a3, a4, a5, a6⟩, fun k hk => ?_, fun k hk => ⟨?_, ?_, ?_, ?_⟩, fun f' hf' => ?_⟩, FrO.pF (j := 12) FrO.rf (by decide) (by decide)⟩
  · rw [pF_ne (by omega)]; exact b k hk
  · rw [pF_ne (by omega)]; exact (c k hk).1
  · rw [pF_ne (by omega)]; exact (c k hk).2.1
  · rw [pF_ne (by omega)]; exact (c k hk).2.2.1
  · rw [pF_ne (by omega)]; exact (c k hk).2.2.2
  · rw [pF_at]
    show upd (S.2.1 (o + 11 + 1)) f (nI v) f' = nI (putc (aG A) f v f')
    unfold upd putc
    by_cases e : f' = f
    · rw [if_pos e, if_pos e]
    · rw [if_neg e, if_neg e]; exact d f' hf'
theorem q_cntS (h : RS S o A) (b : Nat) : RS (pI S o 10 (S.1 o 10 + nI b)) o (cntA A b) ∧ FrO o S (pI S o 10 (S.1 o 10 + nI b)) := by
  obtain ⟨⟨a1, a2, a3, a4, a5, a6⟩, bb, c, d⟩ := h
  refine ⟨⟨⟨?_, ?_, ?_, ?_, ?_, ?_⟩, bb, c, d⟩, FrO.pI FrO.rf⟩
  · rw [pI_k (by decide)]; exact a1
  · rw [pI_k (by decide)]; exact a2
  · rw [pI_k (by decide)]; exact a3
  · rw [pI_k (by decide)]; exact a4
  · rw [pI_at, a5]; rfl
  · rw [pI_k (by decide)]; exact a6
theorem q_sownS (h : RS S o A) (n : Nat) : RS (pI S o 11 (S.1 o 11 + nI n)) o ((aN A, aR A, aM A, aD A, aE A, aW A + nI n), A.2) ∧ FrO o S (pI S o 11 (S.1 o 11 + nI n)) := by
  obtain ⟨⟨a1, a2, a3, a4, a5, a6⟩, bb, c, d⟩ := h
  refine ⟨⟨⟨?_, ?_, ?_, ?_, ?_, ?_⟩, bb, c, d⟩, FrO.pI FrO.rf⟩
  · rw [pI_k (by decide)]; exact a1
  · rw [pI_k (by decide)]; exact a2
  · rw [pI_k (by decide)]; exact a3
  · rw [pI_k (by decide)]; exact a4
  · rw [pI_k (by decide)]; exact a5
  · rw [pI_at, a6]; rfl
theorem q_dayS (h : RS S o A) : RS (pI S o 9 (S.1 o 9 + 1)) o (dayA A) ∧ FrO o S (pI S o 9 (S.1 o 9 + 1)) := by
  obtain ⟨⟨a1, a2, a3, a4, a5, a6⟩, bb, c, d⟩ := h
  refine ⟨⟨⟨?_, ?_, ?_, ?_, ?_, ?_⟩, bb, c, d⟩, FrO.pI FrO.rf⟩
  · rw [pI_k (by decide)]; exact a1
  · rw [pI_k (by decide)]; exact a2
  · rw [pI_k (by decide)]; exact a3
  · rw [pI_at, a4, nI_1]; rfl
  · rw [pI_k (by decide)]; exact a5
  · rw [pI_k (by decide)]; exact a6
end CHG6

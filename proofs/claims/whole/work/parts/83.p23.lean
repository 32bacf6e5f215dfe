/-! ===== the class reads a word, its parameters, a command ===== -/
def wrd (k : Nat) : List Int32 := bytL.getD (wrdL.getD k 0) []
def shp (k : Nat) : List Int32 := bytL.getD (shpL.getD k 0) []
theorem q_sl (S : Wo) : ∀ t, t < 24 → spJ0_length_8abf5 t S = some (nI (bytL.getD t []).length) := by
  unfold spJ0_length_8abf5 spJ0_coder_7d493
  decide +kernel
theorem q_sc (S : Wo) : ∀ t, t < 24 → ∀ i, i < 9 → i < (bytL.getD t []).length → spJ0_charAt_5068e t (nI i) S = some ((bytL.getD t []).getD i 0) := by
  unfold spJ0_charAt_5068e spJ0_isLatin1_aae02 spJ1_charAt_3b067
  decide +kernel
theorem len_9 : ∀ t, t < 24 → (bytL.getD t []).length ≤ 8 := by decide +kernel
theorem wrd_24 : ∀ k, k < 9 → wrdL.getD k 0 < 24 ∧ shpL.getD k 0 < 24 ∧ 0 < (wrd k).length := by decide +kernel
section RW6
variable {S : Wo} {n q : Nat} {ch : Nat → Int32}
theorem q_cm {t : Nat} (h : TX S n ch q) (hq : q < 1000) (ht : t < 24) : spX1_countMatching t S = some (nI (prI n ch (bytL.getD t []) q)) := by
  have hl := len_9 t ht
  have key : ∀ (rest front : List Int32) f, bytL.getD t [] = front ++ rest → rest.length < f → lpX1_countMatching_2 t S f (nI front.length) = some (nI (front.length + prI n ch rest (q + front.length))) := by
    intro rest
    induction rest with
    | nil =>
      intro front f h1 h2
      obtain ⟨g, rfl⟩ : ∃ g, f = g + 1 := ⟨f - 1, by omega⟩
      rw [List.append_nil] at h1
      rw [lpX1_countMatching_2, q_sl S t ht, Option.bind_some, h1, if_pos (nI_le (Nat.le_refl _) (by rw [← h1]; omega)), Option.bind_some]
      rfl
    | cons c cs ih =>
      intro front f h1 h2
      obtain ⟨g, rfl⟩ : ∃ g, f = g + 1 := ⟨f - 1, by omega⟩
      have hlen : (bytL.getD t []).length = front.length + (cs.length + 1) := by rw [h1, List.length_append, List.length_cons]
      have hget : (bytL.getD t []).getD front.length 0 = c := by rw [h1]; simp
      rw [lpX1_countMatching_2, q_sl S t ht, Option.bind_some, if_neg (nI_ge (by omega) (by omega)), h.2.2.2, nI_add, q_sg h (by omega), Option.bind_some, q_sc S t ht _ (by omega) (by omega), Option.bind_some, hget, prI]
      by_cases e : sg n ch (q + front.length) = c
      · rw [if_pos e, if_pos e, nI_1]
        have := ih (front ++ [c]) g (by rw [h1, List.append_assoc]; rfl) (by rw [List.length_cons] at h2; omega)
        rw [List.length_append, List.length_singleton] at this
        rw [this]
        congr 2
        rw [← Nat.add_assoc q]
        omega
      · rw [if_neg e, if_neg e, Nat.add_zero]
  have := key (bytL.getD t []) [] 200 rfl (by omega)
  rw [List.length_nil, Nat.zero_add, Nat.add_zero] at this
  exact this
/-- the words in their order: the first that matches whole, else the furthest match -/
def rwF (n : Nat) (ch : Nat → Int32) (q : Nat) : Nat → Nat → Nat → Option Nat × Nat
  | 0, _, mx => (none, mx)
  | d + 1, k, mx => if prI n ch (wrd k) q = (wrd k).length then (some k, (wrd k).length) else rwF n ch q d (k + 1) (if mx < prI n ch (wrd k) q then prI n ch (wrd k) q else mx)
theorem q_rw (h : TX S n ch q) (hq : q < 1000) : spX1_readWord S = some ((rwF n ch q 9 0 0).1.elim (0, pI S 159 2 (nI (q + (rwF n ch q 9 0 0).2))) (fun k => (1, pI (pK S k) 159 2 (nI (q + (rwF n ch q 9 0 0).2))))) := by
  have key : ∀ d k mx f, k + d = 9 → d < f → mx ≤ 8 → lpX1_readWord_4 f (nI mx) (nI k) S = some ((rwF n ch q d k mx).1.elim (0, pI S 159 2 (nI (q + (rwF n ch q d k mx).2))) (fun k' => (1, pI (pK S k') 159 2 (nI (q + (rwF n ch q d k mx).2))))) := by
    intro d
    induction d with
    | zero =>
      intro k mx f h1 h2 h3
      obtain ⟨g, rfl⟩ : ∃ g, f = g + 1 := ⟨f - 1, by omega⟩
      have e : k = 9 := by omega
      subst e
      rw [lpX1_readWord_4, if_pos (by decide), wr_eq, h.2.2.2, nI_add]
      rfl
    | succ d ih =>
      intro k mx f h1 h2 h3
      obtain ⟨g, rfl⟩ : ∃ g, f = g + 1 := ⟨f - 1, by omega⟩
      have hk : k < 9 := by omega
      obtain ⟨w1, w2, w3⟩ := wrd_24 k hk
      have hl := len_9 _ w1
      have hp := prI_le n ch (wrd k) q
      have hwl : (wrd k).length ≤ 8 := hl
      rw [lpX1_readWord_4, if_neg (show ¬ (9 : Int32) ≤ nI k from show ¬ nI 9 ≤ nI k from nI_ge hk (by decide)), if_pos (q_in hk (by decide)), q_ix (by omega), if_pos hk, q_cm h hq w1, Option.bind_some, if_pos hk, q_sl S _ w1, Option.bind_some, rwF]
      show (if nI (prI n ch (wrd k) q) = nI (wrd k).length then _ else _) = _
      by_cases e : prI n ch (wrd k) q = (wrd k).length
      · rw [if_pos (by rw [e]), if_pos e]
        have e2 : nI (prI n ch (bytL.getD (wrdL.getD k 0) []) q) = nI (wrd k).length := by rw [← e]; rfl
        rw [e2, wr_eq, wr_eq]
        have e3 : (pK S k).1 159 2 = nI q := h.2.2.2
        rw [e3, nI_add]
        rfl
      · rw [if_neg (fun z => e ((nI_eq (by omega) (by omega)).mp z)), if_neg e, nI_1]
        have e4 : (if nI mx < nI (prI n ch (bytL.getD (wrdL.getD k 0) []) q) then nI (prI n ch (bytL.getD (wrdL.getD k 0) []) q) else nI mx) = nI (if mx < prI n ch (wrd k) q then prI n ch (wrd k) q else mx) := by
          show (if nI mx < nI (prI n ch (wrd k) q) then nI (prI n ch (wrd k) q) else nI mx) = _
          by_cases e5 : mx < prI n ch (wrd k) q
          · rw [if_pos (nI_lt e5 (by omega)), if_pos e5]
          · rw [if_neg (nI_nlt (by omega) (by omega)), if_neg e5]
        rw [e4]
        refine ih (k + 1) _ g (by omega) (by omega) ?_
        by_cases e5 : mx < prI n ch (wrd k) q
        · rw [if_pos e5]; omega
        · rw [if_neg e5]; exact h3
  exact key 9 0 0 200 rfl (by decide) (by decide)
/-- the parameters by their shape: read whole?, up to where, and the numbers -/
def prm (n : Nat) (ch : Nat → Int32) : List Int32 → Nat → Nat → (Nat → Int32) → Bool × Nat × (Nat → Int32)
  | [], q, _, P => (true, q, P)
  | s :: ss, q, c, P => if s = 100 ∨ s = 110 then (if (rdn n ch (if s = 100 then 1 else 2) q).1 = 0 then (false, q, P) else prm n ch ss (q + (rdn n ch (if s = 100 then 1 else 2) q).1) (c + 1) (upd P c (nI (rdn n ch (if s = 100 then 1 else 2) q).2)))
    else if sg n ch q = s then prm n ch ss (q + 1) c P else (false, q, P)
def cD : List Int32 → Nat
  | [] => 0
  | s :: ss => (if s = 100 ∨ s = 110 then 1 else 0) + cD ss
theorem cD_3 : ∀ k, k < 9 → cD (shp k) ≤ 3 := by decide +kernel
theorem q_pr {k : Nat} (hk : k < 9) : ∀ (rest front : List Int32) q c f (S : Wo), shp k = front ++ rest → rest.length < f → TX S n ch q → q ≤ n → c + cD rest ≤ 3 → S.2.2.1.1 = k → ∃ T, lpX1_readParameters_4 f (nI c) (nI front.length) S = some (b2 (prm n ch rest q c (S.2.1 163)).1, T) ∧ TX T n ch (prm n ch rest q c (S.2.1 163)).2.1 ∧ T.2.1 163 = (prm n ch rest q c (S.2.1 163)).2.2 ∧ FrT S T ∧ T.2.2.1.1 = k := by
  obtain ⟨w1, w2, w3⟩ := wrd_24 k hk
  have hl := len_9 _ w2
  have hsl : (shp k).length ≤ 8 := hl
  intro rest
  induction rest with
  | nil =>
    intro front q c f S h1 h2 h hqn hc hK
    obtain ⟨g, rfl⟩ : ∃ g, f = g + 1 := ⟨f - 1, by omega⟩
    rw [List.append_nil] at h1
    rw [lpX1_readParameters_4, hK, if_pos hk, q_sl S _ w2, Option.bind_some]
    show ∃ T, (if nI (shp k).length ≤ nI front.length then _ else _) = _ ∧ _
    rw [if_pos (nI_le (by rw [h1]; exact Nat.le_refl _) (by rw [← h1]; omega))]
    exact ⟨S, rfl, h, rfl, FrT.rf, hK⟩
  | cons s ss ih =>
    intro front q c f S h1 h2 h hqn hc hK
    obtain ⟨g, rfl⟩ : ∃ g, f = g + 1 := ⟨f - 1, by omega⟩
    have hlen : (shp k).length = front.length + (ss.length + 1) := by rw [h1, List.length_append, List.length_cons]
    have hget : (bytL.getD (shpL.getD k 0) []).getD front.length 0 = s := by
      show (shp k).getD front.length 0 = s
      rw [h1]; simp
    have hgl : front.length < (bytL.getD (shpL.getD k 0) []).length := by
      show front.length < (shp k).length
      omega
    have hn60 := h.1
    have hnext : shp k = (front ++ [s]) ++ ss := by rw [h1, List.append_assoc]; rfl
    have hfl : (front ++ [s]).length = front.length + 1 := by rw [List.length_append, List.length_singleton]
    have hg2 : ss.length < g := by rw [List.length_cons] at h2; omega
    rw [lpX1_readParameters_4, hK, if_pos hk, q_sl S _ w2, Option.bind_some]
    show ∃ T, (if nI (shp k).length ≤ nI front.length then _ else _) = _ ∧ _
    rw [if_neg (nI_ge (by omega) (by omega)), if_pos hk, q_sc S _ w2 _ (by omega) hgl, Option.bind_some, hget, jn_e]
    dsimp only
    rw [cD] at hc
    have digits : ∀ m, (m = 1 ∨ m = 2) → (s = 100 ∨ s = 110) → prm n ch (s :: ss) q c (S.2.1 163) = (if (rdn n ch m q).1 = 0 then (false, q, S.2.1 163) else prm n ch ss (q + (rdn n ch m q).1) (c + 1) (upd (S.2.1 163) c (nI (rdn n ch m q).2))) → ∃ T, (bd2 (spX1_readDigits (nI m) S) (fun x7 S8 => (if x7 = -1 then rz 0 (fun y => some (y, S8)) else (spX4_set 162 3 (nI c) x7 S8).bind (fun S9 => lpX1_readParameters_4 g (nI c + 1) (nI front.length + 1) S9)))) = some (b2 (prm n ch (s :: ss) q c (S.2.1 163)).1, T) ∧ TX T n ch (prm n ch (s :: ss) q c (S.2.1 163)).2.1 ∧ T.2.1 163 = (prm n ch (s :: ss) q c (S.2.1 163)).2.2 ∧ FrT S T ∧ T.2.2.1.1 = k := by
      intro m hm hs hsm
      rw [hsm, q_rd1 h (by omega) (by omega) (by omega)]
      rw [if_pos hs] at hc
      by_cases e : (rdn n ch m q).1 = 0
      · rw [if_pos e, bd2_s, if_pos rfl, if_pos e]
        exact ⟨S, rfl, h, rfl, FrT.rf, hK⟩
      · have hr := rdn_le n ch m q
        have hi := rdn_in (ch := ch) (most := m) hqn
        rw [if_neg e, bd2_s, if_neg (q_m1 (by omega)), q_set (by omega) (by decide), Option.bind_some, nI_1, nI_1, if_neg e]
        have h3 := (h.mv (q + (rdn n ch m q).1)).pF (upd ((pI S 159 2 (nI (q + (rdn n ch m q).1))).2.1 163) c (nI (rdn n ch m q).2))
        obtain ⟨T, e1, t1, p1, f1, k1⟩ := ih (front ++ [s]) (q + (rdn n ch m q).1) (c + 1) g _ hnext hg2 h3 hi (by omega) hK
        rw [hfl] at e1
        rw [pF_at] at t1 p1
        exact ⟨T, by rw [pF_at] at e1; exact e1, t1, p1, (FrT.rf.pI.pF).tr f1, k1⟩
    by_cases e1 : s = 100
    · rw [if_pos e1, if_pos e1]
      exact digits 1 (Or.inl rfl) (Or.inl e1) (by rw [prm, if_pos (Or.inl e1), if_pos e1])
    · rw [if_neg e1]
      by_cases e2 : s = 110
      · rw [if_pos e2, if_neg e1]
        exact digits 2 (Or.inr rfl) (Or.inr e2) (by rw [prm, if_pos (Or.inr e2), if_neg e1])
      · have hs : ¬ (s = 100 ∨ s = 110) := fun z => z.elim e1 e2
        rw [prm, if_neg e2, if_neg hs, q_rs h (by omega)]
        rw [if_neg hs] at hc
        by_cases e3 : sg n ch q = s
        · have hq2 : q + 1 ≤ n := by
            by_cases z : q < n
            · exact z
            · exfalso
              unfold sg at e3
              rw [if_neg z] at e3
              have hne : ∀ k, k < 9 → ∀ c ∈ shp k, ¬ c = -1 := by decide +kernel
              exact hne k hk s (by rw [h1]; simp) e3.symm
          rw [if_pos e3, bd2_s, if_neg i1_0, if_pos e3, nI_1]
          obtain ⟨T, e4, t1, p1, f1, k1⟩ := ih (front ++ [s]) (q + 1) c g _ hnext hg2 (h.mv (q + 1)) hq2 (by omega) hK
          rw [hfl] at e4
          exact ⟨T, e4, t1, p1, FrT.rf.pI.tr f1, k1⟩
        · rw [if_neg e3, bd2_s, if_pos rfl, if_neg e3]
          exact ⟨S, rfl, h, rfl, FrT.rf, hK⟩
end RW6

/-! ===== a whole text ===== -/
def txt (n : Nat) (ch : Nat → Int32) : Nat → Nat → Bool × Nat × List (Nat × List Nat)
  | 0, q => (false, q, [])
  | f + 1, q => if (cmd n ch q).1 = true then (if sg n ch (cmd n ch q).2.1 = 59 then ((txt n ch f ((cmd n ch q).2.1 + 1)).1, (txt n ch f ((cmd n ch q).2.1 + 1)).2.1, (cmd n ch q).2.2 :: (txt n ch f ((cmd n ch q).2.1 + 1)).2.2) else if (cmd n ch q).2.1 = n then (true, (cmd n ch q).2.1, [(cmd n ch q).2.2]) else (false, (cmd n ch q).2.1, [])) else (false, (cmd n ch q).2.1, [])
/-- from q on the text is these commands -/
def PL (n : Nat) (ch : Nat → Int32) : Nat → List (Nat × List Nat) → Prop
  | _, [] => False
  | q, [c] => (cmd n ch q).1 = true ∧ (cmd n ch q).2.1 = n ∧ (cmd n ch q).2.2 = c
  | q, c :: d :: r => (cmd n ch q).1 = true ∧ (cmd n ch q).2.2 = c ∧ sg n ch (cmd n ch q).2.1 = 59 ∧ PL n ch ((cmd n ch q).2.1 + 1) (d :: r)
def AtP (n : Nat) (ch : Nat → Int32) (p q : Nat) : Prop := (p = 0 ∧ q = 0) ∨ (0 < p ∧ sg n ch p = 59 ∧ q = p + 1)
section TXT
variable {n : Nat} {ch : Nat → Int32}
theorem PL_c {q : Nat} {c : Nat × List Nat} {r : List (Nat × List Nat)} (h1 : (cmd n ch q).1 = true) (h2 : (cmd n ch q).2.2 = c) (h3 : sg n ch (cmd n ch q).2.1 = 59) (h4 : PL n ch ((cmd n ch q).2.1 + 1) r) : PL n ch q (c :: r) := by
  cases r with
  | nil => exact absurd h4 (by intro z; exact z)
  | cons d r => exact ⟨h1, h2, h3, h4⟩
theorem txt_ok : ∀ f q, (txt n ch f q).1 = true → PL n ch q (txt n ch f q).2.2 ∧ q + 4 * (txt n ch f q).2.2.length ≤ (txt n ch f q).2.1 + 1 ∧ (txt n ch f q).2.1 = n := by
  intro f
  induction f with
  | zero => intro q h; exact absurd h Bool.false_ne_true
  | succ f ih =>
    intro q
    rw [txt]
    by_cases c1 : (cmd n ch q).1 = true
    · have hl := (cmd_len c1).2.2
      rw [if_pos c1]
      by_cases c2 : sg n ch (cmd n ch q).2.1 = 59
      · rw [if_pos c2]
        intro h
        obtain ⟨a, b, d⟩ := ih _ h
        refine ⟨PL_c c1 rfl c2 a, ?_, d⟩
        show q + 4 * ((txt n ch f ((cmd n ch q).2.1 + 1)).2.2.length + 1) ≤ (txt n ch f ((cmd n ch q).2.1 + 1)).2.1 + 1
        omega
      · rw [if_neg c2]
        by_cases c3 : (cmd n ch q).2.1 = n
        · rw [if_pos c3]
          intro _
          refine ⟨⟨c1, c3, rfl⟩, ?_, c3⟩
          show q + 4 * 1 ≤ (cmd n ch q).2.1 + 1
          omega
        · rw [if_neg c3]; intro h; exact absurd h Bool.false_ne_true
    · rw [if_neg c1]; intro h; exact absurd h Bool.false_ne_true
theorem q_rc {S : Wo} {p q : Nat} (h : TX S n ch p) (ha : AtP n ch p q) (hp : p ≤ n) (hch : True) : ∃ T, spX1_readCommand S = some (b2 (cmd n ch q).1, T) ∧ TX T n ch (cmd n ch q).2.1 ∧ FrT S T ∧ Cv (cmd n ch q) T := by
  rcases ha with ⟨rfl, rfl⟩ | ⟨h0, e, rfl⟩
  · exact q_rc0 h hch
  · exact q_rcs h h0 hp e hch
theorem AtP.le {p q : Nat} (ha : AtP n ch p q) (hp : p ≤ n) : q ≤ n := by
  rcases ha with ⟨rfl, rfl⟩ | ⟨h0, e, rfl⟩
  · exact hp
  · exact sg_lt e (by decide)
/-- the class counts the commands -/
theorem q_cntC (hch : True) : ∀ f p q v g (S : Wo), TX S n ch p → AtP n ch p q → p ≤ n → 63 ≤ q + 4 * f → f < g → 4 * v ≤ q + 4 → ∃ w T, lpX1_countCommands_6 g (nI v) S = some (w, T) ∧ TX T n ch (txt n ch f q).2.1 ∧ FrT S T ∧ ((txt n ch f q).1 = true → w + 1 = nI (v + (txt n ch f q).2.2.length)) ∧ ((txt n ch f q).1 = false → w = -1) := by
  intro f
  induction f with
  | zero =>
    intro p q v g S h ha hp hf hg hv
    have := ha.le hp
    have := h.1
    omega
  | succ f ih =>
    intro p q v g S h ha hp hf hg hv
    have hn := h.1
    have hqn := ha.le hp
    obtain ⟨g, rfl⟩ : ∃ g', g = g' + 1 := ⟨g - 1, by omega⟩
    obtain ⟨T, e1, h2, f2, -⟩ := q_rc h ha hp hch
    obtain ⟨b1, b2'⟩ := cmd_in (n := n) (ch := ch) hqn hch
    rw [lpX1_countCommands_6, if_neg (show ¬ (60 : Int32) < nI v from show ¬ nI 60 < nI v from nI_nlt (by omega) (by decide)), e1, bd2_s, txt]
    by_cases c1 : (cmd n ch q).1 = true
    · have hl := (cmd_len c1).2.2
      rw [c1, if_neg (show ¬ b2 true = 0 from i1_0), if_pos rfl, h2.2.2.2, h2.2.1]
      by_cases c3 : (cmd n ch q).2.1 = n
      · have c2 : ¬ sg n ch (cmd n ch q).2.1 = 59 := fun z => by
          have := sg_lt z (by decide)
          omega
        rw [if_pos (by rw [c3]), if_neg c2, if_pos c3]
        refine ⟨_, T, rfl, h2, f2, fun _ => ?_, fun z => absurd z.symm Bool.false_ne_true⟩
        rw [nI_1]; rfl
      · rw [if_neg (fun z => c3 ((nI_eq (by omega) (by omega)).mp z)), nI_1]
        by_cases c2 : sg n ch (cmd n ch q).2.1 = 59
        · rw [if_pos c2]
          obtain ⟨w, U, u1, u2, u3, u4, u5⟩ := ih (cmd n ch q).2.1 ((cmd n ch q).2.1 + 1) (v + 1) g T h2 (Or.inr ⟨by omega, c2, rfl⟩) b1 (by omega) (by omega) (by omega)
          refine ⟨w, U, u1, u2, f2.tr u3, fun z => ?_, u5⟩
          rw [u4 z]
          congr 1
          show _ = v + ((txt n ch f ((cmd n ch q).2.1 + 1)).2.2.length + 1)
          omega
        · rw [if_neg c2, if_neg c3]
          obtain ⟨g, rfl⟩ : ∃ g', g = g' + 1 := ⟨g - 1, by omega⟩
          rw [lpX1_countCommands_6, if_neg (show ¬ (60 : Int32) < nI (v + 1) from show ¬ nI 60 < nI (v + 1) from nI_nlt (by omega) (by decide)), q_rcn h2 (by omega) b1 c2, bd2_s, if_pos rfl]
          exact ⟨_, T, rfl, h2, f2, fun z => absurd z Bool.false_ne_true, fun _ => rfl⟩
    · have c1' : (cmd n ch q).1 = false := by
        cases e : (cmd n ch q).1 with
        | true => exact absurd e c1
        | false => rfl
      rw [c1', if_pos (show b2 false = 0 from rfl), if_neg Bool.false_ne_true]
      exact ⟨_, T, rfl, h2, f2, fun z => absurd z Bool.false_ne_true, fun _ => rfl⟩
/-- the i-th command as the reference keeps it -/
def Ent (T : Wo) (i : Nat) (c : Nat × List Nat) : Prop := T.2.1 174 (4 * i) = nI c.1 ∧ ∀ a, a < (Fg c.1).length → T.2.1 174 (4 * i + 1 + a) = nI (c.2.getD a 0)
def FrU (S T : Wo) : Prop := (∀ a, a ≠ 166 → T.1 a = S.1 a) ∧ (∀ k, k ≠ 18 → k ≠ 20 → T.1 166 k = S.1 166 k) ∧ (∀ a, a ≠ 174 → T.2.1 a = S.2.1 a) ∧ T.2.2 = S.2.2
theorem FrU.rf {S : Wo} : FrU S S := ⟨fun _ _ => rfl, fun _ _ _ => rfl, fun _ _ => rfl, rfl⟩
theorem FrU.tr {S T U : Wo} (h1 : FrU S T) (h2 : FrU T U) : FrU S U := ⟨fun a h => (h2.1 a h).trans (h1.1 a h), fun a h h' => (h2.2.1 a h h').trans (h1.2.1 a h h'), fun a h => (h2.2.2.1 a h).trans (h1.2.2.1 a h), h2.2.2.2.trans h1.2.2.2⟩
theorem FrU.pI {S T : Wo} {k : Nat} {v : Int32} (h : FrU S T) (hk : k = 18 ∨ k = 20) : FrU S (pI T 166 k v) := h.tr ⟨fun a ha => pI_ne ha, fun j h1 h2 => pI_k (by omega), fun _ _ => rfl, rfl⟩
theorem FrV.u {S T : Wo} (h : FrV S T) : FrU S T := ⟨h.1, fun k h1 _ => h.2.1 k h1, h.2.2.1, h.2.2.2⟩
theorem q_ist (hch : True) : ∀ f q i g (S : Wo), RX S n ch q → q ≤ n → S.1 166 20 = nI i → 4 * i ≤ q → 63 ≤ q + 4 * f → f < g → ∃ T, lpX7_isText_10 g S = some (b2 (txt n ch f q).1, T) ∧ RX T n ch (txt n ch f q).2.1 ∧ FrU S T ∧ (∀ j, j < 4 * i → T.2.1 174 j = S.2.1 174 j) ∧ ((txt n ch f q).1 = true → T.1 166 20 = nI (i + (txt n ch f q).2.2.length) ∧ ∀ j c, (txt n ch f q).2.2[j]? = some c → Ent T (i + j) c) := by
  intro f
  induction f with
  | zero =>
    intro q i g S h hq hi hi2 hf hg
    have := h.1
    omega
  | succ f ih =>
    intro q i g S h hq hi hi2 hf hg
    have hn := h.1
    obtain ⟨g, rfl⟩ : ∃ g', g = g' + 1 := ⟨g - 1, by omega⟩
    obtain ⟨T, e1, h2, f2, a2, v2⟩ := q_cmd7 h hq hi (by omega) hch
    obtain ⟨b1, b2'⟩ := cmd_in (n := n) (ch := ch) hq hch
    rw [lpX7_isText_10, e1, bd2_s, txt]
    by_cases c1 : (cmd n ch q).1 = true
    · have hl := (cmd_len c1).2.2
      have hi' : T.1 166 20 = nI i := by rw [f2.2.1 20 (by decide)]; exact hi
      have h3 : RX (pI T 166 20 (nI (i + 1))) n ch (cmd n ch q).2.1 := ⟨h2.1, by rw [pI_k (by decide)]; exact h2.2.1, h2.2.2.1, by rw [pI_k (by decide)]; exact h2.2.2.2⟩
      rw [c1, if_neg (show ¬ b2 true = 0 from i1_0), if_pos rfl, wr_eq, hi', nI_1, q_skips h3 (by omega)]
      obtain ⟨v3, v4⟩ := v2 c1
      have en : ∀ U : Wo, (∀ j, j < 4 * (i + 1) → U.2.1 174 j = T.2.1 174 j) → Ent U i (cmd n ch q).2.2 := by
        intro U hU
        obtain ⟨-, -, -, -, w3, -⟩ := w_sh _ (cmd_len c1).1
        refine ⟨by rw [hU _ (by omega)]; exact v3, fun a ha => ?_⟩
        rw [hU _ (by omega)]
        exact v4 a ha
      by_cases c2 : sg n ch (cmd n ch q).2.1 = 59
      · have hlt := sg_lt c2 (by decide)
        rw [if_pos c2, if_pos c2, bd2_s, if_neg i1_0]
        obtain ⟨U, u1, u2, u3, u4, u5⟩ := ih ((cmd n ch q).2.1 + 1) (i + 1) g _ (h3.mv _) hlt (by rw [pI_k (by decide), pI_at]) (by omega) (by omega) (by omega)
        refine ⟨U, u1, u2, f2.u.tr ((FrU.rf.pI (Or.inr rfl)).pI (Or.inl rfl) |>.tr u3), fun j hj => ?_, fun z => ?_⟩
        · rw [u4 j (by omega)]
          exact a2 j hj
        · obtain ⟨u6, u7⟩ := u5 z
          refine ⟨?_, fun j c hj => ?_⟩
          · rw [u6]
            congr 1
            show _ = i + ((txt n ch f ((cmd n ch q).2.1 + 1)).2.2.length + 1)
            omega
          · cases j with
            | zero =>
              have hj : some (cmd n ch q).2.2 = some c := hj
              cases hj
              exact en U (fun j hj => u4 j hj)
            | succ j =>
              have := u7 j c hj
              rw [show i + (j + 1) = i + 1 + j by omega]
              exact this
      · rw [if_neg c2, if_neg c2, bd2_s, if_pos rfl]
        have e18 : (pI T 166 20 (nI (i + 1))).1 166 18 = nI (cmd n ch q).2.1 := h3.2.2.2
        have e14 : (pI T 166 20 (nI (i + 1))).1 166 14 = nI n := h3.2.1
        rw [e18, e14]
        by_cases c3 : (cmd n ch q).2.1 = n
        · rw [if_pos (by rw [c3]), if_pos c3]
          refine ⟨_, rfl, h3, f2.u.tr (FrU.rf.pI (Or.inr rfl)), a2, fun _ => ⟨?_, fun j c hj => ?_⟩⟩
          · rw [pI_at]; rfl
          · cases j with
            | zero =>
              have hj : some (cmd n ch q).2.2 = some c := hj
              cases hj
              exact en _ (fun j hj => rfl)
            | succ j => cases hj
        · rw [if_neg (fun z => c3 ((nI_eq (by omega) (by omega)).mp z)), if_neg c3]
          exact ⟨_, rfl, h3, f2.u.tr (FrU.rf.pI (Or.inr rfl)), a2, fun z => absurd z Bool.false_ne_true⟩
    · have c1' : (cmd n ch q).1 = false := by
        cases e : (cmd n ch q).1 with
        | true => exact absurd e c1
        | false => rfl
      rw [c1', if_pos (show b2 false = 0 from rfl), if_neg Bool.false_ne_true]
      exact ⟨T, rfl, h2, f2.u, a2, fun z => absurd z Bool.false_ne_true⟩
end TXT

/-! ===== chains: their length, how long they hold, followed back ===== -/
def chl (A : As) (s : Nat) : Option Nat := fst (fun L => bt (tFr A (aD A) L) s) 1 10
def dut (A : As) (s : Nat) : Option Nat := fst (fun k => !bt (cfd A (aD A + k)) s) 0 100
theorem cfd_late {A : As} {D d : Nat} (w : WF0 D A) (hd : aD A + 100 ≤ d) {i : Nat} (hi : i < 32) : bt (cfd A d) i = false := by
  rw [Bool.eq_false_iff]
  intro q
  obtain ⟨h1, c, h2, h3, h4⟩ := (tTo_bt (X := tFr A d 9) w hi).mp q
  have := (w.2.2.1 c h2).2.2.2
  unfold hol at h3
  rw [Bool.and_eq_true, decide_eq_true_eq] at h3
  omega
theorem chl_0 {A : As} {s : Nat} : fst (fun L => bt (tFr A (aD A) L) s) 0 11 = chl A s := by
  rw [fst, if_neg (by show ¬ bt 0 s = true; rw [b_0]; decide)]
  rfl
theorem chl_iff {A : As} {D s : Nat} (w : WF0 D A) (hs : s < 32) : (chl A s = none ↔ bt (cfd A (aD A)) s = false) := by
  constructor
  · intro h
    exact fst_none h 10 (by omega) (by omega)
  · intro h
    cases hc : chl A s with
    | none => rfl
    | some k =>
      exfalso
      obtain ⟨h1, h2, h3, h4⟩ := fst_some hc
      have h5 := tFr_le w (r := k) (10 - k) s hs h3
      rw [show k + (10 - k) = 10 by omega] at h5
      unfold cfd at h
      rw [h] at h5
      cases h5
section CHN
variable {S : Wo} {o D s : Nat} {A : As} {X : Int32}
theorem q_chl (h : RS S 1 A) (w : WF0 D A) (hs : s < 32) : lpX6_chainLength_7 (nI s) 200 1 S = some ((chl A s).elim (3, 0, S) (fun k => (0, nI k, S))) := by
  have h1 := w.1.2.2.1
  have h2 := w.1.2.2.2
  refine (lp_fst (L := fun f t => lpX6_chainLength_7 (nI s) f (nI t) S) (P := fun L => bt (tFr A (aD A) L) s) (m := 11) (r := some (3, 0, S)) (R := fun k => some (0, nI k, S)) ?_ ?_ ?_ 10 1 200 (by omega) (by omega)).trans ?_
  · intro f t ht hp
    show lpX6_chainLength_7 (nI s) (f + 1) (nI t) S = lpX6_chainLength_7 (nI s) f (nI (t + 1)) S
    rw [lpX6_chainLength_7, if_neg (show ¬ (10 : Int32) < nI t from show ¬ nI 10 < nI t from nI_nlt (by omega) (by omega)), h.1.2.2.2.1, q_cfdW h w (by omega) (by omega), Option.bind_some, q_has hs, Option.bind_some, hp, if_pos (show b2 false = 0 from rfl), nI_1]
  · intro f t ht hp
    show lpX6_chainLength_7 (nI s) (f + 1) (nI t) S = _
    rw [lpX6_chainLength_7, if_neg (show ¬ (10 : Int32) < nI t from show ¬ nI 10 < nI t from nI_nlt (by omega) (by omega)), h.1.2.2.2.1, q_cfdW h w (by omega) (by omega), Option.bind_some, q_has hs, Option.bind_some, hp, if_neg (show ¬ b2 true = 0 from by decide)]
  · intro f
    show lpX6_chainLength_7 (nI s) (f + 1) (nI 11) S = _
    rw [lpX6_chainLength_7, if_pos (by decide)]
  · unfold chl
    cases fst (fun L => bt (tFr A (aD A) L) s) 1 10 <;> rfl
theorem q_c61 {p : Int32} (h : RG (S.2.1 167) A) (w : WF0 D A) (w3 : Int32) (K : Int32 → Int32 → Wo → Option (Int32 × Wo)) (a : Int32) : lpX7_chainLength_61 p X w3 K 200 a 0 S = K (orB (uP A (aD A) X) (fun c => (aC A c).2.1) a (aM A)) (nI (aM A)) S := by
  have hm := w.1.2.1
  have hn := w.1.1
  have h1 := w.1.2.2.1
  have h2 := w.1.2.2.2
  refine lp_up (L := fun f t => lpX7_chainLength_61 p X w3 K f (orB (uP A (aD A) X) (fun c => (aC A c).2.1) a t) (nI t) S) (m := aM A) ?_ ?_ (aM A) 0 200 (by omega) (by omega)
  · intro f t ht
    obtain ⟨w1, w2, w3', w4⟩ := w.2.2.1 t ht
    show lpX7_chainLength_61 p X w3 K (f + 1) (orB (uP A (aD A) X) (fun c => (aC A c).2.1) a t) (nI t) S = lpX7_chainLength_61 p X w3 K f (orB (uP A (aD A) X) (fun c => (aC A c).2.1) a (t + 1)) (nI (t + 1)) S
    rw [lpX7_chainLength_61, if_pos in_1, ix_1, if_neg (fun e => absurd ((rg_m h w (by omega)).mp e) (by omega)), if_pos in_2, q_day7 h, q_holds h w ht (by omega), Option.bind_some, if_pos in_15, ix_15, rg_s h w ht, h.1.2.1, nI_1, orB, uP]
    cases hh : hol A (aD A) X t
    · rw [if_pos (show b2 false = 0 from rfl)]; rfl
    · rw [if_neg (show ¬ b2 true = 0 from by decide), Option.bind_some, q_has7 (by omega), Option.bind_some]
      cases hb : bt (aR A) (aC A t).2.1
      · rw [if_pos (show b2 false = 0 from rfl), Option.bind_some]; rfl
      · rw [if_neg (show ¬ b2 true = 0 from by decide)]; rfl
  · intro f
    show lpX7_chainLength_61 p X w3 K (f + 1) (orB (uP A (aD A) X) (fun c => (aC A c).2.1) a (aM A)) (nI (aM A)) S = _
    rw [lpX7_chainLength_61, if_pos in_1, ix_1, if_pos ((rg_m h w (by omega)).mpr (Nat.le_refl _))]
theorem q_chl7 (h : RG (S.2.1 167) A) (w : WF0 D A) (hs : s < 32) (hc : bt (cfd A (aD A)) s = true) : lpX7_chainLength_47 (nI s) 200 0 0 S = some ((chl A s).elim (nI 11, S) (fun k => (nI k, S))) := by
  refine (lp_fst (L := fun f t => lpX7_chainLength_47 (nI s) f (tFr A (aD A) t) (nI t) S) (P := fun L => bt (tFr A (aD A) L) s) (m := 11) (r := some (nI 11, S)) (R := fun k => some (nI k, S)) ?_ ?_ ?_ 11 0 200 (by omega) (by omega)).trans ?_
  · intro f t ht hp
    show lpX7_chainLength_47 (nI s) (f + 1) (tFr A (aD A) t) (nI t) S = lpX7_chainLength_47 (nI s) f (tFr A (aD A) (t + 1)) (nI (t + 1)) S
    rw [lpX7_chainLength_47, q_has7 hs, Option.bind_some, hp, if_pos (show b2 false = 0 from rfl), q_c61 h w, uTo w (tFr_up w t), nI_1]
    rfl
  · intro f t ht hp
    show lpX7_chainLength_47 (nI s) (f + 1) (tFr A (aD A) t) (nI t) S = _
    rw [lpX7_chainLength_47, q_has7 hs, Option.bind_some, hp, if_neg (show ¬ b2 true = 0 from by decide)]
  · intro f
    show lpX7_chainLength_47 (nI s) (f + 1) (tFr A (aD A) 11) (nI 11) S = _
    have e : bt (tFr A (aD A) 11) s = true := by rw [tFr_10 w 1]; exact hc
    rw [lpX7_chainLength_47, q_has7 hs, Option.bind_some, e, if_neg (show ¬ b2 true = 0 from by decide)]
  · rw [chl_0]
    cases chl A s <;> rfl
theorem q_dut (h : RS S 1 A) (w : WF0 D A) (hs : s < 32) : lpX6_daysUntilUncertified_7 (nI s) 200 0 S = some (0, nI ((dut A s).getD 100), S) := by
  have h1 := w.1.2.2.1
  have h2 := w.1.2.2.2
  refine (lp_fst (L := fun f t => lpX6_daysUntilUncertified_7 (nI s) f (nI t) S) (P := fun k => !bt (cfd A (aD A + k)) s) (m := 100) (r := some (0, nI 100, S)) (R := fun k => some (0, nI k, S)) ?_ ?_ ?_ 100 0 200 (by omega) (by omega)).trans ?_
  · intro f t ht hp
    have hp2 : bt (cfd A (aD A + t)) s = true := by simpa using hp
    show lpX6_daysUntilUncertified_7 (nI s) (f + 1) (nI t) S = lpX6_daysUntilUncertified_7 (nI s) f (nI (t + 1)) S
    rw [lpX6_daysUntilUncertified_7, if_neg (show ¬ (99 : Int32) < nI t from show ¬ nI 99 < nI t from nI_nlt (by omega) (by omega)), h.1.2.2.2.1, nI_add, q_cfd h w (by omega), Option.bind_some, q_has hs, Option.bind_some, hp2, if_neg (show ¬ b2 true = 0 from by decide), nI_1]
  · intro f t ht hp
    have hp2 : bt (cfd A (aD A + t)) s = false := by simpa using hp
    show lpX6_daysUntilUncertified_7 (nI s) (f + 1) (nI t) S = _
    rw [lpX6_daysUntilUncertified_7, if_neg (show ¬ (99 : Int32) < nI t from show ¬ nI 99 < nI t from nI_nlt (by omega) (by omega)), h.1.2.2.2.1, nI_add, q_cfd h w (by omega), Option.bind_some, q_has hs, Option.bind_some, hp2, if_pos (show b2 false = 0 from rfl)]
  · intro f
    show lpX6_daysUntilUncertified_7 (nI s) (f + 1) (nI 100) S = _
    rw [lpX6_daysUntilUncertified_7, if_pos (by decide)]
    rfl
  · unfold dut
    cases fst (fun k => !bt (cfd A (aD A + k)) s) 0 100 <;> rfl
theorem q_dut7 (h : RG (S.2.1 167) A) (w : WF0 D A) (hs : s < 32) : lpX7_daysUntilUncertified_12 (nI s) 200 0 S = some (nI ((dut A s).getD 100), S) := by
  have h1 := w.1.2.2.1
  have h2 := w.1.2.2.2
  refine (lp_fst (L := fun f t => lpX7_daysUntilUncertified_12 (nI s) f (nI t) S) (P := fun k => !bt (cfd A (aD A + k)) s) (m := 100) (r := some (nI 100, S)) (R := fun k => some (nI k, S)) ?_ ?_ ?_ 100 0 200 (by omega) (by omega)).trans ?_
  · intro f t ht hp
    have hp2 : bt (cfd A (aD A + t)) s = true := by simpa using hp
    show lpX7_daysUntilUncertified_12 (nI s) (f + 1) (nI t) S = lpX7_daysUntilUncertified_12 (nI s) f (nI (t + 1)) S
    rw [lpX7_daysUntilUncertified_12, if_pos in_2, q_day7 h, nI_add, q_cfd7 h w (by omega), Option.bind_some, q_has7 hs, Option.bind_some, hp2, if_neg (show ¬ b2 true = 0 from by decide), nI_1]
  · intro f t ht hp
    have hp2 : bt (cfd A (aD A + t)) s = false := by simpa using hp
    show lpX7_daysUntilUncertified_12 (nI s) (f + 1) (nI t) S = _
    rw [lpX7_daysUntilUncertified_12, if_pos in_2, q_day7 h, nI_add, q_cfd7 h w (by omega), Option.bind_some, q_has7 hs, Option.bind_some, hp2, if_pos (show b2 false = 0 from rfl)]
  · intro f
    show lpX7_daysUntilUncertified_12 (nI s) (f + 1) (nI 100) S = _
    rw [lpX7_daysUntilUncertified_12, if_pos in_2, q_day7 h, nI_add, q_cfd7 h w (by omega), Option.bind_some, q_has7 hs, Option.bind_some, cfd_late w (Nat.le_refl _) hs, if_pos (show b2 false = 0 from rfl)]
  · unfold dut
    cases fst (fun k => !bt (cfd A (aD A + k)) s) 0 100 <;> rfl
end CHN
/-! followed back -/
def adr_ok (A : As) (c : Nat) : Bool := decide (aF A (aC A c).2.1 = (aC A c).2.2.1)
def lbV (A : As) (V : Int32) (c : Nat) : Int32 := V ||| (shb ((aC A c).1 - 1) &&& (aR A ^^^ (-1)))
def lbR (A : As) : Nat → Nat → Int32 → Option Int32
  | 0, _, V => some V
  | k + 1, t, V => if (bt V (aC A t).2.1 && adr_ok A t) = true then (if (aC A t).1 = 0 then none else lbR A k (t + 1) (lbV A V t)) else lbR A k (t + 1) V
def lbO (A : As) : Nat → Int32 → Bool
  | 0, _ => false
  | r + 1, V => match lbR A (aM A) 0 V with
    | none => true
    | some V' => lbO A r V'
section LB
variable {S : Wo} {o D s : Nat} {A : As}
theorem q_lbR (h : RS S o A) (w : WF0 D A) (p w3 : Int32) (K : Int32 → Int32 → Option Int32) : ∀ k t f V, t + k = aM A → k < f → lpX5_leadsBackToRegistry_22 o p S w3 K f V (nI t) = (match lbR A k t V with | none => some 1 | some V' => K V' (nI (aM A))) := by
  have hm := w.1.2.1
  have hn := w.1.1
  intro k
  induction k with
  | zero =>
    intro t f V h1 h2
    obtain ⟨g, rfl⟩ : ∃ g, f = g + 1 := ⟨f - 1, by omega⟩
    have e : t = aM A := by omega
    subst e
    rw [lpX5_leadsBackToRegistry_22, if_pos ((rs_m h w (by omega)).mpr (Nat.le_refl _))]
    rfl
  | succ k ih =>
    intro t f V h1 h2
    obtain ⟨g, rfl⟩ : ∃ g, f = g + 1 := ⟨f - 1, by omega⟩
    have ht : t < aM A := by omega
    obtain ⟨w1, w2, w3', w4⟩ := w.2.2.1 t ht
    have wf := w.2.1 _ w2
    rw [lpX5_leadsBackToRegistry_22, if_neg (fun e => absurd ((rs_m h w (by omega)).mp e) (by omega)), rs_s h w ht, Option.bind_some, q_has (by omega), Option.bind_some, rs_f h w w2, rs_a h w ht, rs_i h w ht, nI_1]
    simp only [Option.bind_some, nm]
    rw [lbR]
    cases hb : bt V (aC A t).2.1
    · rw [if_pos (show b2 false = 0 from rfl), Bool.false_and, if_neg (by decide)]
      exact ih (t + 1) g V (by omega) (by omega)
    · rw [if_neg (show ¬ b2 true = 0 from by decide), Bool.true_and]
      by_cases e2 : aF A (aC A t).2.1 = (aC A t).2.2.1
      · rw [if_pos (by rw [e2]), if_pos (show adr_ok A t = true from decide_eq_true e2)]
        by_cases e : (aC A t).1 = 0
        · rw [e, cIs_0, if_pos rfl, if_pos rfl]; rfl
        · rw [cIs_p e, if_neg (q_m1 (by omega)), if_neg e, h.1.2.1]
          exact ih (t + 1) g (lbV A V t) (by omega) (by omega)
      · rw [if_neg (fun q => e2 ((nI_eq (by omega) (by omega)).mp q)), if_neg (show ¬ adr_ok A t = true from fun q => e2 (of_decide_eq_true q))]
        exact ih (t + 1) g V (by omega) (by omega)
theorem q_lbO (h : RS S o A) (w : WF0 D A) (p : Int32) : ∀ r f V, r ≤ 10 → r < f → lpX5_leadsBackToRegistry_13 o p S f V (nI (10 - r)) = some (b2 (lbO A r V)) := by
  have hm := w.1.2.1
  intro r
  induction r with
  | zero =>
    intro f V h1 h2
    obtain ⟨g, rfl⟩ : ∃ g, f = g + 1 := ⟨f - 1, by omega⟩
    rw [lpX5_leadsBackToRegistry_13, if_pos (by decide)]
    rfl
  | succ r ih =>
    intro f V h1 h2
    obtain ⟨g, rfl⟩ : ∃ g, f = g + 1 := ⟨f - 1, by omega⟩
    rw [lpX5_leadsBackToRegistry_13, if_neg (show ¬ (10 : Int32) ≤ nI (10 - (r + 1)) from show ¬ nI 10 ≤ nI (10 - (r + 1)) from nI_ge (by omega) (by omega))]
    have := q_lbR h w p (nI (10 - (r + 1))) (fun (u10 : Int32) (u11 : Int32) => lpX5_leadsBackToRegistry_13 o p S g u10 (nI (10 - (r + 1)) + 1)) (aM A) 0 200 V (by omega) (by omega)
    refine this.trans ?_
    rw [lbO]
    cases lbR A (aM A) 0 V with
    | none => rfl
    | some V' =>
      show lpX5_leadsBackToRegistry_13 o p S g V' (nI (10 - (r + 1)) + 1) = _
      rw [nI_1, show 10 - (r + 1) + 1 = 10 - r by omega]
      exact ih g V' (by omega) (by omega)
/-- wanted scarecrows: not revoked, and s is certified if one of them is -/
def lbG (A : As) (s : Nat) (V : Int32) : Prop := ∀ i, i < 32 → bt V i = true → i < aN A ∧ bt (aR A) i = false ∧ (bt (cfd A (aD A)) i = true → bt (cfd A (aD A)) s = true)
theorem hol_of {d : Nat} {X : Int32} {c : Nat} (h1 : d ≤ (aC A c).2.2.2) (h2 : adr_ok A c = true) (h3 : (aC A c).1 = 0 ∨ bt X ((aC A c).1 - 1) = true) : hol A d X c = true := by
  unfold hol
  unfold adr_ok at h2
  rw [decide_eq_true h1, h2, Bool.true_and, Bool.true_and, Bool.or_eq_true, decide_eq_true_eq]
  exact h3
theorem lbV_bt (w : WF0 D A) {V : Int32} {c : Nat} (hc : c < aM A) (h0 : ¬ (aC A c).1 = 0) {i : Nat} (hi : i < 32) : bt (lbV A V c) i = true ↔ bt V i = true ∨ (i = (aC A c).1 - 1 ∧ bt (aR A) i = false) := by
  have hn := w.1.1
  have := (w.2.2.1 c hc).1
  unfold lbV
  rw [b_or, Bool.or_eq_true, b_and, Bool.and_eq_true, bt_not hi, bt_sh (by omega) hi, decide_eq_true_eq, Bool.not_eq_true']
theorem lbR_sound (w : WFA D A) : ∀ k t V, t + k = aM A → lbG A s V → (lbR A k t V = none → bt (cfd A (aD A)) s = true) ∧ ∀ V', lbR A k t V = some V' → lbG A s V' ∧ sub32 V V'
  | 0, t, V, h1, hg => ⟨fun h => (by rw [lbR] at h; cases h), fun V' h => (by rw [lbR] at h; cases h; exact ⟨hg, fun i hi q => q⟩)⟩
  | k + 1, t, V, h1, hg => by
    have ht : t < aM A := by omega
    have hn := w.1.1.1
    obtain ⟨w1, w2, w3', w4⟩ := w.1.2.2.1 t ht
    have hlv := w.2 t ht
    rw [lbR]
    by_cases hc : (bt V (aC A t).2.1 && adr_ok A t) = true
    · rw [if_pos hc]
      rw [Bool.and_eq_true] at hc
      obtain ⟨g1, g2, g3⟩ := hg _ (by omega) hc.1
      by_cases e : (aC A t).1 = 0
      · rw [if_pos e]
        refine ⟨fun _ => g3 ?_, fun V' h => by cases h⟩
        rw [← cfd_T (d := aD A) w.1]
        exact (tTo_bt w.1 (by omega)).mpr ⟨g2, t, ht, hol_of hlv hc.2 (Or.inl e), rfl⟩
      · rw [if_neg e]
        have hg2 : lbG A s (lbV A V t) := by
          intro i hi hb
          rcases (lbV_bt w.1 ht e hi).mp hb with q | ⟨q1, q2⟩
          · exact hg i hi q
          · refine ⟨by omega, q2, fun q3 => g3 ?_⟩
            rw [← cfd_T (d := aD A) w.1]
            exact (tTo_bt w.1 (by omega)).mpr ⟨g2, t, ht, hol_of hlv hc.2 (Or.inr (by rw [← q1]; exact q3)), rfl⟩
        obtain ⟨r1, r2⟩ := lbR_sound w k (t + 1) (lbV A V t) (by omega) hg2
        refine ⟨r1, fun V' h => ⟨(r2 V' h).1, fun i hi q => (r2 V' h).2 i hi ((lbV_bt w.1 ht e hi).mpr (Or.inl q))⟩⟩
    · rw [if_neg hc]
      exact lbR_sound w k (t + 1) V (by omega) hg
def lbC (A : As) (V V' : Int32) (c : Nat) : Prop := bt V (aC A c).2.1 = true → adr_ok A c = true → ¬ (aC A c).1 = 0 ∧ (bt (aR A) ((aC A c).1 - 1) = true ∨ bt V' ((aC A c).1 - 1) = true)
theorem lbR_closed (w : WF0 D A) : ∀ k t V V', t + k = aM A → lbR A k t V = some V' → sub32 V V' ∧ ∀ c, t ≤ c → c < t + k → lbC A V V' c
  | 0, t, V, V', h1, h => by
    rw [lbR] at h
    cases h
    exact ⟨fun i hi q => q, fun c h1 h2 => by omega⟩
  | k + 1, t, V, V', h1, h => by
    have ht : t < aM A := by omega
    have hn := w.1.1
    obtain ⟨w1, w2, w3', w4⟩ := w.2.2.1 t ht
    rw [lbR] at h
    by_cases hc : (bt V (aC A t).2.1 && adr_ok A t) = true
    · rw [if_pos hc] at h
      rw [Bool.and_eq_true] at hc
      by_cases e : (aC A t).1 = 0
      · rw [if_pos e] at h; cases h
      · rw [if_neg e] at h
        obtain ⟨r1, r2⟩ := lbR_closed w k (t + 1) (lbV A V t) V' (by omega) h
        have hs : sub32 V (lbV A V t) := fun i hi q => (lbV_bt w ht e hi).mpr (Or.inl q)
        refine ⟨fun i hi q => r1 i hi (hs i hi q), fun c h2 h3 => ?_⟩
        by_cases ec : c = t
        · subst ec
          intro q1 q2
          refine ⟨e, ?_⟩
          cases hr : bt (aR A) ((aC A c).1 - 1)
          · exact Or.inr (r1 _ (by omega) ((lbV_bt w ht e (by omega)).mpr (Or.inr ⟨rfl, hr⟩)))
          · exact Or.inl rfl
        · intro q1 q2
          have hcm : c < aM A := by omega
          have := (w.2.2.1 c hcm).2.1
          exact r2 c (by omega) (by omega) (hs _ (by omega) q1) q2
    · rw [if_neg hc] at h
      obtain ⟨r1, r2⟩ := lbR_closed w k (t + 1) V V' (by omega) h
      refine ⟨r1, fun c h2 h3 => ?_⟩
      by_cases ec : c = t
      · subst ec
        intro q1 q2
        exact absurd (by rw [q1, q2]; rfl) hc
      · exact r2 c (by omega) (by omega)
theorem lb_closed_out (w : WF0 D A) {d : Nat} {V : Int32} (hc : ∀ c, c < aM A → lbC A V V c) : ∀ r i, i < 32 → bt V i = true → bt (tFr A d r) i = false
  | 0, i, hi, h => b_0 i
  | r + 1, i, hi, h => by
    have hn := w.1.1
    rw [Bool.eq_false_iff]
    intro q
    obtain ⟨h1, c, h2, h3, h4⟩ := (tTo_bt w hi).mp q
    have w1 := (w.2.2.1 c h2).1
    unfold hol at h3
    simp only [Bool.and_eq_true, Bool.or_eq_true, decide_eq_true_eq] at h3
    obtain ⟨q1, q2⟩ := hc c h2 (by rw [h4]; exact h) (decide_eq_true h3.2.1)
    rcases h3.2.2 with e | e
    · exact q1 e
    · have rv := tFr_rv w r _ (by omega) e
      rcases q2 with q2 | q2
      · rw [rv] at q2; cases q2
      · rw [lb_closed_out w hc r _ (by omega) q2] at e; cases e
theorem lbO_false (w : WFA D A) : ∀ r V, r ≤ 10 → lbG A s V → bt V s = true → s < 32 → lbO A r V = false → 11 - r ≤ fb_ct (bt V) 10 → bt (cfd A (aD A)) s = false
  | 0, V, _, _, _, _, _, hct => by
    have := fb_ct_le (bt V) 10
    omega
  | r + 1, V, hr, hg, hs, hs32, ho, hct => by
    have hn := w.1.1.1
    rw [lbO] at ho
    cases hl : lbR A (aM A) 0 V with
    | none => rw [hl] at ho; cases ho
    | some V' =>
      rw [hl] at ho
      obtain ⟨-, r2⟩ := lbR_sound (s := s) w (aM A) 0 V (by omega) hg
      obtain ⟨hg', hsub⟩ := r2 V' hl
      obtain ⟨-, hcl⟩ := lbR_closed w.1 (aM A) 0 V V' (by omega) hl
      by_cases e : V = V'
      · subst e
        exact lb_closed_out w.1 (fun c hc => hcl c (by omega) (by omega)) 10 s hs32 hs
      · have := sub_ct hsub e (fun i hi hb => by have := (hg' i hi hb).1; omega)
        exact lbO_false w r V' (by omega) hg' (hsub s hs32 hs) hs32 ho (by omega)
theorem lbO_true (w : WFA D A) : ∀ r V, lbG A s V → lbO A r V = true → bt (cfd A (aD A)) s = true
  | 0, V, _, h => by rw [lbO] at h; cases h
  | r + 1, V, hg, h => by
    obtain ⟨r1, r2⟩ := lbR_sound (s := s) w (aM A) 0 V (by omega) hg
    rw [lbO] at h
    cases hl : lbR A (aM A) 0 V with
    | none => exact r1 hl
    | some V' =>
      rw [hl] at h
      exact lbO_true w r V' (r2 V' hl).1 h
theorem q_lb (h : RS S o A) (w : WFA D A) (hs : s < aN A) : spX5_leadsBackToRegistry o (nI s) S = some (b2 (bt (cfd A (aD A)) s)) := by
  have hn := w.1.1.1
  unfold spX5_leadsBackToRegistry nm
  rw [h.1.2.1]
  refine (q_lbO h w.1 (nI s) 10 200 _ (by omega) (by omega)).trans ?_
  congr 2
  have hb : ∀ i, i < 32 → (bt ((1 : Int32) <<< (nI s &&& 31) &&& (aR A ^^^ (-1))) i = true ↔ i = s ∧ bt (aR A) i = false) := by
    intro i hi
    rw [b_and, Bool.and_eq_true, bt_not hi]
    show bt (shb s) i = true ∧ _ ↔ _
    rw [bt_sh (by omega) hi, decide_eq_true_eq, Bool.not_eq_true']
  have hg : lbG A s ((1 : Int32) <<< (nI s &&& 31) &&& (aR A ^^^ (-1))) := by
    intro i hi q
    obtain ⟨q1, q2⟩ := (hb i hi).mp q
    subst q1
    exact ⟨hs, q2, id⟩
  cases ho : lbO A 10 ((1 : Int32) <<< (nI s &&& 31) &&& (aR A ^^^ (-1)))
  · symm
    cases hr : bt (aR A) s
    · have h1 := (hb s (by omega)).mpr ⟨rfl, hr⟩
      exact lbO_false w 10 _ (by omega) hg h1 (by omega) ho (fb_ct_pos.mpr ⟨s, by omega, h1⟩)
    · rw [Bool.eq_false_iff]
      intro q
      have := tFr_rv w.1 10 s (by omega) q
      rw [hr] at this
      cases this
  · exact (lbO_true w 10 _ hg ho).symm
end LB

/-! ===== days ===== -/
def expF : Nat → As → As
  | 0, A => A
  | k + 1, A => expF k (if (aC A k).2.2.2 < aD A then remA A k else A)
def nxtB (A : As) : As := expF (aM A) (dayA A)
def lok (d : Nat) : Nat := 7 * d % 16
def nxtE (B : As) : Bool := decide (0 < aG B (lok (aD B))) && !nr B (cfd B (aD B)) (lok (aD B))
def nxtA (A : As) : As := if nxtE (nxtB A) = true then eatA (nxtB A) (lok (aD (nxtB A))) else nxtB A
def nxtN (A : As) : Nat := if nxtE (nxtB A) = true then 1 else 0
def dysA : Nat → As → As
  | 0, A => A
  | k + 1, A => dysA k (nxtA A)
def dysN : Nat → As → Nat
  | 0, _ => 0
  | k + 1, A => nxtN A + dysN k (nxtA A)
theorem lok_lt (d : Nat) : lok d < 16 := Nat.mod_lt _ (by decide)
section EXPP
variable {D : Nat}
theorem exp_d : ∀ k (A : As), aD (expF k A) = aD A
  | 0, A => rfl
  | k + 1, A => by
    rw [expF, exp_d k]
    by_cases h : (aC A k).2.2.2 < aD A
    · rw [if_pos h]; rfl
    · rw [if_neg h]
theorem exp_wf0 : ∀ k (A : As), WF0 D A → k ≤ aM A → WF0 D (expF k A)
  | 0, A, w, _ => w
  | k + 1, A, w, hk => by
    rw [expF]
    by_cases h : (aC A k).2.2.2 < aD A
    · rw [if_pos h]
      exact exp_wf0 k _ (wf0_rem w hk) (by show k ≤ aM A - 1; omega)
    · rw [if_neg h]
      exact exp_wf0 k _ w (by omega)
theorem exp_lv : ∀ k (A : As), k ≤ aM A → (∀ c, k ≤ c → c < aM A → aD A ≤ (aC A c).2.2.2) → LV (expF k A)
  | 0, A, _, h => fun c hc => h c (Nat.zero_le _) hc
  | k + 1, A, hk, h => by
    rw [expF]
    by_cases e : (aC A k).2.2.2 < aD A
    · rw [if_pos e]
      refine exp_lv k _ (by show k ≤ aM A - 1; omega) (fun c h1 h2 => ?_)
      have h2 : c < aM A - 1 := h2
      rw [remA_c, if_neg (by omega)]
      exact h (c + 1) (by omega) (by omega)
    · rw [if_neg e]
      refine exp_lv k _ (by omega) (fun c h1 h2 => ?_)
      by_cases e2 : c = k
      · subst e2; omega
      · exact h c (by omega) h2
theorem wf_nxtB {A : As} (w : WF0 D A) (hD : D + 1 ≤ 1000000) : WFA (D + 1) (nxtB A) :=
  ⟨exp_wf0 (aM A) (dayA A) (wf0_day w hD) (Nat.le_refl _), exp_lv (aM A) (dayA A) (Nat.le_refl _) (fun c h1 h2 => by have h2 : c < aM A := h2; omega)⟩
theorem wf_nxt {A : As} (w : WF0 D A) (hD : D + 1 ≤ 1000000) : WFA (D + 1) (nxtA A) := by
  have h := wf_nxtB w hD
  unfold nxtA
  by_cases e : nxtE (nxtB A) = true
  · rw [if_pos e]; exact ⟨wf0_eat h.1, h.2⟩
  · rw [if_neg e]; exact h
theorem wf_dys : ∀ k (D : Nat) (A : As), WFA D A → D + k ≤ 1000000 → WFA (D + k) (dysA k A)
  | 0, D, A, w, _ => w
  | k + 1, D, A, w, h => by
    have := wf_dys k (D + 1) (nxtA A) (wf_nxt w.1 (by omega)) (by omega)
    rw [show D + 1 + k = D + (k + 1) by omega] at this
    exact this
theorem dysN_le : ∀ k (A : As), dysN k A ≤ k
  | 0, A => Nat.le_refl _
  | k + 1, A => by
    have := dysN_le k (nxtA A)
    have h2 : nxtN A ≤ 1 := by
      unfold nxtN
      by_cases e : nxtE (nxtB A) = true
      · rw [if_pos e]; exact Nat.le_refl _
      · rw [if_neg e]; omega
    show nxtN A + dysN k (nxtA A) ≤ k + 1
    omega
end EXPP
/-! the grains eaten so far are a number apart -/
theorem tFr_cnt (A : As) (n d : Nat) : ∀ r, tFr (cntA A n) d r = tFr A d r
  | 0 => rfl
  | r + 1 => by
    show tTo (cntA A n) d (tFr (cntA A n) d r) = tTo A d (tFr A d r)
    rw [tFr_cnt A n d r]
    rfl
theorem cfd_cnt (A : As) (n d : Nat) : cfd (cntA A n) d = cfd A d := tFr_cnt A n d 10
theorem exp_cnt : ∀ k (A : As) (n : Nat), expF k (cntA A n) = cntA (expF k A) n
  | 0, A, n => rfl
  | k + 1, A, n => by
    rw [expF, expF]
    show expF k (if (aC A k).2.2.2 < aD A then remA (cntA A n) k else cntA A n) = _
    by_cases h : (aC A k).2.2.2 < aD A
    · rw [if_pos h, if_pos h]
      exact exp_cnt k (remA A k) n
    · rw [if_neg h, if_neg h]
      exact exp_cnt k A n
theorem nxtB_cnt (A : As) (n : Nat) : nxtB (cntA A n) = cntA (nxtB A) n := exp_cnt (aM A) (dayA A) n
theorem nxtE_cnt (B : As) (n : Nat) : nxtE (cntA B n) = nxtE B := by
  unfold nxtE
  show (decide (0 < aG B (lok (aD B))) && !nr (cntA B n) (cfd (cntA B n) (aD B)) (lok (aD B))) = _
  rw [cfd_cnt]
  rfl
theorem nxtA_cnt (A : As) (n : Nat) : nxtA (cntA A n) = cntA (nxtA A) n := by
  unfold nxtA
  rw [nxtB_cnt, nxtE_cnt]
  by_cases e : nxtE (nxtB A) = true
  · rw [if_pos e, if_pos e]; rfl
  · rw [if_neg e, if_neg e]
theorem nxtN_cnt (A : As) (n : Nat) : nxtN (cntA A n) = nxtN A := by
  unfold nxtN
  rw [nxtB_cnt, nxtE_cnt]
theorem cnt_cnt (A : As) (a b : Nat) : cntA (cntA A a) b = cntA A (a + b) := by
  unfold cntA
  refine Prod.ext (Prod.ext rfl (Prod.ext rfl (Prod.ext rfl (Prod.ext rfl (Prod.ext ?_ rfl))))) rfl
  show aE A + nI a + nI b = aE A + nI (a + b)
  rw [← nI_add, Int32.add_assoc]
theorem cnt_0 (A : As) : cntA A 0 = A := by
  unfold cntA
  refine Prod.ext (Prod.ext rfl (Prod.ext rfl (Prod.ext rfl (Prod.ext rfl (Prod.ext ?_ rfl))))) rfl
  show aE A + nI 0 = aE A
  rw [nI_0, Int32.add_zero]
theorem nI_dec (k : Nat) : nI k + (-1) = cIs k := by
  cases k with
  | zero => decide
  | succ j =>
    rw [← Int32.sub_eq_add_neg, nI_pred]
    rfl
theorem nI_dec' (k : Nat) : nI k - 1 = cIs k := by rw [Int32.sub_eq_add_neg]; exact nI_dec k
theorem q_xor (a b : Nat) : nI a ^^^ nI b = nI (a ^^^ b) := by
  apply Int32.toBitVec_inj.1
  show BitVec.ofNat 32 a ^^^ BitVec.ofNat 32 b = BitVec.ofNat 32 (a ^^^ b)
  apply BitVec.eq_of_getLsbD_eq
  intro i hi
  simp [hi]
theorem q_fmod {a n : Nat} (ha : a < 2 ^ 31) (hn : n < 2 ^ 31) (h0 : 0 < n) (S : Wo) : spJ9_floorMod_7cf53 (nI a) (nI n) S = some (nI (a % n)) := by
  unfold spJ9_floorMod_7cf53
  rw [if_neg (nI_ne0 h0 hn), q_xor, if_pos (nI_pos' (Nat.xor_lt_two_pow ha hn)), q_rem ha hn]
theorem q_look {d : Nat} (hd : d ≤ 1000001) (S : Wo) : spX6_lookOn (nI d) S = some (nI (lok d)) := by
  unfold spX6_lookOn
  show (spJ9_floorMod_7cf53 (nI 7 * nI d) (nI 16) S).bind (fun x1 => some x1) = _
  rw [q_mul, q_fmod (by omega) (by decide) (by decide)]
  rfl
section DAYS6
variable {o : Nat}
theorem q_exp : ∀ k (D : Nat) (B : As) (S : Wo) f, RS S o B → WF0 D B → k ≤ aM B → k < f → ∃ T, lpX5_dropExpired_7 o f (cIs k) S = some T ∧ RS T o (expF k B) ∧ FrO o S T
  | 0, D, B, S, f, h, w, hk, hf => by
    obtain ⟨g, rfl⟩ : ∃ g, f = g + 1 := ⟨f - 1, by omega⟩
    rw [lpX5_dropExpired_7, if_pos (by decide)]
    exact ⟨S, rfl, h, FrO.rf⟩
  | k + 1, D, B, S, f, h, w, hk, hf => by
    obtain ⟨g, rfl⟩ : ∃ g, f = g + 1 := ⟨f - 1, by omega⟩
    have hm := w.1.2.1
    have w4 := (w.2.2.1 k (by omega)).2.2.2
    have hD := w.1.2.2.1
    have hD2 := w.1.2.2.2
    show ∃ T, lpX5_dropExpired_7 o (g + 1) (nI k) S = some T ∧ _
    rw [lpX5_dropExpired_7, if_neg (nI_pos (by omega)), rs_l h w (by omega), Option.bind_some, h.1.2.2.2.1, nI_dec, expF]
    by_cases e : (aC B k).2.2.2 < aD B
    · rw [if_neg (nI_ge e (by omega)), if_pos e]
      obtain ⟨T, e1, r1, f1⟩ := q_remS h w (i := k) (by omega)
      rw [e1, Option.bind_some]
      obtain ⟨T2, e2, r2, f2⟩ := q_exp k D (remA B k) T g r1 (wf0_rem w (by omega)) (by show k ≤ aM B - 1; omega) (by omega)
      exact ⟨T2, e2, r2, f1.tr f2⟩
    · rw [if_pos (nI_le (by omega) (by omega)), if_neg e]
      exact q_exp k D B S g h w (by omega) (by omega)
theorem q_dropE {D : Nat} {B : As} {S : Wo} (h : RS S o B) (w : WF0 D B) : ∃ T, spX5_dropExpired o S = some T ∧ RS T o (expF (aM B) B) ∧ FrO o S T := by
  have hm := w.1.2.1
  unfold spX5_dropExpired
  rw [h.1.2.2.1, nI_dec']
  exact q_exp (aM B) D B S 200 h w (Nat.le_refl _) (by omega)
theorem q_days (p : Nat) (hp : p ≤ 100) : ∀ k t v (D : Nat) (A : As) (S : Wo) f, t + k = p → k < f → RS S o A → WFA D A → D + k ≤ 1000000 → ∃ T, lpX5_letDaysPass_4 o (nI p) f (nI v) (nI t) S = some (nI (v + dysN k A), T) ∧ RS T o (cntA (dysA k A) (v + dysN k A)) ∧ FrO o S T
  | 0, t, v, D, A, S, f, h1, h2, h, w, hD => by
    obtain ⟨g, rfl⟩ : ∃ g, f = g + 1 := ⟨f - 1, by omega⟩
    rw [lpX5_letDaysPass_4, if_pos (nI_le (by omega) (by omega)), wr_eq]
    obtain ⟨r1, r2⟩ := q_cntS h v
    exact ⟨_, rfl, r1, r2⟩
  | k + 1, t, v, D, A, S, f, h1, h2, h, w, hD => by
    obtain ⟨g, rfl⟩ : ∃ g, f = g + 1 := ⟨f - 1, by omega⟩
    rw [lpX5_letDaysPass_4, if_neg (nI_ge (by omega) (by omega)), wr_eq]
    obtain ⟨r1, f1⟩ := q_dayS h
    have w1 := wf0_day w.1 (by omega)
    obtain ⟨T2, e2, r2, f2⟩ := q_dropE r1 w1
    rw [e2, Option.bind_some]
    have r2 : RS T2 o (nxtB A) := r2
    have w2 : WFA (D + 1) (nxtB A) := wf_nxtB w.1 (by omega)
    have hd2 := w2.1.1.2.2.1
    have hg := w2.1.2.2.2 (lok (aD (nxtB A))) (lok_lt _)
    rw [r2.1.2.2.2.1, q_look (by omega), Option.bind_some, rs_g r2 (lok_lt _), Option.bind_some, q_cfd r2 w2.1 (by omega), Option.bind_some, q_near r2 w2.1 (lok_lt _), Option.bind_some, nI_1, nI_1]
    have hne : nxtE (nxtB A) = (decide (0 < aG (nxtB A) (lok (aD (nxtB A)))) && !nr (nxtB A) (cfd (nxtB A) (aD (nxtB A))) (lok (aD (nxtB A)))) := rfl
    by_cases e3 : 0 < aG (nxtB A) (lok (aD (nxtB A)))
    · rw [if_neg (nI_nle e3 (by omega))]
      cases e4 : nr (nxtB A) (cfd (nxtB A) (aD (nxtB A))) (lok (aD (nxtB A)))
      · rw [if_pos (show b2 false = 0 from rfl)]
        rw [e4, decide_eq_true e3] at hne
        have hne : nxtE (nxtB A) = true := hne
        have ea : nxtA A = eatA (nxtB A) (lok (aD (nxtB A))) := by unfold nxtA; rw [if_pos hne]
        have en : nxtN A = 1 := by unfold nxtN; rw [if_pos hne]
        have es : nI (aG (nxtB A) (lok (aD (nxtB A)))) - 1 = nI (aG (nxtB A) (lok (aD (nxtB A))) - 1) := q_sub (b := 1) (by omega)
        rw [es]
        obtain ⟨T3, e5, r3, f3⟩ := q_setG r2 (f := lok (aD (nxtB A))) (v := aG (nxtB A) (lok (aD (nxtB A))) - 1) (lok_lt _)
        rw [e5, Option.bind_some]
        have r3 : RS T3 o (nxtA A) := by rw [ea]; exact r3
        obtain ⟨T4, e6, r4, f4⟩ := q_days p hp k (t + 1) (v + 1) (D + 1) (nxtA A) T3 g (by omega) (by omega) r3 (wf_nxt w.1 (by omega)) (by omega)
        refine ⟨T4, ?_, ?_, f1.tr (f2.tr (f3.tr f4))⟩
        · rw [e6]
          show some (nI (v + 1 + dysN k (nxtA A)), T4) = some (nI (v + (nxtN A + dysN k (nxtA A))), T4)
          rw [en, Nat.add_assoc]
        · show RS T4 o (cntA (dysA k (nxtA A)) (v + (nxtN A + dysN k (nxtA A))))
          rw [en, ← Nat.add_assoc]; exact r4
      · rw [if_neg (show ¬ b2 true = 0 from by decide)]
        rw [e4, Bool.not_true, Bool.and_false] at hne
        have ea : nxtA A = nxtB A := by unfold nxtA; rw [hne, if_neg (by decide)]
        have en : nxtN A = 0 := by unfold nxtN; rw [hne, if_neg (by decide)]
        obtain ⟨T4, e6, r4, f4⟩ := q_days p hp k (t + 1) v (D + 1) (nxtA A) T2 g (by omega) (by omega) (by rw [ea]; exact r2) (wf_nxt w.1 (by omega)) (by omega)
        refine ⟨T4, ?_, ?_, f1.tr (f2.tr f4)⟩
        · rw [e6]
          show some (nI (v + dysN k (nxtA A)), T4) = some (nI (v + (nxtN A + dysN k (nxtA A))), T4)
          rw [en, Nat.zero_add]
        · show RS T4 o (cntA (dysA k (nxtA A)) (v + (nxtN A + dysN k (nxtA A))))
          rw [en, Nat.zero_add]; exact r4
    · rw [if_pos (show nI (aG (nxtB A) (lok (aD (nxtB A)))) ≤ (0 : Int32) from show nI (aG (nxtB A) (lok (aD (nxtB A)))) ≤ nI 0 from nI_le (by omega) (by omega))]
      rw [decide_eq_false e3, Bool.false_and] at hne
      have ea : nxtA A = nxtB A := by unfold nxtA; rw [hne, if_neg (by decide)]
      have en : nxtN A = 0 := by unfold nxtN; rw [hne, if_neg (by decide)]
      obtain ⟨T4, e6, r4, f4⟩ := q_days p hp k (t + 1) v (D + 1) (nxtA A) T2 g (by omega) (by omega) (by rw [ea]; exact r2) (wf_nxt w.1 (by omega)) (by omega)
      refine ⟨T4, ?_, ?_, f1.tr (f2.tr f4)⟩
      · rw [e6]
        show some (nI (v + dysN k (nxtA A)), T4) = some (nI (v + (nxtN A + dysN k (nxtA A))), T4)
        rw [en, Nat.zero_add]
      · show RS T4 o (cntA (dysA k (nxtA A)) (v + (nxtN A + dysN k (nxtA A))))
        rw [en, Nat.zero_add]; exact r4
/-- what some days do to a state, and the grains eaten in them -/
def pasA (k : Nat) (A : As) : As := cntA (dysA k A) (dysN k A)
theorem wf_pas {k D : Nat} {A : As} (w : WFA D A) (h : D + k ≤ 1000000) : WFA (D + k) (pasA k A) := wf_dys k D A w h
theorem q_ldp {k D : Nat} {A : As} {S : Wo} (hk : k ≤ 100) (h : RS S o A) (w : WFA D A) (hD : D + k ≤ 1000000) : ∃ T, spX5_letDaysPass o (nI k) S = some (nI (dysN k A), T) ∧ RS T o (pasA k A) ∧ FrO o S T := by
  obtain ⟨T, e, r, f⟩ := q_days (o := o) k hk k 0 0 D A S 200 (by omega) (by omega) h w hD
  rw [Nat.zero_add] at e r
  exact ⟨T, e, r, f⟩
end DAYS6

/-! ===== numbers written ===== -/
def nd (v : Nat) : Nat := if v < 10 then 1 else if v < 100 then 2 else if v < 1000 then 3 else if v < 10000 then 4 else if v < 100000 then 5 else 6
def dgt (v j : Nat) : Nat := 48 + v / 10 ^ j % 10
def apn (f : Nat → Int32) (n v : Nat) : Nat → Int32 := fun k => if n ≤ k ∧ k < n + nd v then nI (dgt v (n + nd v - 1 - k)) else f k
theorem dgt_lt (v j : Nat) : dgt v j < 58 := by unfold dgt; omega
theorem nd_le (v : Nat) : nd v ≤ 6 ∧ 1 ≤ nd v := by unfold nd; repeat' split
                                                    all_goals omega
theorem nd_100 {v : Nat} (h : 100 ≤ v) (h2 : v < 1000000) : nd (v / 100) + 2 = nd v := by
  unfold nd
  repeat' split
  all_goals omega
theorem nd_10 {v : Nat} (h : 10 ≤ v) (h2 : v < 1000000) : nd (v / 10) + 1 = nd v := by
  unfold nd
  repeat' split
  all_goals omega
theorem nd_1 {v : Nat} (h : v < 10) : nd v = 1 := if_pos h
theorem nd_2 {v : Nat} (h : ¬ v < 10) (h2 : v < 100) : nd v = 2 := by unfold nd; rw [if_neg h, if_pos h2]
theorem ng_i (a : Nat) : -nI a = Int32.ofInt (-(a : Int)) := by
  rw [Int32.ofInt_neg, Int32.ofInt_eq_ofNat]; rfl
theorem ng_lt {a b : Nat} (ha : a < 2 ^ 31) (hb : b < 2 ^ 31) : -nI a < -nI b ↔ b < a := by
  rw [ng_i, ng_i, Int32.ofInt_lt_iff_lt (by show (-2147483648 : Int) ≤ _; omega) (by show _ ≤ (2147483647 : Int); omega) (by show (-2147483648 : Int) ≤ _; omega) (by show _ ≤ (2147483647 : Int); omega)]
  omega
theorem ng_le {a b : Nat} (ha : a < 2 ^ 31) (hb : b < 2 ^ 31) : -nI a ≤ -nI b ↔ b ≤ a := by
  rw [ng_i, ng_i, Int32.ofInt_le_iff_le (by show (-2147483648 : Int) ≤ _; omega) (by show _ ≤ (2147483647 : Int); omega) (by show (-2147483648 : Int) ≤ _; omega) (by show _ ≤ (2147483647 : Int); omega)]
  omega
theorem ng_div {a b : Nat} (ha : a < 2 ^ 31) (hb : b < 2 ^ 31) : -nI a / nI b = -nI (a / b) := by
  have e : nI b = Int32.ofInt (b : Int) := by rw [Int32.ofInt_eq_ofNat]; rfl
  rw [ng_i, e, ← Int32.ofInt_tdiv (by show (-2147483648 : Int) ≤ _; omega) (by show _ ≤ (2147483647 : Int); omega) (by show (-2147483648 : Int) ≤ _; omega) (by show _ ≤ (2147483647 : Int); omega), ng_i, Int.neg_tdiv]
  rfl
theorem ng_mod {a : Nat} (ha : a < 2 ^ 31) : -nI (a / 100) * nI 100 - -nI a = nI (a % 100) := by
  have e : ∀ b : Nat, nI b = Int32.ofInt (b : Int) := fun b => by rw [Int32.ofInt_eq_ofNat]; rfl
  rw [ng_i, ng_i, e 100, ← Int32.ofInt_mul, ← Int32.ofInt_sub, e]
  congr 1
  omega
theorem q_ss {v : Nat} (h : v < 1000000) (S : Wo) : spJ6_stringSize_0f7a4 (nI v) S = some (nI (nd v)) := by
  unfold spJ6_stringSize_0f7a4
  rw [jn_e]
  dsimp only
  rw [if_neg (nI_pos (by omega))]
  have g : ∀ b : Nat, b < 2 ^ 31 → (-nI v ≤ -nI b ↔ b ≤ v) := fun b hb => ng_le (by omega) hb
  have t1 : (10 : Int32) * (-10) = -nI 100 := by decide
  have t2 : (10 : Int32) * (-nI 100) = -nI 1000 := by decide
  have t3 : (10 : Int32) * (-nI 1000) = -nI 10000 := by decide
  have t4 : (10 : Int32) * (-nI 10000) = -nI 100000 := by decide
  have t5 : (10 : Int32) * (-nI 100000) = -nI 1000000 := by decide
  rw [lpJ6_stringSize_0f7a4_16, if_neg (by decide)]
  by_cases e1 : v < 10
  · rw [if_neg (show ¬ -nI v ≤ (-10 : Int32) from fun q => absurd ((g 10 (by decide)).mp q) (by omega)), nd_1 e1]; rfl
  rw [if_pos (show -nI v ≤ (-10 : Int32) from (g 10 (by decide)).mpr (by omega)), t1, lpJ6_stringSize_0f7a4_16, if_neg (by decide)]
  by_cases e2 : v < 100
  · rw [if_neg (fun q => absurd ((g 100 (by decide)).mp q) (by omega)), nd_2 e1 e2]; rfl
  rw [if_pos ((g 100 (by decide)).mpr (by omega)), t2, lpJ6_stringSize_0f7a4_16, if_neg (by decide)]
  by_cases e3 : v < 1000
  · rw [if_neg (fun q => absurd ((g 1000 (by decide)).mp q) (by omega)), show nd v = 3 by unfold nd; rw [if_neg e1, if_neg e2, if_pos e3]]; rfl
  rw [if_pos ((g 1000 (by decide)).mpr (by omega)), t3, lpJ6_stringSize_0f7a4_16, if_neg (by decide)]
  by_cases e4 : v < 10000
  · rw [if_neg (fun q => absurd ((g 10000 (by decide)).mp q) (by omega)), show nd v = 4 by unfold nd; rw [if_neg e1, if_neg e2, if_neg e3, if_pos e4]]; rfl
  rw [if_pos ((g 10000 (by decide)).mpr (by omega)), t4, lpJ6_stringSize_0f7a4_16, if_neg (by decide)]
  by_cases e5 : v < 100000
  · rw [if_neg (fun q => absurd ((g 100000 (by decide)).mp q) (by omega)), show nd v = 5 by unfold nd; rw [if_neg e1, if_neg e2, if_neg e3, if_neg e4, if_pos e5]]; rfl
  rw [if_pos ((g 100000 (by decide)).mpr (by omega)), t5, lpJ6_stringSize_0f7a4_16, if_neg (by decide), if_neg (fun q => absurd ((g 1000000 (by decide)).mp q) (by omega)), show nd v = 6 by unfold nd; rw [if_neg e1, if_neg e2, if_neg e3, if_neg e4, if_neg e5]]
  rfl
def wdd (g : Nat → Int32) (pos v : Nat) : Nat → Int32 := fun k => if pos - nd v ≤ k ∧ k < pos then nI (dgt v (pos - 1 - k)) else g k
theorem nI_m1 {k : Nat} (h : 0 < k) : nI k + (-1) = nI (k - 1) := by
  rw [nI_dec, cIs_p (by omega)]
theorem q_gc (p1 p2 : Int32) : ∀ k v pos (S : Wo) f, v < 100 ^ (k + 1) → v < 1000000 → nd v ≤ pos → pos ≤ S.2.2.1.2.2 → S.2.2.1.2.2 < 100 → k < f → lpJ6_getChars_ba4f3_22 p1 p2 S.2.2.1.2.1 0 f (-nI v) (nI pos) S = some (nI (pos - nd v), pF S 165 (wdd (S.2.1 165) pos v)) := by
  have base : ∀ v pos (S : Wo) f, v < 100 → nd v ≤ pos → pos ≤ S.2.2.1.2.2 → S.2.2.1.2.2 < 100 → lpJ6_getChars_ba4f3_22 p1 p2 S.2.2.1.2.1 0 (f + 1) (-nI v) (nI pos) S = some (nI (pos - nd v), pF S 165 (wdd (S.2.1 165) pos v)) := by
    intro v pos S f hv hp hc hc2
    have hd := (nd_le v).2
    rw [lpJ6_getChars_ba4f3_22, if_pos (show (-100 : Int32) < -nI v from (ng_lt (a := 100) (by decide) (by omega)).mpr hv), Int32.neg_neg, if_pos (q_in hv (by decide)), if_pos rfl, nI_m1 (by omega), if_pos (q_in (by omega) (by omega)), wr_eq, q_ix (by omega), q_ix (by omega), byt_d _ (by omega)]
    rw [jn_e]
    dsimp only
    by_cases e : v < 10
    · rw [if_pos (show (-9 : Int32) ≤ -nI v from (ng_le (a := 9) (by decide) (by omega)).mpr (by omega)), if_pos rfl, nd_1 e]
      congr 3
      funext j
      unfold upd wdd
      rw [nd_1 e]
      by_cases q : j = pos - 1
      · rw [if_pos q, if_pos (by omega)]
        unfold dgt
        rw [show pos - 1 - j = 0 by omega, Nat.pow_zero, Nat.div_one]
      · rw [if_neg q, if_neg (by omega)]
    · have e2 := nd_2 e hv
      rw [e2] at hp
      rw [if_neg (show ¬ (-9 : Int32) ≤ -nI v from fun q => by have := (ng_le (a := 9) (by decide) (by omega)).mp q; omega), if_pos (q_in hv (by decide)), if_pos (show S.2.2.1.2.1 = (pF S 165 (upd (S.2.1 165) (pos - 1) (nI (48 + v % 10)))).2.2.1.2.1 from rfl), nI_m1 (by omega), if_pos (q_in (by show pos - 1 - 1 < S.2.2.1.2.2; omega) (by show S.2.2.1.2.2 < 2 ^ 31; omega)), wr_eq, q_ix (by omega), byt_d _ (by omega), pF_at, pF_pF, if_pos rfl, e2]
      congr 3
      funext j
      unfold upd wdd
      rw [e2]
      by_cases q : j = pos - 1 - 1
      · rw [if_pos q, if_pos (by omega)]
        unfold dgt
        rw [show pos - 1 - j = 1 by omega, Nat.pow_one, Nat.mod_eq_of_lt (by omega)]
      · rw [if_neg q]
        by_cases q2 : j = pos - 1
        · rw [if_pos q2, if_pos (by omega)]
          unfold dgt
          rw [show pos - 1 - j = 0 by omega, Nat.pow_zero, Nat.div_one]
        · rw [if_neg q2, if_neg (by omega)]
  intro k
  induction k with
  | zero =>
    intro v pos S f h1 h2 h3 h4 h5 h6
    obtain ⟨g, rfl⟩ : ∃ g, f = g + 1 := ⟨f - 1, by omega⟩
    exact base v pos S g (by simpa using h1) h3 h4 h5
  | succ k ih =>
    intro v pos S f h1 h2 h3 h4 h5 h6
    obtain ⟨g, rfl⟩ : ∃ g, f = g + 1 := ⟨f - 1, by omega⟩
    by_cases hv : v < 100
    · exact base v pos S g hv h3 h4 h5
    · have hn := nd_100 (by omega) h2
      have hn1 := (nd_le (v / 100)).2
      have e1 : -nI v / 100 * 100 - -nI v = nI (v % 100) := by
        show -nI v / nI 100 * nI 100 - -nI v = _
        rw [ng_div (by omega) (by decide), ng_mod (by omega)]
      have e2 : -nI v / 100 = -nI (v / 100) := ng_div (b := 100) (by omega) (by decide)
      have hm : v % 100 < 100 := Nat.mod_lt _ (by decide)
      rw [lpJ6_getChars_ba4f3_22, if_neg (show ¬ (-100 : Int32) < -nI v from fun q => by have := (ng_lt (a := 100) (by decide) (by omega)).mp q; omega), e1, if_pos (q_in hm (by decide)), if_pos rfl, nI_m1 (by omega), if_pos (q_in (by omega) (by omega)), wr_eq, q_ix (by omega), q_ix (by omega), byt_d _ (by omega), if_pos (q_in hm (by decide)), if_pos (show S.2.2.1.2.1 = (pF S 165 (upd (S.2.1 165) (pos - 1) (nI (48 + v % 100 % 10)))).2.2.1.2.1 from rfl), nI_m1 (by omega), if_pos (q_in (by show pos - 1 - 1 < S.2.2.1.2.2; omega) (by show S.2.2.1.2.2 < 2 ^ 31; omega)), wr_eq, q_ix (by omega), byt_d _ (by omega), pF_at, pF_pF, e2]
      have hlt : v / 100 < 100 ^ (k + 1) := by
        rw [Nat.pow_succ] at h1
        exact Nat.div_lt_of_lt_mul (by rw [Nat.mul_comm]; exact h1)
      have := ih (v / 100) (pos - 1 - 1) (pF S 165 (upd (upd (S.2.1 165) (pos - 1) (nI (48 + v % 100 % 10))) (pos - 1 - 1) (nI (48 + v % 100 / 10)))) g hlt (by omega) (by omega) (by show pos - 1 - 1 ≤ S.2.2.1.2.2; omega) h5 (by omega)
      refine Eq.trans this ?_
      rw [pF_at, pF_pF, show pos - 1 - 1 - nd (v / 100) = pos - nd v by omega]
      congr 3
      funext j
      unfold wdd upd
      by_cases q : pos - nd v ≤ j ∧ j < pos - 1 - 1
      · rw [if_pos (by omega), if_pos (by omega)]
        unfold dgt
        rw [Nat.div_div_eq_div_mul, show (100 : Nat) = 10 ^ 2 from rfl, ← Nat.pow_add, show 2 + (pos - 1 - 1 - 1 - j) = pos - 1 - j by omega]
      · rw [if_neg (by omega)]
        by_cases q1 : j = pos - 1 - 1
        · rw [if_pos q1, if_pos (by omega)]
          unfold dgt
          rw [show pos - 1 - j = 1 by omega, Nat.pow_one]
          congr 2
          omega
        · rw [if_neg q1]
          by_cases q2 : j = pos - 1
          · rw [if_pos q2, if_pos (by omega)]
            unfold dgt
            rw [show pos - 1 - j = 0 by omega, Nat.pow_zero, Nat.div_one]
            congr 2
            omega
          · rw [if_neg q2, if_neg (by omega)]
/-- a number appended -/
theorem q_an {S : Wo} {n v : Nat} {f : Nat → Int32} (h : LB S n f) (hv : v < 1000000) (hn : n + nd v ≤ S.2.2.1.2.2) : ∃ T, spJ4_append_bf812 (nI v) S = some T ∧ LB T (n + nd v) (apn f n v) ∧ FrL S T ∧ T.2.2 = S.2.2 := by
  have hc : S.2.2.1.2.2 ≤ 34 := by rcases h.2.2.1 with e | e <;> omega
  have hd := nd_le v
  refine ⟨pI (pF S 165 (wdd (S.2.1 165) (n + nd v) v)) 164 3 (nI (n + nd v)), ?_, ⟨?_, ?_, h.2.2.1, hn, fun i hi => ?_, fun i hi => ?_⟩, FrL.rf.pF.pI, rfl⟩
  · unfold spJ4_append_bf812 spJ5_append_c97b9
    rw [q_ss hv, Option.bind_some, h.2.1, nI_add, q_ens h hn, Option.bind_some]
    unfold spJ5_isLatin1_aae02
    rw [h.1, if_pos rfl, rz_1, Option.bind_some, if_neg i1_0]
    unfold spJ6_getChars_ba4f3
    rw [jn_e]
    dsimp only
    rw [if_pos (nI_pos' (by omega)), jn_e]
    dsimp only
    rw [if_pos rfl, q_gc (nI v) (nI (n + nd v)) 2 v (n + nd v) S 200 (by omega) hv (by omega) hn (by omega) (by decide), bd2_s, wr_eq]
    rfl
  · rw [pI_k (by decide), pF_1]; exact h.1
  · rw [pI_at]
  · rw [pI_2, pF_at]
    unfold wdd apn
    by_cases q : n ≤ i
    · rw [if_pos (by omega), if_pos (by omega)]
    · rw [if_neg (by omega), if_neg (by omega)]
      exact h.2.2.2.2.1 i (by omega)
  · rw [pI_2, pF_at]
    unfold wdd
    by_cases q : n + nd v - nd v ≤ i ∧ i < n + nd v
    · rw [if_pos q]
      exact ⟨_, by have := dgt_lt v (n + nd v - 1 - i); omega, rfl⟩
    · rw [if_neg q]
      exact h.2.2.2.2.2 i hi
/-! the reference's row -/
def L7 (S : Wo) (n : Nat) (f : Nat → Int32) : Prop := S.1 166 17 = nI n ∧ ∀ i, i < n → S.2.1 173 i = f i
def FrW (S T : Wo) : Prop := (∀ k, k ≠ 17 → T.1 166 k = S.1 166 k) ∧ (∀ a, a ≠ 166 → T.1 a = S.1 a) ∧ (∀ a, a ≠ 173 → T.2.1 a = S.2.1 a) ∧ T.2.2 = S.2.2
theorem FrW.rf {S : Wo} : FrW S S := ⟨fun _ _ => rfl, fun _ _ => rfl, fun _ _ => rfl, rfl⟩
theorem FrW.tr {S T U : Wo} (h1 : FrW S T) (h2 : FrW T U) : FrW S U := ⟨fun a h => (h2.1 a h).trans (h1.1 a h), fun a h => (h2.2.1 a h).trans (h1.2.1 a h), fun a h => (h2.2.2.1 a h).trans (h1.2.2.1 a h), h2.2.2.2.trans h1.2.2.2⟩
theorem L7.eq {S : Wo} {n : Nat} {f g : Nat → Int32} (h : L7 S n f) (e : ∀ i, i < n → f i = g i) : L7 S n g := ⟨h.1, fun i hi => (h.2 i hi).trans (e i hi)⟩
theorem q_w {S : Wo} {n b : Nat} {f : Nat → Int32} (h : L7 S n f) (hn : n < 40) (hb : b < 128) : ∃ T, spX7_writes (nI b) S = some T ∧ L7 T (n + 1) (putc f n (nI b)) ∧ FrW S T := by
  unfold spX7_writes
  rw [h.1, if_pos (q_in hn (by decide)), wr_eq, q_ix (by omega), chr_c b hb, wr_eq, pF_1, h.1, nI_1]
  refine ⟨_, rfl, ⟨pI_at _ _ _ _, fun i hi => ?_⟩, fun k hk => ?_, fun a ha => ?_, fun a ha => ?_, rfl⟩
  · rw [pI_2, pF_at]
    by_cases e : i = n
    · subst e; rw [u_at, putc_at]
    · rw [u_ne e, putc_ne e]; exact h.2 i (by omega)
  · rw [pI_k hk, pF_1]
  · rw [pI_ne ha, pF_1]
  · rw [pI_2, pF_ne ha]
theorem dg_last {v : Nat} (hv : v < 2 ^ 30) : (48 : Int32) + (nI v - nI v / 10 * 10) = nI (48 + v % 10) := by
  show nI 48 + (nI v - nI v / nI 10 * nI 10) = _
  rw [q_rem (by omega) (by decide), nI_add]
theorem apn_1 {f : Nat → Int32} {n v : Nat} (hv : v < 10) : ∀ i, i < n + 1 → putc f n (nI (48 + v % 10)) i = apn f n v i := by
  intro i hi
  unfold putc apn
  rw [nd_1 hv]
  by_cases e : i = n
  · rw [if_pos e, if_pos (by omega)]
    unfold dgt
    rw [show n + 1 - 1 - i = 0 by omega, Nat.pow_zero, Nat.div_one]
  · rw [if_neg e, if_neg (by omega)]
theorem apn_s {f : Nat → Int32} {n v : Nat} (hv : ¬ v < 10) (h2 : v < 1000000) : ∀ i, i < n + nd v → putc (apn f n (v / 10)) (n + nd (v / 10)) (nI (48 + v % 10)) i = apn f n v i := by
  intro i hi
  have hn := nd_10 (by omega) h2
  unfold putc apn
  by_cases e : i = n + nd (v / 10)
  · rw [if_pos e, if_pos (by omega)]
    unfold dgt
    rw [show n + nd v - 1 - i = 0 by omega, Nat.pow_zero, Nat.div_one]
  · rw [if_neg e]
    by_cases q : n ≤ i
    · rw [if_pos (by omega), if_pos (by omega)]
      unfold dgt
      rw [Nat.div_div_eq_div_mul, show 10 * 10 ^ (n + nd (v / 10) - 1 - i) = 10 ^ (n + nd v - 1 - i) by rw [← Nat.pow_succ']; congr 1; omega]
    · rw [if_neg (by omega), if_neg (by omega)]
def Wn (sp : Int32 → Wo → Option Wo) (B : Nat) : Prop := ∀ v S n f, v < B → v < 1000000 → L7 S n f → n + nd v ≤ 40 → ∃ T, sp (nI v) S = some T ∧ L7 T (n + nd v) (apn f n v) ∧ FrW S T
theorem wn_0 : Wn spX7_writesNumber_0 10 := by
  intro v S n f hv hv2 h hn
  rw [nd_1 hv] at hn ⊢
  obtain ⟨T, e1, l1, f1⟩ := q_w (b := 48 + v % 10) h (by omega) (by omega)
  unfold spX7_writesNumber_0
  rw [if_pos (show nI v ≤ (9 : Int32) from show nI v ≤ nI 9 from nI_le (by omega) (by decide)), dg_last (by omega), e1, Option.bind_some]
  exact ⟨T, rfl, l1.eq (apn_1 hv), f1⟩
theorem wn_1 : Wn spX7_writesNumber_1 100 := by
  intro v S n f hv hv2 h hn
  unfold spX7_writesNumber_1
  by_cases e : v < 10
  · rw [nd_1 e] at hn ⊢
    obtain ⟨T, e1, l1, f1⟩ := q_w (b := 48 + v % 10) h (by omega) (by omega)
    rw [if_pos (show nI v ≤ (9 : Int32) from show nI v ≤ nI 9 from nI_le (by omega) (by decide)), dg_last (by omega), e1, Option.bind_some]
    exact ⟨T, rfl, l1.eq (apn_1 e), f1⟩
  · have hd := nd_10 (by omega) hv2
    have e10 : nI v / 10 = nI (v / 10) := q_div (b := 10) (by omega) (by decide)
    obtain ⟨T, e1, l1, f1⟩ := wn_0 (v / 10) S n f (by omega) (by omega) h (by omega)
    obtain ⟨T2, e2, l2, f2⟩ := q_w (b := 48 + v % 10) l1 (by omega) (by omega)
    rw [if_neg (show ¬ nI v ≤ (9 : Int32) from show ¬ nI v ≤ nI 9 from nI_ge (by omega) (by omega)), dg_last (by omega), e10, e1, Option.bind_some, e2, Option.bind_some]
    refine ⟨T2, rfl, ?_, f1.tr f2⟩
    rw [← hd, ← Nat.add_assoc]
    exact l2.eq (fun i hi => apn_s e hv2 i (by omega))
theorem wn_2 : Wn spX7_writesNumber_2 1000 := by
  intro v S n f hv hv2 h hn
  unfold spX7_writesNumber_2
  by_cases e : v < 10
  · rw [nd_1 e] at hn ⊢
    obtain ⟨T, e1, l1, f1⟩ := q_w (b := 48 + v % 10) h (by omega) (by omega)
    rw [if_pos (show nI v ≤ (9 : Int32) from show nI v ≤ nI 9 from nI_le (by omega) (by decide)), dg_last (by omega), e1, Option.bind_some]
    exact ⟨T, rfl, l1.eq (apn_1 e), f1⟩
  · have hd := nd_10 (by omega) hv2
    have e10 : nI v / 10 = nI (v / 10) := q_div (b := 10) (by omega) (by decide)
    obtain ⟨T, e1, l1, f1⟩ := wn_1 (v / 10) S n f (by omega) (by omega) h (by omega)
    obtain ⟨T2, e2, l2, f2⟩ := q_w (b := 48 + v % 10) l1 (by omega) (by omega)
    rw [if_neg (show ¬ nI v ≤ (9 : Int32) from show ¬ nI v ≤ nI 9 from nI_ge (by omega) (by omega)), dg_last (by omega), e10, e1, Option.bind_some, e2, Option.bind_some]
    refine ⟨T2, rfl, ?_, f1.tr f2⟩
    rw [← hd, ← Nat.add_assoc]
    exact l2.eq (fun i hi => apn_s e hv2 i (by omega))
theorem wn_3 : Wn spX7_writesNumber_3 10000 := by
  intro v S n f hv hv2 h hn
  unfold spX7_writesNumber_3
  by_cases e : v < 10
  · rw [nd_1 e] at hn ⊢
    obtain ⟨T, e1, l1, f1⟩ := q_w (b := 48 + v % 10) h (by omega) (by omega)
    rw [if_pos (show nI v ≤ (9 : Int32) from show nI v ≤ nI 9 from nI_le (by omega) (by decide)), dg_last (by omega), e1, Option.bind_some]
    exact ⟨T, rfl, l1.eq (apn_1 e), f1⟩
  · have hd := nd_10 (by omega) hv2
    have e10 : nI v / 10 = nI (v / 10) := q_div (b := 10) (by omega) (by decide)
    obtain ⟨T, e1, l1, f1⟩ := wn_2 (v / 10) S n f (by omega) (by omega) h (by omega)
    obtain ⟨T2, e2, l2, f2⟩ := q_w (b := 48 + v % 10) l1 (by omega) (by omega)
    rw [if_neg (show ¬ nI v ≤ (9 : Int32) from show ¬ nI v ≤ nI 9 from nI_ge (by omega) (by omega)), dg_last (by omega), e10, e1, Option.bind_some, e2, Option.bind_some]
    refine ⟨T2, rfl, ?_, f1.tr f2⟩
    rw [← hd, ← Nat.add_assoc]
    exact l2.eq (fun i hi => apn_s e hv2 i (by omega))
theorem wn_4 : Wn spX7_writesNumber_4 100000 := by
  intro v S n f hv hv2 h hn
  unfold spX7_writesNumber_4
  by_cases e : v < 10
  · rw [nd_1 e] at hn ⊢
    obtain ⟨T, e1, l1, f1⟩ := q_w (b := 48 + v % 10) h (by omega) (by omega)
    rw [if_pos (show nI v ≤ (9 : Int32) from show nI v ≤ nI 9 from nI_le (by omega) (by decide)), dg_last (by omega), e1, Option.bind_some]
    exact ⟨T, rfl, l1.eq (apn_1 e), f1⟩
  · have hd := nd_10 (by omega) hv2
    have e10 : nI v / 10 = nI (v / 10) := q_div (b := 10) (by omega) (by decide)
    obtain ⟨T, e1, l1, f1⟩ := wn_3 (v / 10) S n f (by omega) (by omega) h (by omega)
    obtain ⟨T2, e2, l2, f2⟩ := q_w (b := 48 + v % 10) l1 (by omega) (by omega)
    rw [if_neg (show ¬ nI v ≤ (9 : Int32) from show ¬ nI v ≤ nI 9 from nI_ge (by omega) (by omega)), dg_last (by omega), e10, e1, Option.bind_some, e2, Option.bind_some]
    refine ⟨T2, rfl, ?_, f1.tr f2⟩
    rw [← hd, ← Nat.add_assoc]
    exact l2.eq (fun i hi => apn_s e hv2 i (by omega))
theorem wn_5 : Wn spX7_writesNumber_5 1000000 := by
  intro v S n f hv hv2 h hn
  unfold spX7_writesNumber_5
  by_cases e : v < 10
  · rw [nd_1 e] at hn ⊢
    obtain ⟨T, e1, l1, f1⟩ := q_w (b := 48 + v % 10) h (by omega) (by omega)
    rw [if_pos (show nI v ≤ (9 : Int32) from show nI v ≤ nI 9 from nI_le (by omega) (by decide)), dg_last (by omega), e1, Option.bind_some]
    exact ⟨T, rfl, l1.eq (apn_1 e), f1⟩
  · have hd := nd_10 (by omega) hv2
    have e10 : nI v / 10 = nI (v / 10) := q_div (b := 10) (by omega) (by decide)
    obtain ⟨T, e1, l1, f1⟩ := wn_4 (v / 10) S n f (by omega) (by omega) h (by omega)
    obtain ⟨T2, e2, l2, f2⟩ := q_w (b := 48 + v % 10) l1 (by omega) (by omega)
    rw [if_neg (show ¬ nI v ≤ (9 : Int32) from show ¬ nI v ≤ nI 9 from nI_ge (by omega) (by omega)), dg_last (by omega), e10, e1, Option.bind_some, e2, Option.bind_some]
    refine ⟨T2, rfl, ?_, f1.tr f2⟩
    rw [← hd, ← Nat.add_assoc]
    exact l2.eq (fun i hi => apn_s e hv2 i (by omega))
theorem wn_6 : Wn spX7_writesNumber_6 10000000 := by
  intro v S n f hv hv2 h hn
  unfold spX7_writesNumber_6
  by_cases e : v < 10
  · rw [nd_1 e] at hn ⊢
    obtain ⟨T, e1, l1, f1⟩ := q_w (b := 48 + v % 10) h (by omega) (by omega)
    rw [if_pos (show nI v ≤ (9 : Int32) from show nI v ≤ nI 9 from nI_le (by omega) (by decide)), dg_last (by omega), e1, Option.bind_some]
    exact ⟨T, rfl, l1.eq (apn_1 e), f1⟩
  · have hd := nd_10 (by omega) hv2
    have e10 : nI v / 10 = nI (v / 10) := q_div (b := 10) (by omega) (by decide)
    obtain ⟨T, e1, l1, f1⟩ := wn_5 (v / 10) S n f (by omega) (by omega) h (by omega)
    obtain ⟨T2, e2, l2, f2⟩ := q_w (b := 48 + v % 10) l1 (by omega) (by omega)
    rw [if_neg (show ¬ nI v ≤ (9 : Int32) from show ¬ nI v ≤ nI 9 from nI_ge (by omega) (by omega)), dg_last (by omega), e10, e1, Option.bind_some, e2, Option.bind_some]
    refine ⟨T2, rfl, ?_, f1.tr f2⟩
    rw [← hd, ← Nat.add_assoc]
    exact l2.eq (fun i hi => apn_s e hv2 i (by omega))

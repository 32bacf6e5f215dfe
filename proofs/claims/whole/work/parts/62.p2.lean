/-! ===== the reference's sets ===== -/
section SETS7
variable {S : Wo} {D d : Nat} {A : As} {X Y : Int32}
theorem q_holds (h : RG (S.2.1 167) A) (w : WF0 D A) {c : Nat} (hc : c < aM A) (hd : d < 2 ^ 31) : spX7_holds (nI c) X (nI d) S = some (b2 (hol A d X c)) := by
  have hm := w.1.2.1
  have hn := w.1.1
  have hD := w.1.2.2.1
  have hD2 := w.1.2.2.2
  obtain ⟨w1, w2, w3, w4⟩ := w.2.2.1 c hc
  have wf := w.2.1 _ w2
  unfold spX7_holds
  rw [rg_l h w hc, Option.bind_some, rg_s h w hc, rg_a h w hc, rg_i h w hc]
  simp only [Option.bind_some]
  rw [if_pos (in_5 (by omega)), ix_5 (by omega), h.2.1 _ w2]
  unfold hol
  by_cases e3 : d ≤ (aC A c).2.2.2
  · rw [if_neg (nI_nlt e3 (by omega)), decide_eq_true e3, Bool.true_and]
    by_cases e2 : aF A (aC A c).2.1 = (aC A c).2.2.1
    · rw [if_pos (by rw [e2]), decide_eq_true e2, Bool.true_and]
      by_cases e : (aC A c).1 = 0
      · rw [e, cIs_0, if_pos (by decide)]; rfl
      · rw [cIs_p e, if_neg (nI_pos (by omega)), q_has7 (by omega), Option.bind_some, decide_eq_false e, Bool.false_or]
        cases bt X ((aC A c).1 - 1) <;> rfl
    · rw [if_neg (fun q => e2 ((nI_eq (by omega) (by omega)).mp q)), decide_eq_false e2]; rfl
  · rw [if_pos (nI_lt (by omega) hd), decide_eq_false e3]; rfl
def uP (A : As) (d : Nat) (X : Int32) (c : Nat) : Bool := hol A d X c && !bt (aR A) (aC A c).2.1
theorem uTo (w : WF0 D A) (hs : sub32 X (tTo A d X)) : orB (uP A d X) (fun c => (aC A c).2.1) X (aM A) = tTo A d X := by
  have hn := w.1.1
  apply b_ext
  intro i hi
  rw [Bool.eq_iff_iff, orB_bt hi (fun c hc _ => by have := (w.2.2.1 c hc).2.1; omega), tTo_bt w hi]
  constructor
  · rintro (h | ⟨c, h1, h2, h3⟩)
    · exact (tTo_bt w hi).mp (hs i hi h)
    · unfold uP at h2
      rw [Bool.and_eq_true] at h2
      rw [h3] at h2
      exact ⟨by simpa using h2.2, c, h1, h2.1, h3⟩
  · rintro ⟨h1, c, h2, h3, h4⟩
    refine Or.inr ⟨c, h2, ?_, h4⟩
    unfold uP
    rw [h3, h4, h1]; rfl
theorem q_c14 (h : RG (S.2.1 167) A) (w : WF0 D A) (hd : d < 2 ^ 31) (K : Int32 → Int32 → Option Int32) (a : Int32) : lpX7_certified_14 (nI d) S X K 200 a 0 = K (orB (uP A d X) (fun c => (aC A c).2.1) a (aM A)) (nI (aM A)) := by
  have hm := w.1.2.1
  have hn := w.1.1
  refine lp_up (L := fun f t => lpX7_certified_14 (nI d) S X K f (orB (uP A d X) (fun c => (aC A c).2.1) a t) (nI t)) (m := aM A) ?_ ?_ (aM A) 0 200 (by omega) (by omega)
  · intro f t ht
    obtain ⟨w1, w2, w3, w4⟩ := w.2.2.1 t ht
    show lpX7_certified_14 (nI d) S X K (f + 1) (orB (uP A d X) (fun c => (aC A c).2.1) a t) (nI t) = lpX7_certified_14 (nI d) S X K f (orB (uP A d X) (fun c => (aC A c).2.1) a (t + 1)) (nI (t + 1))
    rw [lpX7_certified_14, if_pos in_1, ix_1, if_neg (fun e => absurd ((rg_m h w (by omega)).mp e) (by omega)), q_holds h w ht hd, Option.bind_some, if_pos in_15, ix_15, rg_s h w ht, h.1.2.1, nI_1, orB, uP]
    cases hh : hol A d X t
    · rw [if_pos (show b2 false = 0 from rfl)]; rfl
    · rw [if_neg (show ¬ b2 true = 0 from by decide), Option.bind_some, q_has7 (by omega), Option.bind_some]
      cases hb : bt (aR A) (aC A t).2.1
      · rw [if_pos (show b2 false = 0 from rfl), Option.bind_some]; rfl
      · rw [if_neg (show ¬ b2 true = 0 from by decide)]; rfl
  · intro f
    show lpX7_certified_14 (nI d) S X K (f + 1) (orB (uP A d X) (fun c => (aC A c).2.1) a (aM A)) (nI (aM A)) = _
    rw [lpX7_certified_14, if_pos in_1, ix_1, if_pos ((rg_m h w (by omega)).mpr (Nat.le_refl _))]
theorem q_cfd7 (h : RG (S.2.1 167) A) (w : WF0 D A) (hd : d < 2 ^ 31) : spX7_certified (nI d) S = some (cfd A d) := by
  unfold spX7_certified
  have key : ∀ k r f, r + k = 12 → k < f → lpX7_certified_4 (nI d) S f (tFr A d r) (if r = 0 then -1 else tFr A d (r - 1)) = some (cfd A d) := by
    intro k
    induction k with
    | zero =>
      intro r f h1 h2
      obtain ⟨g, rfl⟩ : ∃ g, f = g + 1 := ⟨f - 1, by omega⟩
      have e : r = 12 := by omega
      subst e
      rw [lpX7_certified_4, if_neg (by decide : ¬ 12 = 0)]
      rw [if_pos (show tFr A d 12 = tFr A d (12 - 1) from (tFr_10 w 2).trans (tFr_10 w 1).symm)]
      exact congrArg some (tFr_10 w 2)
    | succ k ih =>
      intro r f h1 h2
      obtain ⟨g, rfl⟩ : ∃ g, f = g + 1 := ⟨f - 1, by omega⟩
      rw [lpX7_certified_4]
      by_cases e : tFr A d r = (if r = 0 then -1 else tFr A d (r - 1))
      · rw [if_pos e]
        by_cases h0 : r = 0
        · subst h0
          rw [if_pos rfl] at e
          exact absurd e (by show ¬ (0 : Int32) = -1; decide)
        · rw [if_neg h0] at e
          have e3 : tFr A d (r - 1) = tFr A d (r - 1 + 1) := by rw [show r - 1 + 1 = r by omega]; exact e.symm
          have e4 := tFr_stay e3 (10 - (r - 1))
          rw [show r - 1 + (10 - (r - 1)) = 10 by omega] at e4
          rw [e, ← e4]; rfl
      · rw [if_neg e, q_c14 h w hd, uTo w (tFr_up w r)]
        have := ih (r + 1) g (by omega) (by omega)
        rw [if_neg (by omega : ¬ r + 1 = 0), show r + 1 - 1 = r by omega] at this
        exact this
  exact key 12 0 200 (by omega) (by omega)
theorem q_day7 (h : RG (S.2.1 167) A) : S.2.1 167 (ix 2) = nI (aD A) := by rw [ix_2]; exact h.1.2.2.2.1
theorem q_cfdN7 (h : RG (S.2.1 167) A) (w : WF0 D A) : spX7_certified (S.2.1 167 (ix 2)) S = some (cfd A (aD A)) := by
  have h1 := w.1.2.2.1
  have h2 := w.1.2.2.2
  rw [q_day7 h, q_cfd7 h w (by omega)]
/-- a certificate in force now -/
def vld (A : As) (c : Nat) : Bool := hol A (aD A) (cfd A (aD A)) c
theorem q_valid7 (h : RG (S.2.1 167) A) (w : WF0 D A) {c : Nat} (hc : c < aM A) : spX7_isValid (nI c) S = some (b2 (vld A c)) := by
  have h1 := w.1.2.2.1
  have h2 := w.1.2.2.2
  unfold spX7_isValid
  rw [if_pos in_2, q_cfdN7 h w, Option.bind_some, if_pos in_2, q_day7 h, q_holds h w hc (by omega), Option.bind_some, rz_b2]; rfl
end SETS7
/-! ===== who stands where, who is near ===== -/
def stn (A : As) (p : Int32) : Option Nat := fst (fun k => decide (nI (aF A k) = p)) 0 (aN A)
def oI (x : Option Nat) : Int32 := x.elim (-1) nI
theorem oI_n : oI none = -1 := rfl
theorem oI_s (k : Nat) : oI (some k) = nI k := rfl
theorem stn_lt {A : As} {p : Int32} {k : Nat} (h : stn A p = some k) : k < aN A ∧ nI (aF A k) = p := by
  obtain ⟨h1, h2, h3, h4⟩ := fst_some h
  exact ⟨by omega, of_decide_eq_true h3⟩
def dst (a b : Nat) : Nat := (a / 4 - b / 4) + (b / 4 - a / 4) + ((a % 4 - b % 4) + (b % 4 - a % 4))
def nea (a b : Nat) : Bool := decide (dst a b ≤ 1)
def nP (A : As) (X : Int32) (f k : Nat) : Bool := bt X k && nea (aF A k) f
def nr (A : As) (X : Int32) (f : Nat) : Bool := (fst (nP A X f) 0 (aN A)).isSome
theorem nr_iff {A : As} {X : Int32} {f : Nat} : nr A X f = true ↔ ∃ k, k < aN A ∧ bt X k = true ∧ nea (aF A k) f = true := by
  unfold nr
  cases hf : fst (nP A X f) 0 (aN A) with
  | none =>
    constructor
    · intro h; cases h
    · rintro ⟨k, h1, h2, h3⟩
      have := fst_none hf k (by omega) (by omega)
      unfold nP at this
      rw [h2, h3] at this
      cases this
  | some i =>
    obtain ⟨h1, h2, h3, h4⟩ := fst_some hf
    unfold nP at h3
    rw [Bool.and_eq_true] at h3
    exact ⟨fun _ => ⟨i, by omega, h3.1, h3.2⟩, fun _ => rfl⟩
theorem q_dist (S : Wo) : ∀ a, a < 16 → ∀ b, b < 16 → spX6_distance (nI a) (nI b) S = some (nI (dst a b)) := by
  unfold spX6_distance
  decide +kernel
theorem dst_lt : ∀ a, a < 16 → ∀ b, b < 16 → dst a b < 7 := by decide +kernel
def fnr (a : Nat) : Int32 := orB (nea a) id 0 16
theorem q_fnear (S : Wo) : ∀ a, a < 16 → spX6_fieldsNear (nI a) S = some (fnr a) := by
  unfold spX6_fieldsNear
  decide +kernel
def gs (A : As) (X : Int32) : Nat → Int32
  | 0 => 0
  | t + 1 => if bt X t = true then orB (nea (aF A t)) id (gs A X t) 16 else gs A X t
def gs6 (A : As) (X : Int32) : Nat → Int32
  | 0 => 0
  | t + 1 => if bt X t = true then gs6 A X t ||| fnr (aF A t) else gs6 A X t
theorem gs_bt {A : As} {X : Int32} {i : Nat} (hi : i < 32) : ∀ m, bt (gs A X m) i = true ↔ i < 16 ∧ ∃ k, k < m ∧ bt X k = true ∧ nea (aF A k) i = true
  | 0 => by
    rw [gs, b_0]
    exact ⟨fun h => absurd h (by decide), fun ⟨_, k, h, _⟩ => absurd h (Nat.not_lt_zero k)⟩
  | t + 1 => by
    have ih := gs_bt (A := A) (X := X) hi t
    rw [gs]
    by_cases hx : bt X t = true
    · rw [if_pos hx, orB_bt hi (fun c hc _ => by show c < 32; omega), ih]
      constructor
      · rintro (⟨h0, k, h1, h2, h3⟩ | ⟨c, h1, h2, h3⟩)
        · exact ⟨h0, k, by omega, h2, h3⟩
        · have h3 : c = i := h3
          subst h3
          exact ⟨h1, t, by omega, hx, h2⟩
      · rintro ⟨h0, k, h1, h2, h3⟩
        by_cases e : k = t
        · subst e; exact Or.inr ⟨i, h0, h3, rfl⟩
        · exact Or.inl ⟨h0, k, by omega, h2, h3⟩
    · rw [if_neg hx, ih]
      constructor
      · rintro ⟨h0, k, h1, h2, h3⟩; exact ⟨h0, k, by omega, h2, h3⟩
      · rintro ⟨h0, k, h1, h2, h3⟩
        by_cases e : k = t
        · subst e; exact absurd h2 hx
        · exact ⟨h0, k, by omega, h2, h3⟩
theorem gs6_gs {A : As} {X : Int32} : ∀ m, gs6 A X m = gs A X m
  | 0 => rfl
  | t + 1 => by
    rw [gs6, gs, gs6_gs t]
    by_cases hx : bt X t = true
    · rw [if_pos hx, if_pos hx]
      apply b_ext
      intro i hi
      rw [Bool.eq_iff_iff, b_or, Bool.or_eq_true, orB_bt hi (fun c hc _ => by show c < 32; omega)]
      unfold fnr
      rw [orB_bt hi (fun c hc _ => by show c < 32; omega), b_0]
      constructor
      · rintro (h | h | h)
        · exact Or.inl h
        · cases h
        · exact Or.inr h
      · rintro (h | h)
        · exact Or.inl h
        · exact Or.inr (Or.inr h)
    · rw [if_neg hx, if_neg hx]
def gds (A : As) : Int32 := gs A (cfd A (aD A)) (aN A)
theorem gds_bt {A : As} {i : Nat} (hi : i < 16) : bt (gds A) i = nr A (cfd A (aD A)) i := by
  rw [Bool.eq_iff_iff]
  unfold gds
  rw [gs_bt (by omega), nr_iff]
  exact ⟨fun h => h.2, fun h => ⟨hi, h⟩⟩
section NEAR
variable {S : Wo} {o D : Nat} {A : As} {X : Int32} {p : Int32}
theorem q_at (h : RS S o A) (w : WF0 D A) : spX5_scarecrowAt o p S = some (oI (stn A p)) := by
  have hn := w.1.1
  unfold spX5_scarecrowAt
  refine (lp_fst (L := fun f t => lpX5_scarecrowAt_2 o p S f (nI t)) (P := fun k => decide (nI (aF A k) = p)) (m := aN A) (r := some (-1)) (R := fun k => some (nI k)) ?_ ?_ ?_ (aN A) 0 200 (by omega) (by omega)).trans ?_
  · intro f t ht hp
    show lpX5_scarecrowAt_2 o p S (f + 1) (nI t) = lpX5_scarecrowAt_2 o p S f (nI (t + 1))
    rw [lpX5_scarecrowAt_2, if_neg (fun e => absurd ((rs_n h w (by omega)).mp e) (by omega)), rs_f h w ht, Option.bind_some, if_neg (of_decide_eq_false hp), nI_1]
  · intro f t ht hp
    show lpX5_scarecrowAt_2 o p S (f + 1) (nI t) = _
    rw [lpX5_scarecrowAt_2, if_neg (fun e => absurd ((rs_n h w (by omega)).mp e) (by omega)), rs_f h w ht, Option.bind_some, if_pos (of_decide_eq_true hp)]
  · intro f
    show lpX5_scarecrowAt_2 o p S (f + 1) (nI (aN A)) = _
    rw [lpX5_scarecrowAt_2, if_pos ((rs_n h w (by omega)).mpr (Nat.le_refl _))]
  · unfold stn oI
    cases fst (fun k => decide (nI (aF A k) = p)) 0 (aN A) <;> rfl
theorem q_stn7 (h : RG (S.2.1 167) A) (w : WF0 D A) : spX7_standing p S = some (oI (stn A p)) := by
  have hn := w.1.1
  unfold spX7_standing
  refine (lp_fst (L := fun f t => lpX7_standing_2 p S f (nI t)) (P := fun k => decide (nI (aF A k) = p)) (m := aN A) (r := some (-1)) (R := fun k => some (nI k)) ?_ ?_ ?_ (aN A) 0 200 (by omega) (by omega)).trans ?_
  · intro f t ht hp
    show lpX7_standing_2 p S (f + 1) (nI t) = lpX7_standing_2 p S f (nI (t + 1))
    rw [lpX7_standing_2, if_pos in_0, ix_0, if_neg (fun e => absurd ((rg_n h w (by omega)).mp e) (by omega)), if_pos (in_5 (by omega)), ix_5 (by omega), h.2.1 t ht, if_neg (of_decide_eq_false hp), nI_1]
  · intro f t ht hp
    show lpX7_standing_2 p S (f + 1) (nI t) = _
    rw [lpX7_standing_2, if_pos in_0, ix_0, if_neg (fun e => absurd ((rg_n h w (by omega)).mp e) (by omega)), if_pos (in_5 (by omega)), ix_5 (by omega), h.2.1 t ht, if_pos (of_decide_eq_true hp)]
  · intro f
    show lpX7_standing_2 p S (f + 1) (nI (aN A)) = _
    rw [lpX7_standing_2, if_pos in_0, ix_0, if_pos ((rg_n h w (by omega)).mpr (Nat.le_refl _))]
  · unfold stn oI
    cases fst (fun k => decide (nI (aF A k) = p)) 0 (aN A) <;> rfl
theorem q_near (h : RS S o A) (w : WF0 D A) {f : Nat} (hf : f < 16) : spX5_isNearOneOf o X (nI f) S = some (b2 (nr A X f)) := by
  have hn := w.1.1
  unfold spX5_isNearOneOf
  refine (lp_fst (L := fun g t => lpX5_isNearOneOf_2 o X (nI f) S g (nI t)) (P := nP A X f) (m := aN A) (r := some 0) (R := fun k => some 1) ?_ ?_ ?_ (aN A) 0 200 (by omega) (by omega)).trans ?_
  · intro g t ht hp
    have wf := w.2.1 t ht
    have hl := dst_lt _ wf _ hf
    show lpX5_isNearOneOf_2 o X (nI f) S (g + 1) (nI t) = lpX5_isNearOneOf_2 o X (nI f) S g (nI (t + 1))
    rw [lpX5_isNearOneOf_2, if_neg (fun e => absurd ((rs_n h w (by omega)).mp e) (by omega)), q_has (by omega), Option.bind_some, rs_f h w ht, Option.bind_some, q_dist S _ wf _ hf, Option.bind_some, nI_1]
    unfold nP at hp
    cases hb : bt X t
    · rw [if_pos (show b2 false = 0 from rfl)]
    · rw [if_neg (show ¬ b2 true = 0 from by decide)]
      rw [hb, Bool.true_and] at hp
      rw [if_pos (show (1 : Int32) < nI (dst (aF A t) f) from show nI 1 < nI (dst (aF A t) f) from nI_lt (by have := of_decide_eq_false hp; omega) (by omega))]
  · intro g t ht hp
    have wf := w.2.1 t ht
    have hl := dst_lt _ wf _ hf
    show lpX5_isNearOneOf_2 o X (nI f) S (g + 1) (nI t) = _
    unfold nP at hp
    rw [Bool.and_eq_true] at hp
    rw [lpX5_isNearOneOf_2, if_neg (fun e => absurd ((rs_n h w (by omega)).mp e) (by omega)), q_has (by omega), Option.bind_some, rs_f h w ht, Option.bind_some, q_dist S _ wf _ hf, Option.bind_some, hp.1, if_neg (show ¬ b2 true = 0 from by decide)]
    rw [if_neg (show ¬ (1 : Int32) < nI (dst (aF A t) f) from show ¬ nI 1 < nI (dst (aF A t) f) from nI_nlt (of_decide_eq_true hp.2) (by omega))]; rfl
  · intro g
    show lpX5_isNearOneOf_2 o X (nI f) S (g + 1) (nI (aN A)) = _
    rw [lpX5_isNearOneOf_2, if_pos ((rs_n h w (by omega)).mpr (Nat.le_refl _))]; rfl
  · unfold nr
    cases fst (nP A X f) 0 (aN A) <;> rfl
theorem q_apart {a b : Nat} (ha : a < 2 ^ 31) (hb : b < 2 ^ 31) (S : Wo) : spX7_apart (nI a) (nI b) S = some (nI ((a - b) + (b - a))) := by
  unfold spX7_apart
  by_cases h : a ≤ b
  · rw [if_pos (nI_le h hb), q_sub h, show a - b = 0 by omega, Nat.zero_add]
  · rw [if_neg (nI_ge (by omega) ha), q_sub (by omega), show b - a = 0 by omega, Nat.add_zero]
theorem q_g28 (h : RG (S.2.1 167) A) (w : WF0 D A) {k : Nat} (hk : k < aN A) (K : Int32 → Int32 → Option Int32) (a : Int32) : ∃ z, lpX7_guards_28 S X (nI k) K 200 a 0 = K (if bt X k = true then orB (nea (aF A k)) id a 16 else a) z := by
  have hn := w.1.1
  have wf := w.2.1 k hk
  by_cases hb : bt X k = true
  · rw [if_pos hb]
    refine ⟨nI 16, ?_⟩
    refine lp_up (L := fun f t => lpX7_guards_28 S X (nI k) K f (orB (nea (aF A k)) id a t) (nI t)) (m := 16) ?_ ?_ 16 0 200 (by omega) (by omega)
    · intro f t ht
      have e4 : ∀ x, x < 16 → nI x / 4 = nI (x / 4) := fun x hx => q_div (b := 4) (by omega) (by omega)
      have e5 : ∀ x, x < 16 → nI x - nI x / 4 * 4 = nI (x % 4) := fun x hx => q_rem (b := 4) (by omega) (by omega)
      show lpX7_guards_28 S X (nI k) K (f + 1) (orB (nea (aF A k)) id a t) (nI t) = lpX7_guards_28 S X (nI k) K f (orB (nea (aF A k)) id a (t + 1)) (nI (t + 1))
      rw [lpX7_guards_28, if_neg (show ¬ (16 : Int32) ≤ nI t from show ¬ nI 16 ≤ nI t from nI_ge ht (by omega)), q_has7 (by omega), Option.bind_some, hb, if_neg (show ¬ b2 true = 0 from by decide), if_pos (in_5 (by omega)), ix_5 (by omega), h.2.1 k hk, e5 _ wf, e5 _ ht, e4 _ wf, e4 _ ht, q_apart (by omega) (by omega), Option.bind_some, q_apart (by omega) (by omega), Option.bind_some, nI_add, nI_1, orB]
      have hl := dst_lt _ wf _ ht
      have e6 : aF A k / 4 - t / 4 + (t / 4 - aF A k / 4) + (aF A k % 4 - t % 4 + (t % 4 - aF A k % 4)) = dst (aF A k) t := rfl
      rw [e6]
      by_cases hz : dst (aF A k) t ≤ 1
      · rw [if_neg (show ¬ (2 : Int32) ≤ nI (dst (aF A k) t) from show ¬ nI 2 ≤ nI (dst (aF A k) t) from nI_ge (by omega) (by omega)), if_pos (show nea (aF A k) t = true from decide_eq_true hz)]
        rfl
      · rw [if_pos (show (2 : Int32) ≤ nI (dst (aF A k) t) from show nI 2 ≤ nI (dst (aF A k) t) from nI_le (by omega) (by omega)), if_neg (show ¬ nea (aF A k) t = true from fun q => hz (of_decide_eq_true q))]
    · intro f
      show lpX7_guards_28 S X (nI k) K (f + 1) (orB (nea (aF A k)) id a 16) (nI 16) = _
      rw [lpX7_guards_28, if_pos (by decide)]
  · rw [if_neg hb]
    refine ⟨0, ?_⟩
    show lpX7_guards_28 S X (nI k) K (199 + 1) a (nI 0) = _
    rw [lpX7_guards_28, if_neg (by decide), q_has7 (by omega), Option.bind_some, Bool.eq_false_iff.mpr hb, if_pos (show b2 false = 0 from rfl)]
    rfl
theorem q_guards (h : RG (S.2.1 167) A) (w : WF0 D A) : spX7_guards S = some (gds A) := by
  have hn := w.1.1
  unfold spX7_guards
  rw [if_pos in_2, q_cfdN7 h w, Option.bind_some]
  refine lp_up (L := fun f t => lpX7_guards_15 S (cfd A (aD A)) f (gs A (cfd A (aD A)) t) (nI t)) (m := aN A) ?_ ?_ (aN A) 0 200 (by omega) (by omega)
  · intro f t ht
    show lpX7_guards_15 S (cfd A (aD A)) (f + 1) (gs A (cfd A (aD A)) t) (nI t) = lpX7_guards_15 S (cfd A (aD A)) f (gs A (cfd A (aD A)) (t + 1)) (nI (t + 1))
    rw [lpX7_guards_15, if_pos in_0, ix_0, if_neg (fun e => absurd ((rg_n h w (by omega)).mp e) (by omega))]
    obtain ⟨z, hz⟩ := q_g28 (X := cfd A (aD A)) h w ht (fun u7 u8 => lpX7_guards_15 S (cfd A (aD A)) f u7 (nI t + 1)) (gs A (cfd A (aD A)) t)
    rw [hz, nI_1]
    rfl
  · intro f
    show lpX7_guards_15 S (cfd A (aD A)) (f + 1) (gs A (cfd A (aD A)) (aN A)) (nI (aN A)) = _
    rw [lpX7_guards_15, if_pos in_0, ix_0, if_pos ((rg_n h w (by omega)).mpr (Nat.le_refl _))]
    rfl
theorem q_bits7 (x : Int32) (S : Wo) : spX7_bits x S = some (nI (fb_ct (bt x) 16)) := by
  unfold spX7_bits
  refine lp_up (L := fun f t => lpX7_bits_4 x S f (nI (fb_ct (bt x) t)) (nI t)) (m := 16) ?_ ?_ 16 0 200 (by omega) (by omega)
  · intro f t ht
    show lpX7_bits_4 x S (f + 1) (nI (fb_ct (bt x) t)) (nI t) = lpX7_bits_4 x S f (nI (fb_ct (bt x) (t + 1))) (nI (t + 1))
    rw [lpX7_bits_4, if_neg (show ¬ (16 : Int32) ≤ nI t from show ¬ nI 16 ≤ nI t from nI_ge ht (by omega)), has_b2 (by omega), nI_1, fb_ct_succ]
    cases bt x t
    · rw [if_neg (by decide)]
      show lpX7_bits_4 x S f (nI (fb_ct (bt x) t) + nI 0) (nI (t + 1)) = _
      rw [nI_add]
    · rw [if_pos rfl]
      show lpX7_bits_4 x S f (nI (fb_ct (bt x) t) + nI 1) (nI (t + 1)) = _
      rw [nI_add]
  · intro f
    show lpX7_bits_4 x S (f + 1) (nI (fb_ct (bt x) 16)) (nI 16) = _
    rw [lpX7_bits_4, if_pos (by decide)]
end NEAR

/-! ===== the eight changes: what each comes to, as numbers; the class's side ===== -/
/-- 0: done (with its answer); 1: no such index; 2: a bad argument; 3: denied. The state and the latest denial afterwards -/
abbrev Co : Type := Nat × Nat × As × (Int32 × Int32 × Int32)
def coPut (A : As) (d : Int32 × Int32 × Int32) (p : Int32) : Co := match ixo p 16 with
  | none => (2, 0, A, d)
  | some f => if aN A < 10 then (match stn A p with
    | none => (0, aN A, regA A f, d)
    | some k => (3, 0, A, (2, nI k, 0))) else (3, 0, A, (1, 10, 0))
def coMov (A : As) (d : Int32 × Int32 × Int32) (p q : Int32) : Co := match ixo p (aN A) with
  | none => (1, 0, A, d)
  | some s => match ixo q 16 with
    | none => (2, 0, A, d)
    | some f => match stn A q with
      | none => (0, aF A s, movA A s f, d)
      | some k => (3, 0, A, (2, nI k, 0))
def coRev (A : As) (d : Int32 × Int32 × Int32) (p : Int32) (r : Bool) : Co := match ixo p (aN A) with
  | none => (1, 0, A, d)
  | some s => if bt (aR A) s = r then (3, 0, A, (5, b2 r, 0)) else (0, fb_ct (bt (cfd (revA A s) (aD A))) 16, revA A s, d)
def coRoot (A : As) (d : Int32 × Int32 × Int32) (p q : Int32) : Co := match ixo p (aN A) with
  | none => (1, 0, A, d)
  | some s => match rng q 0 99 with
    | none => (2, 0, A, d)
    | some n => if aM A < 20 then (0, aM A, addA A 0 s n, d) else (3, 0, A, (1, 20, 0))
def coIss (A : As) (d : Int32 × Int32 × Int32) (p q r : Int32) : Co := match ixo p (aN A) with
  | none => (1, 0, A, d)
  | some i => match ixo q (aN A) with
    | none => (1, 0, A, d)
    | some s => match rng r 0 99 with
      | none => (2, 0, A, d)
      | some n => if i = s then (3, 0, A, (4, nI i, 0)) else if bt (cfd A (aD A)) i = false then (3, 0, A, (3, nI i, 0)) else if aM A < 20 then (0, aM A, addA A (i + 1) s n, d) else (3, 0, A, (1, 20, 0))
def coDrop (A : As) (d : Int32 × Int32 × Int32) (p : Int32) : Co := match ixo p (aM A) with
  | none => (1, 0, A, d)
  | some c => (0, (aC A c).2.1, remA A c, d)
def coSow (A : As) (d : Int32 × Int32 × Int32) (p q : Int32) : Co := match ixo p 16 with
  | none => (2, 0, A, d)
  | some f => match rng q 1 99 with
    | none => (2, 0, A, d)
    | some n => if aG A f + n ≤ 99 then (0, aG A f + n, sowA A f n, d) else (3, 0, A, (1, 99, 0))
def coWait (A : As) (d : Int32 × Int32 × Int32) (p : Int32) : Co := match rng p 1 60 with
  | none => (2, 0, A, d)
  | some k => (0, dysN k A, pasA k A, d)
/-- the class's outcome -/
def coI (c : Co) : Int32 := if c.1 = 0 then nI c.2.1 else if c.1 = 1 then -1 else if c.1 = 2 then -2 else -3
/-- what a change of the class touches: its state, its latest denial -/
def FrK (S T : Wo) : Prop := (∀ a, a ≠ 0 → a ≠ 1 → T.1 a = S.1 a) ∧ (∀ k, k ≠ 9 → k ≠ 10 → k ≠ 11 → T.1 0 k = S.1 0 k) ∧ (∀ a, ¬ (1 < a ∧ a ≤ 13) → T.2.1 a = S.2.1 a) ∧ T.2.2 = S.2.2
theorem FrK.rf {S : Wo} : FrK S S := ⟨fun _ _ _ => rfl, fun _ _ _ _ => rfl, fun _ _ => rfl, rfl⟩
theorem FrK.fo {S T : Wo} (h : FrO 1 S T) : FrK S T := ⟨fun a _ h1 => h.1 a h1, fun k _ _ _ => by rw [h.1 0 (by decide)], fun a ha => h.2.1 a ha, h.2.2⟩
/-- the class's core of a change: from its state and denial to those of c -/
def K6 (d : Int32 × Int32 × Int32) (S : Wo) (sp : Option (Int32 × Wo)) (c : Co) : Prop := ∃ T, sp = some (coI c, T) ∧ RS T 1 c.2.2.1 ∧ FrK S T ∧ (T.1 0 9 = c.2.2.2.1 ∧ T.1 0 10 = c.2.2.2.2.1 ∧ T.1 0 11 = c.2.2.2.2.2)
def D6 (d : Int32 × Int32 × Int32) (S : Wo) : Prop := S.1 0 9 = d.1 ∧ S.1 0 10 = d.2.1 ∧ S.1 0 11 = d.2.2
theorem D6.fo {d : Int32 × Int32 × Int32} {S T : Wo} (h : D6 d S) (hf : FrO 1 S T) : D6 d T := by
  unfold D6
  rw [hf.1 0 (by decide)]
  exact h
def denS (S : Wo) (a b : Int32) : Wo := pI (pI (pI S 0 9 a) 0 10 b) 0 11 0
theorem q_deny (a b : Int32) (S : Wo) : spX6_deny a b S = some (-3, denS S a b) := rfl
theorem denS_fr (S : Wo) (a b : Int32) : FrK S (denS S a b) := by
  refine ⟨fun c h0 h1 => ?_, fun k h1 h2 h3 => ?_, fun _ _ => rfl, rfl⟩
  · unfold denS
    rw [pI_ne h0, pI_ne h0, pI_ne h0]
  · unfold denS
    rw [pI_k h3, pI_k h2, pI_k h1]
theorem denS_D (S : Wo) (a b : Int32) : D6 (a, b, 0) (denS S a b) := by
  unfold denS
  refine ⟨?_, ?_, ?_⟩
  · rw [pI_k (by decide), pI_k (by decide), pI_at]
  · rw [pI_k (by decide), pI_at]
  · rw [pI_at]
theorem denS_rs {S : Wo} {A : As} (h : RS S 1 A) (a b : Int32) : RS (denS S a b) 1 A := h.cong (fun k => by
  unfold denS
  rw [pI_ne (by decide), pI_ne (by decide), pI_ne (by decide)]) (fun j hj => rfl)
section CORE6
variable {S : Wo} {D : Nat} {A : As} {d : Int32 × Int32 × Int32} {p q r : Int32}
theorem K6.bad {sp : Option (Int32 × Wo)} {k : Nat} (h : RS S 1 A) (hd : D6 d S) (e : sp = some (coI (k, 0, A, d), S)) : K6 d S sp (k, 0, A, d) := ⟨S, e, h, FrK.rf, hd⟩
theorem K6.den {sp : Option (Int32 × Wo)} {a b : Int32} (h : RS S 1 A) (e : sp = some (-3, denS S a b)) : K6 d S sp (3, 0, A, (a, b, 0)) := ⟨denS S a b, e, denS_rs h a b, denS_fr S a b, denS_D S a b⟩
theorem K6.ok {sp : Option (Int32 × Wo)} {v : Nat} {B : As} {T : Wo} (e : sp = some (nI v, T)) (h : RS T 1 B) (hf : FrO 1 S T) (hd : D6 d S) : K6 d S sp (0, v, B, d) := ⟨T, e, h, FrK.fo hf, hd.fo hf⟩
theorem b2s_n : b2 (none : Option Nat).isSome = 0 := rfl
theorem b2s_s (k : Nat) : ¬ b2 (some k).isSome = 0 := by show ¬ (1 : Int32) = 0; decide
theorem k6_put (h : RS S 1 A) (w : WF0 D A) (hd : D6 d S) : K6 d S (spX6_putScarecrow p S) (coPut A d p) := by
  have hn := w.1.1
  unfold spX6_putScarecrow coPut
  rw [q_fld, Option.bind_some]
  cases hx : ixo p 16 with
  | none => exact K6.bad h hd (by rw [if_pos b2s_n]; rfl)
  | some f =>
    obtain ⟨h1, h2⟩ := ixo_some hx
    rw [if_neg (b2s_s f), h.1.1]
    show K6 d S _ (if aN A < 10 then _ else _)
    by_cases e : aN A < 10
    · rw [if_pos e, if_pos (show nI (aN A) < (10 : Int32) from show nI (aN A) < nI 10 from nI_lt e (by decide)), q_at h w, Option.bind_some]
      cases hs : stn A p with
      | none =>
        rw [if_pos oI_n]
        subst h2
        obtain ⟨T, e1, r1, f1⟩ := q_addS h e f
        exact K6.ok (by rw [e1]; rfl) r1 f1 hd
      | some k =>
        have := (stn_lt hs).1
        rw [if_neg (show ¬ oI (some k) = -1 from q_m1 (by omega))]
        exact K6.den h (by rw [q_deny]; rfl)
    · rw [if_neg e, if_neg (show ¬ nI (aN A) < (10 : Int32) from show ¬ nI (aN A) < nI 10 from nI_nlt (by omega) (by omega))]
      exact K6.den h (by rw [q_deny]; rfl)
theorem k6_mov (h : RS S 1 A) (w : WF0 D A) (hd : D6 d S) : K6 d S (spX6_moveScarecrow p q S) (coMov A d p q) := by
  have hn := w.1.1
  unfold spX6_moveScarecrow coMov
  rw [q_hasS h w, Option.bind_some]
  cases hx : ixo p (aN A) with
  | none => exact K6.bad h hd (by rw [if_pos b2s_n]; rfl)
  | some s =>
    obtain ⟨h1, rfl⟩ := ixo_some hx
    rw [if_neg (b2s_s s), q_fld, Option.bind_some]
    show K6 d S _ (match ixo q 16 with | none => _ | some f => _)
    cases hy : ixo q 16 with
    | none => exact K6.bad h hd (by rw [if_pos b2s_n]; rfl)
    | some f =>
      obtain ⟨h3, h4⟩ := ixo_some hy
      rw [if_neg (b2s_s f), q_at h w, Option.bind_some]
      show K6 d S _ (match stn A q with | none => _ | some k => _)
      cases hs : stn A q with
      | none =>
        rw [if_pos oI_n]
        subst h4
        have eg : spX4_get 2 10 (nI s) S = some (nI (aF A s)) := rs_f h w h1
        obtain ⟨T, e1, r1, f1⟩ := q_movS h w h1 f
        have e1 : spX4_set 2 10 (nI s) (nI f) S = some T := e1
        exact K6.ok (by rw [eg, Option.bind_some, e1]; rfl) r1 f1 hd
      | some k =>
        have := (stn_lt hs).1
        rw [if_neg (show ¬ oI (some k) = -1 from q_m1 (by omega))]
        exact K6.den h (by rw [q_deny]; rfl)
theorem ct16_20 {A : As} {D d : Nat} (w : WF0 D A) : fb_ct (bt (cfd A d)) 20 = fb_ct (bt (cfd A d)) 16 := by
  have hn := w.1.1
  rw [show (20 : Nat) = 16 + 4 from rfl, fb_ct_split]
  have e2 : fb_ct (fun k => bt (cfd A d) (16 + k)) 4 = 0 := fb_ct_zero.mpr (fun k hk => by
    rw [Bool.eq_false_iff]
    intro q
    have := tFr_n w 10 _ (by omega) q
    omega)
  rw [e2, Nat.add_zero]
theorem k6_rev {b : Bool} (h : RS S 1 A) (w : WFA D A) (hd : D6 d S) : K6 d S (spX6_revokeOrRestore p (b2 b) S) (coRev A d p b) := by
  have hn := w.1.1.1
  unfold spX6_revokeOrRestore coRev
  rw [q_hasS h w.1, Option.bind_some]
  cases hx : ixo p (aN A) with
  | none => exact K6.bad h hd (by rw [if_pos b2s_n]; rfl)
  | some s =>
    obtain ⟨h1, rfl⟩ := ixo_some hx
    rw [if_neg (b2s_s s), h.1.2.1, q_has (by omega), Option.bind_some]
    show K6 d S _ (if bt (aR A) s = b then _ else _)
    by_cases e : bt (aR A) s = b
    · rw [if_pos e, if_pos (by rw [e])]
      cases b
      · exact K6.den h (by rw [if_pos (by decide), q_deny]; rfl)
      · exact K6.den h (by rw [if_neg (by decide), q_deny]; rfl)
    · rw [if_neg e, if_neg (fun q => e (by revert q; cases bt (aR A) s <;> cases b <;> decide)), wr_eq]
      obtain ⟨r1, f1⟩ := q_revS h s
      rw [h.1.2.1] at r1 f1
      have w1 : WFA D (revA A s) := wf_rev w
      refine K6.ok ?_ r1 f1 hd
      rw [q_cfdNow r1 w1.1, Option.bind_some, q_pop (fun i hi hb => by have := tFr_n w1.1 10 i hi hb; have : i < aN A := this; omega), Option.bind_some, ct16_20 w1.1]
      rfl
theorem q_held (q : Int32) (S : Wo) : spX6_canBeHeldFor q S = some (b2 (rng q 0 99).isSome) := by
  unfold spX6_canBeHeldFor
  rw [rng0]
  rcases neg_or q with h | ⟨j, hj, rfl⟩
  · rw [if_pos h, ixo_neg h]; rfl
  · rw [if_neg (nI_pos hj), ixo_nI hj]
    by_cases e : j < 99 + 1
    · rw [if_neg (show ¬ (99 : Int32) < nI j from show ¬ nI 99 < nI j from nI_nlt (by omega) (by omega)), if_pos e]; rfl
    · rw [if_pos (show (99 : Int32) < nI j from show nI 99 < nI j from nI_lt (by omega) hj), if_neg e]; rfl
theorem k6_root (h : RS S 1 A) (w : WF0 D A) (hd : D6 d S) : K6 d S (spX6_certifyByRegistry p q S) (coRoot A d p q) := by
  have hn := w.1.1
  have hm := w.1.2.1
  unfold spX6_certifyByRegistry coRoot
  rw [q_hasS h w, Option.bind_some]
  cases hx : ixo p (aN A) with
  | none => exact K6.bad h hd (by rw [if_pos b2s_n]; rfl)
  | some s =>
    obtain ⟨h1, rfl⟩ := ixo_some hx
    rw [if_neg (b2s_s s), q_held, Option.bind_some]
    show K6 d S _ (match rng q 0 99 with | none => _ | some n => _)
    cases hy : rng q 0 99 with
    | none => exact K6.bad h hd (by rw [if_pos b2s_n]; rfl)
    | some n =>
      obtain ⟨-, h3, rfl⟩ := rng_some hy
      rw [if_neg (b2s_s n), h.1.2.2.1]
      show K6 d S _ (if aM A < 20 then _ else _)
      by_cases e : aM A < 20
      · rw [if_pos e, if_pos (show nI (aM A) < (20 : Int32) from show nI (aM A) < nI 20 from nI_lt e (by decide))]
        obtain ⟨T, e1, r1, f1⟩ := q_addC h w e (i := 0) (d := n) h1
        have e1 : spX5_addCertificate 1 (-1) (nI s) (nI n) S = some (nI (aM A), T) := e1
        exact K6.ok (by rw [e1]; rfl) r1 f1 hd
      · rw [if_neg e, if_neg (show ¬ nI (aM A) < (20 : Int32) from show ¬ nI (aM A) < nI 20 from nI_nlt (by omega) (by omega))]
        exact K6.den h (by rw [q_deny]; rfl)
theorem k6_iss (h : RS S 1 A) (w : WF0 D A) (hd : D6 d S) : K6 d S (spX6_certifyByScarecrow p q r S) (coIss A d p q r) := by
  have hn := w.1.1
  have hm := w.1.2.1
  unfold spX6_certifyByScarecrow coIss
  rw [q_hasS h w, Option.bind_some]
  cases hx : ixo p (aN A) with
  | none => exact K6.bad h hd (by rw [if_pos b2s_n]; rfl)
  | some i =>
    obtain ⟨h1, rfl⟩ := ixo_some hx
    rw [if_neg (b2s_s i), q_hasS h w, Option.bind_some]
    show K6 d S _ (match ixo q (aN A) with | none => _ | some s => _)
    cases hz : ixo q (aN A) with
    | none => exact K6.bad h hd (by rw [if_pos b2s_n]; rfl)
    | some s =>
      obtain ⟨h2, rfl⟩ := ixo_some hz
      rw [if_neg (b2s_s s), q_held, Option.bind_some]
      show K6 d S _ (match rng r 0 99 with | none => _ | some n => _)
      cases hy : rng r 0 99 with
      | none => exact K6.bad h hd (by rw [if_pos b2s_n]; rfl)
      | some n =>
        obtain ⟨-, h3, rfl⟩ := rng_some hy
        rw [if_neg (b2s_s n)]
        show K6 d S _ (if i = s then _ else _)
        by_cases e : i = s
        · rw [if_pos e, if_pos (by rw [e])]
          exact K6.den h (by rw [q_deny]; rfl)
        · rw [if_neg e, if_neg (fun q => e ((nI_eq (by omega) (by omega)).mp q)), q_cfdNow h w, Option.bind_some, q_has (by omega), Option.bind_some]
          cases hb : bt (cfd A (aD A)) i
          · rw [if_pos b2_f, if_pos rfl]
            exact K6.den h (by rw [q_deny]; rfl)
          · rw [if_neg (show ¬ b2 true = 0 from by decide), if_neg (show ¬ true = false by decide), h.1.2.2.1]
            by_cases e : aM A < 20
            · rw [if_pos e, if_pos (show nI (aM A) < (20 : Int32) from show nI (aM A) < nI 20 from nI_lt e (by decide))]
              obtain ⟨T, e1, r1, f1⟩ := q_addC h w e (i := i + 1) (d := n) h2
              have e1 : spX5_addCertificate 1 (nI i) (nI s) (nI n) S = some (nI (aM A), T) := e1
              exact K6.ok (by rw [e1]; rfl) r1 f1 hd
            · rw [if_neg e, if_neg (show ¬ nI (aM A) < (20 : Int32) from show ¬ nI (aM A) < nI 20 from nI_nlt (by omega) (by omega))]
              exact K6.den h (by rw [q_deny]; rfl)
theorem k6_drop (h : RS S 1 A) (w : WF0 D A) (hd : D6 d S) : K6 d S (spX6_dropCertificate p S) (coDrop A d p) := by
  have hm := w.1.2.1
  unfold spX6_dropCertificate coDrop
  rw [q_hasC h w, Option.bind_some]
  cases hx : ixo p (aM A) with
  | none => exact K6.bad h hd (by rw [if_pos b2s_n]; rfl)
  | some c =>
    obtain ⟨h1, rfl⟩ := ixo_some hx
    have eg : spX4_get 6 20 (nI c) S = some (nI (aC A c).2.1) := rs_s h w h1
    obtain ⟨T, e1, r1, f1⟩ := q_remS h w h1
    rw [if_neg (b2s_s c), eg, Option.bind_some, e1]
    exact K6.ok rfl r1 f1 hd
theorem k6_sow (h : RS S 1 A) (w : WF0 D A) (hd : D6 d S) : K6 d S (spX6_putGrains p q S) (coSow A d p q) := by
  unfold spX6_putGrains coSow
  rw [q_fld, Option.bind_some]
  cases hx : ixo p 16 with
  | none => exact K6.bad h hd (by rw [if_pos b2s_n]; rfl)
  | some f =>
    obtain ⟨h1, rfl⟩ := ixo_some hx
    have eg : spX4_get 12 16 (nI f) S = some (nI (aG A f)) := rs_g h h1
    have hg := w.2.2.2 f h1
    rw [if_neg (b2s_s f), eg, Option.bind_some]
    show K6 d S _ (match rng q 1 99 with | none => _ | some n => _)
    rcases neg_or q with hq | ⟨j, hj, rfl⟩
    · have hr : rng q 1 99 = none := by unfold rng; rw [ixo_neg hq]; rfl
      rw [hr, if_pos]
      · exact K6.bad h hd rfl
      · rw [Int32.lt_iff_toInt_lt] at hq ⊢
        rw [Int32.toInt_zero] at hq
        rw [show (1 : Int32).toInt = 1 by decide]
        omega
    · by_cases e1 : j < 1
      · have hr : rng (nI j) 1 99 = none := by unfold rng; rw [ixo_nI hj, if_pos (by omega), Option.bind_some, if_neg (by omega)]
        rw [hr, if_pos (show nI j < (1 : Int32) from show nI j < nI 1 from nI_lt e1 (by decide))]
        exact K6.bad h hd rfl
      · rw [if_neg (show ¬ nI j < (1 : Int32) from show ¬ nI j < nI 1 from nI_nlt (by omega) hj)]
        by_cases e2 : j ≤ 99
        · have hr : rng (nI j) 1 99 = some j := by unfold rng; rw [ixo_nI hj, if_pos (by omega), Option.bind_some, if_pos (by omega)]
          rw [hr, if_pos (show nI j ≤ (99 : Int32) from show nI j ≤ nI 99 from nI_le e2 (by decide)), nI_add]
          show K6 d S _ (if aG A f + j ≤ 99 then _ else _)
          by_cases e3 : aG A f + j ≤ 99
          · rw [if_pos e3, if_pos (show nI (aG A f + j) ≤ (99 : Int32) from show nI (aG A f + j) ≤ nI 99 from nI_le e3 (by decide))]
            obtain ⟨T, e4, r1, f1⟩ := q_setG h (f := f) (v := aG A f + j) h1
            have e4 : spX4_set 12 16 (nI f) (nI (aG A f + j)) S = some T := e4
            obtain ⟨r2, f2⟩ := q_sownS r1 j
            rw [e4, Option.bind_some, wr_eq]
            exact K6.ok rfl r2 (f1.tr f2) hd
          · rw [if_neg e3, if_neg (show ¬ nI (aG A f + j) ≤ (99 : Int32) from show ¬ nI (aG A f + j) ≤ nI 99 from nI_ge (by omega) (by omega))]
            exact K6.den h (by rw [q_deny]; rfl)
        · have hr : rng (nI j) 1 99 = none := by unfold rng; rw [ixo_nI hj, if_neg (by omega)]; rfl
          rw [hr, if_neg (show ¬ nI j ≤ (99 : Int32) from show ¬ nI j ≤ nI 99 from nI_ge (by omega) hj)]
          exact K6.bad h hd rfl
theorem k6_wait (h : RS S 1 A) (w : WFA D A) (hD : D + 60 ≤ 1000000) (hd : D6 d S) : K6 d S (spX6_passDays p S) (coWait A d p) := by
  unfold spX6_passDays coWait
  rcases neg_or p with hq | ⟨j, hj, rfl⟩
  · have hr : rng p 1 60 = none := by unfold rng; rw [ixo_neg hq]; rfl
    rw [hr, if_pos]
    · exact K6.bad h hd rfl
    · rw [Int32.lt_iff_toInt_lt] at hq ⊢
      rw [Int32.toInt_zero] at hq
      rw [show (1 : Int32).toInt = 1 by decide]
      omega
  · by_cases e1 : j < 1
    · have hr : rng (nI j) 1 60 = none := by unfold rng; rw [ixo_nI hj, if_pos (by omega), Option.bind_some, if_neg (by omega)]
      rw [hr, if_pos (show nI j < (1 : Int32) from show nI j < nI 1 from nI_lt e1 (by decide))]
      exact K6.bad h hd rfl
    · rw [if_neg (show ¬ nI j < (1 : Int32) from show ¬ nI j < nI 1 from nI_nlt (by omega) hj)]
      by_cases e2 : j ≤ 60
      · have hr : rng (nI j) 1 60 = some j := by unfold rng; rw [ixo_nI hj, if_pos (by omega), Option.bind_some, if_pos (by omega)]
        rw [hr, if_pos (show nI j ≤ (60 : Int32) from show nI j ≤ nI 60 from nI_le e2 (by decide))]
        obtain ⟨T, e3, r1, f1⟩ := q_ldp (k := j) (by omega) h w (by omega)
        rw [e3]
        exact K6.ok rfl r1 f1 hd
      · have hr : rng (nI j) 1 60 = none := by unfold rng; rw [ixo_nI hj, if_neg (by omega)]; rfl
        rw [hr, if_neg (show ¬ nI j ≤ (60 : Int32) from show ¬ nI j ≤ nI 60 from nI_ge (by omega) hj)]
        exact K6.bad h hd rfl
end CORE6

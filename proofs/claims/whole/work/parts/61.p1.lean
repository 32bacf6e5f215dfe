/-! ===== one state of the registry as numbers; how the class's object and the reference's row hold it ===== -/
abbrev Cer : Type := Nat × Nat × Nat × Nat
abbrev As : Type := (Nat × Int32 × Nat × Nat × Int32 × Int32) × (Nat → Nat) × (Nat → Cer) × (Nat → Nat)
def aN (A : As) : Nat := A.1.1
def aR (A : As) : Int32 := A.1.2.1
def aM (A : As) : Nat := A.1.2.2.1
def aD (A : As) : Nat := A.1.2.2.2.1
def aE (A : As) : Int32 := A.1.2.2.2.2.1
def aW (A : As) : Int32 := A.1.2.2.2.2.2
def aF (A : As) : Nat → Nat := A.2.1
def aC (A : As) : Nat → Cer := A.2.2.1
def aG (A : As) : Nat → Nat := A.2.2.2
/-- an issuer: 0 the registry, j + 1 the scarecrow j -/
def cIs (x : Nat) : Int32 := if x = 0 then -1 else nI (x - 1)
theorem cIs_0 : cIs 0 = -1 := rfl
theorem cIs_p {x : Nat} (h : ¬ x = 0) : cIs x = nI (x - 1) := if_neg h
def WF0 (D : Nat) (A : As) : Prop :=
  (aN A ≤ 10 ∧ aM A ≤ 20 ∧ aD A ≤ D ∧ D ≤ 1000000) ∧ (∀ k, k < aN A → aF A k < 16) ∧
  (∀ c, c < aM A → (aC A c).1 ≤ aN A ∧ (aC A c).2.1 < aN A ∧ (aC A c).2.2.1 < 16 ∧ (aC A c).2.2.2 ≤ aD A + 99) ∧ ∀ f, f < 16 → aG A f ≤ 99
def LV (A : As) : Prop := ∀ c, c < aM A → aD A ≤ (aC A c).2.2.2
def WFA (D : Nat) (A : As) : Prop := WF0 D A ∧ LV A
def RS (S : Wo) (o : Nat) (A : As) : Prop :=
  (S.1 o 1 = nI (aN A) ∧ S.1 o 2 = aR A ∧ S.1 o 7 = nI (aM A) ∧ S.1 o 9 = nI (aD A) ∧ S.1 o 10 = aE A ∧ S.1 o 11 = aW A) ∧
  (∀ k, k < aN A → S.2.1 (o + 1 + 1) k = nI (aF A k)) ∧
  (∀ c, c < aM A → S.2.1 (o + 3 + 1) c = cIs (aC A c).1 ∧ S.2.1 (o + 5 + 1) c = nI (aC A c).2.1 ∧ S.2.1 (o + 7 + 1) c = nI (aC A c).2.2.1 ∧ S.2.1 (o + 9 + 1) c = nI (aC A c).2.2.2) ∧
  ∀ f, f < 16 → S.2.1 (o + 11 + 1) f = nI (aG A f)
def RG (g : Nat → Int32) (A : As) : Prop :=
  (g 0 = nI (aN A) ∧ g 15 = aR A ∧ g 1 = nI (aM A) ∧ g 2 = nI (aD A) ∧ g 3 = aE A ∧ g 4 = aW A) ∧
  (∀ k, k < aN A → g (5 + k) = nI (aF A k)) ∧
  (∀ c, c < aM A → g (32 + 4 * c + 0) = cIs (aC A c).1 ∧ g (32 + 4 * c + 1) = nI (aC A c).2.1 ∧ g (32 + 4 * c + 2) = nI (aC A c).2.2.1 ∧ g (32 + 4 * c + 3) = nI (aC A c).2.2.2) ∧
  ∀ f, f < 16 → g (16 + f) = nI (aG A f)
theorem RS.cong {S T : Wo} {o : Nat} {A : As} (h : RS S o A) (h1 : ∀ k, T.1 o k = S.1 o k) (h2 : ∀ j, j < 12 → T.2.1 (o + j + 1) = S.2.1 (o + j + 1)) : RS T o A := by
  obtain ⟨⟨a1, a2, a3, a4, a5, a6⟩, b, c, d⟩ := h
  refine ⟨⟨by rw [h1]; exact a1, by rw [h1]; exact a2, by rw [h1]; exact a3, by rw [h1]; exact a4, by rw [h1]; exact a5, by rw [h1]; exact a6⟩, fun k hk => by rw [h2 1 (by omega)]; exact b k hk, fun k hk => ?_, fun f hf => by rw [h2 11 (by omega)]; exact d f hf⟩
  rw [h2 3 (by omega), h2 5 (by omega), h2 7 (by omega), h2 9 (by omega)]
  exact c k hk
section RSR
variable {S : Wo} {o D : Nat} {A : As}
theorem rs_i (h : RS S o A) (w : WF0 D A) {c : Nat} (hc : c < aM A) : spX4_get (o + 3) 20 (nI c) S = some (cIs (aC A c).1) := by
  have := w.1.2.1
  rw [q_get (by omega) (by omega), (h.2.2.1 c hc).1]
theorem rs_s (h : RS S o A) (w : WF0 D A) {c : Nat} (hc : c < aM A) : spX4_get (o + 5) 20 (nI c) S = some (nI (aC A c).2.1) := by
  have := w.1.2.1
  rw [q_get (by omega) (by omega), (h.2.2.1 c hc).2.1]
theorem rs_a (h : RS S o A) (w : WF0 D A) {c : Nat} (hc : c < aM A) : spX4_get (o + 7) 20 (nI c) S = some (nI (aC A c).2.2.1) := by
  have := w.1.2.1
  rw [q_get (by omega) (by omega), (h.2.2.1 c hc).2.2.1]
theorem rs_l (h : RS S o A) (w : WF0 D A) {c : Nat} (hc : c < aM A) : spX4_get (o + 9) 20 (nI c) S = some (nI (aC A c).2.2.2) := by
  have := w.1.2.1
  rw [q_get (by omega) (by omega), (h.2.2.1 c hc).2.2.2]
theorem rs_f (h : RS S o A) (w : WF0 D A) {k : Nat} (hk : k < aN A) : spX4_get (o + 1) 10 (nI k) S = some (nI (aF A k)) := by
  have := w.1.1
  rw [q_get (by omega) (by omega), h.2.1 k hk]
theorem rs_g (h : RS S o A) {f : Nat} (hf : f < 16) : spX4_get (o + 11) 16 (nI f) S = some (nI (aG A f)) := by
  rw [q_get (by omega) (by omega), h.2.2.2 f hf]
theorem rs_m (h : RS S o A) (w : WF0 D A) {t : Nat} (ht : t < 2 ^ 31) : S.1 o 7 ≤ nI t ↔ aM A ≤ t := by
  have := w.1.2.1
  rw [h.1.2.2.1, nI_leI (by omega) ht]
theorem rs_n (h : RS S o A) (w : WF0 D A) {t : Nat} (ht : t < 2 ^ 31) : S.1 o 1 ≤ nI t ↔ aN A ≤ t := by
  have := w.1.1
  rw [h.1.1, nI_leI (by omega) ht]
end RSR
section RGR
variable {S : Wo} {D : Nat} {A : As}
theorem g_of {c j : Nat} (hc : c < 20) (hj : j < 4) (S : Wo) : spX7_of (nI c) (nI j) S = some (S.2.1 167 (32 + 4 * c + j)) := by
  have e : ((32 : Int32) + (4 * nI c)) + nI j = nI (32 + 4 * c + j) := by
    show (nI 32 + (nI 4 * nI c)) + nI j = _
    rw [q_mul, nI_add, nI_add]
  unfold spX7_of
  rw [e, if_pos (q_in (by omega) (by omega)), q_ix (by omega)]
theorem rg_i (h : RG (S.2.1 167) A) (w : WF0 D A) {c : Nat} (hc : c < aM A) : spX7_of (nI c) 0 S = some (cIs (aC A c).1) := by
  have := w.1.2.1
  refine (g_of (by omega) (j := 0) (by decide) S).trans ?_
  rw [(h.2.2.1 c hc).1]
theorem rg_s (h : RG (S.2.1 167) A) (w : WF0 D A) {c : Nat} (hc : c < aM A) : spX7_of (nI c) 1 S = some (nI (aC A c).2.1) := by
  have := w.1.2.1
  refine (g_of (by omega) (j := 1) (by decide) S).trans ?_
  rw [(h.2.2.1 c hc).2.1]
theorem rg_a (h : RG (S.2.1 167) A) (w : WF0 D A) {c : Nat} (hc : c < aM A) : spX7_of (nI c) 2 S = some (nI (aC A c).2.2.1) := by
  have := w.1.2.1
  refine (g_of (by omega) (j := 2) (by decide) S).trans ?_
  rw [(h.2.2.1 c hc).2.2.1]
theorem rg_l (h : RG (S.2.1 167) A) (w : WF0 D A) {c : Nat} (hc : c < aM A) : spX7_of (nI c) 3 S = some (nI (aC A c).2.2.2) := by
  have := w.1.2.1
  refine (g_of (by omega) (j := 3) (by decide) S).trans ?_
  rw [(h.2.2.1 c hc).2.2.2]
theorem in_0 : inb 0 112 = true := by decide
theorem in_1 : inb 1 112 = true := by decide
theorem in_2 : inb 2 112 = true := by decide
theorem in_3 : inb 3 112 = true := by decide
theorem in_4 : inb 4 112 = true := by decide
theorem in_15 : inb 15 112 = true := by decide
theorem ix_0 : ix 0 = 0 := by decide
theorem ix_1 : ix 1 = 1 := by decide
theorem ix_2 : ix 2 = 2 := by decide
theorem ix_3 : ix 3 = 3 := by decide
theorem ix_4 : ix 4 = 4 := by decide
theorem ix_15 : ix 15 = 15 := by decide
theorem in_5 {k : Nat} (hk : k < 16) : inb (5 + nI k) 112 = true := by
  have e : (5 : Int32) + nI k = nI (5 + k) := by show nI 5 + nI k = _; rw [nI_add]
  rw [e]; exact q_in (by omega) (by omega)
theorem ix_5 {k : Nat} (hk : k < 16) : ix (5 + nI k) = 5 + k := by
  have e : (5 : Int32) + nI k = nI (5 + k) := by show nI 5 + nI k = _; rw [nI_add]
  rw [e]; exact q_ix (by omega)
theorem in_16 {k : Nat} (hk : k < 16) : inb (16 + nI k) 112 = true := by
  have e : (16 : Int32) + nI k = nI (16 + k) := by show nI 16 + nI k = _; rw [nI_add]
  rw [e]; exact q_in (by omega) (by omega)
theorem ix_16 {k : Nat} (hk : k < 16) : ix (16 + nI k) = 16 + k := by
  have e : (16 : Int32) + nI k = nI (16 + k) := by show nI 16 + nI k = _; rw [nI_add]
  rw [e]; exact q_ix (by omega)
theorem rg_m (h : RG (S.2.1 167) A) (w : WF0 D A) {t : Nat} (ht : t < 2 ^ 31) : S.2.1 167 1 ≤ nI t ↔ aM A ≤ t := by
  have := w.1.2.1
  rw [h.1.2.2.1, nI_leI (by omega) ht]
theorem rg_n (h : RG (S.2.1 167) A) (w : WF0 D A) {t : Nat} (ht : t < 2 ^ 31) : S.2.1 167 0 ≤ nI t ↔ aN A ≤ t := by
  have := w.1.1
  rw [h.1.1, nI_leI (by omega) ht]
end RGR
/-! ===== sets of certificates and of scarecrows ===== -/
def hol (A : As) (d : Nat) (X : Int32) (c : Nat) : Bool := decide (d ≤ (aC A c).2.2.2) && (decide (aF A (aC A c).2.1 = (aC A c).2.2.1) && (decide ((aC A c).1 = 0) || bt X ((aC A c).1 - 1)))
def bkd (A : As) (d : Nat) (X : Int32) : Int32 := orB (hol A d X) id 0 (aM A)
def sbj (A : As) (Y : Int32) : Int32 := orB (bt Y) (fun c => (aC A c).2.1) 0 (aM A)
def tTo (A : As) (d : Nat) (X : Int32) : Int32 := sbj A (bkd A d X) &&& (aR A ^^^ (-1))
def tFr (A : As) (d : Nat) : Nat → Int32
  | 0 => 0
  | r + 1 => tTo A d (tFr A d r)
section SETS
variable {S : Wo} {o D d : Nat} {A : As} {X Y : Int32}
theorem q_backed (h : RS S o A) (w : WF0 D A) (hd : d < 2 ^ 31) : spX5_backedBy o X (nI d) S = some (bkd A d X) := by
  have hm := w.1.2.1
  have hn := w.1.1
  have hD := w.1.2.2.1
  have hD2 := w.1.2.2.2
  unfold spX5_backedBy
  refine lp_up (L := fun f t => lpX5_backedBy_5 o X (nI d) S f (orB (hol A d X) id 0 t) (nI t)) (m := aM A) ?_ ?_ (aM A) 0 200 (by omega) (by omega)
  · intro f t ht
    obtain ⟨w1, w2, w3, w4⟩ := w.2.2.1 t ht
    show lpX5_backedBy_5 o X (nI d) S (f + 1) (orB (hol A d X) id 0 t) (nI t) = lpX5_backedBy_5 o X (nI d) S f (orB (hol A d X) id 0 (t + 1)) (nI (t + 1))
    rw [lpX5_backedBy_5, if_neg (fun e => absurd ((rs_m h w (by omega)).mp e) (by omega)), rs_i h w ht, Option.bind_some, rs_s h w ht, rs_a h w ht, rs_l h w ht, nI_1]
    simp only [jn, Option.bind_some, rs_f h w w2]
    have hk : (if cIs (aC A t).1 = -1 then (1 : Int32) else b2 (bt X ((aC A t).1 - 1))) = b2 (decide ((aC A t).1 = 0) || bt X ((aC A t).1 - 1)) := by
      by_cases e : (aC A t).1 = 0
      · rw [e, cIs_0, if_pos rfl]; rfl
      · rw [cIs_p e, if_neg (q_m1 (by omega)), decide_eq_false e, Bool.false_or]
    have ho : orB (hol A d X) id 0 (t + 1) = if hol A d X t = true then orB (hol A d X) id 0 t ||| (1 <<< (nI t &&& 31)) else orB (hol A d X) id 0 t := rfl
    rw [ho]
    unfold hol
    by_cases e : (aC A t).1 = 0
    · rw [e, cIs_0, if_pos rfl, if_neg (by decide : ¬ (1 : Int32) = 0)]
      by_cases e2 : aF A (aC A t).2.1 = (aC A t).2.2.1
      · rw [if_pos (by rw [e2]), if_neg (by decide : ¬ (1 : Int32) = 0)]
        by_cases e3 : d ≤ (aC A t).2.2.2
        · rw [if_neg (nI_nlt e3 (by omega))]
          simp [e2, e3]
        · rw [if_pos (nI_lt (by omega) hd)]
          simp [e3]
      · rw [if_neg (fun q => e2 ((nI_eq (by have := w.2.1 _ w2; omega) (by omega)).mp q))]
        simp [e2]
    · rw [cIs_p e, if_neg (q_m1 (by omega)), q_has (by omega), Option.bind_some]
      cases hb : bt X ((aC A t).1 - 1)
      · rw [if_pos (show b2 false = 0 from rfl)]
        simp [e]
      · rw [if_neg (show ¬ b2 true = 0 from by decide), if_neg (by decide : ¬ (1 : Int32) = 0)]
        by_cases e2 : aF A (aC A t).2.1 = (aC A t).2.2.1
        · rw [if_pos (by rw [e2]), if_neg (by decide : ¬ (1 : Int32) = 0)]
          by_cases e3 : d ≤ (aC A t).2.2.2
          · rw [if_neg (nI_nlt e3 (by omega))]
            simp [e2, e3]
          · rw [if_pos (nI_lt (by omega) hd)]
            simp [e3]
        · rw [if_neg (fun q => e2 ((nI_eq (by have := w.2.1 _ w2; omega) (by omega)).mp q))]
          simp [e2]
  · intro f
    show lpX5_backedBy_5 o X (nI d) S (f + 1) (orB (hol A d X) id 0 (aM A)) (nI (aM A)) = _
    rw [lpX5_backedBy_5, if_pos ((rs_m h w (by omega)).mpr (Nat.le_refl _))]
    rfl
theorem q_subj (h : RS S o A) (w : WF0 D A) : spX5_subjectsOf o Y S = some (sbj A Y) := by
  have hm := w.1.2.1
  have hn := w.1.1
  unfold spX5_subjectsOf
  refine lp_up (L := fun f t => lpX5_subjectsOf_4 o Y S f (orB (bt Y) (fun c => (aC A c).2.1) 0 t) (nI t)) (m := aM A) ?_ ?_ (aM A) 0 200 (by omega) (by omega)
  · intro f t ht
    show lpX5_subjectsOf_4 o Y S (f + 1) (orB (bt Y) (fun c => (aC A c).2.1) 0 t) (nI t) = lpX5_subjectsOf_4 o Y S f (orB (bt Y) (fun c => (aC A c).2.1) 0 (t + 1)) (nI (t + 1))
    rw [lpX5_subjectsOf_4, if_neg (fun e => absurd ((rs_m h w (by omega)).mp e) (by omega)), q_has (by omega), Option.bind_some, rs_s h w ht, nI_1, orB]
    cases hb : bt Y t
    · rw [if_pos (show b2 false = 0 from rfl), if_neg (by decide)]
    · rw [if_neg (show ¬ b2 true = 0 from by decide), if_pos rfl, Option.bind_some]
      rfl
  · intro f
    show lpX5_subjectsOf_4 o Y S (f + 1) (orB (bt Y) (fun c => (aC A c).2.1) 0 (aM A)) (nI (aM A)) = _
    rw [lpX5_subjectsOf_4, if_pos ((rs_m h w (by omega)).mpr (Nat.le_refl _))]
    rfl
theorem bkd_bt (w : WF0 D A) {i : Nat} (hi : i < 32) : bt (bkd A d X) i = true ↔ i < aM A ∧ hol A d X i = true := by
  have hm := w.1.2.1
  unfold bkd
  rw [orB_bt hi (fun c hc _ => by show c < 32; omega), b_0]
  constructor
  · rintro (h | ⟨c, h1, h2, h3⟩)
    · cases h
    · have h3 : c = i := h3
      subst h3; exact ⟨h1, h2⟩
  · rintro ⟨h1, h2⟩
    exact Or.inr ⟨i, h1, h2, rfl⟩
theorem tTo_bt (w : WF0 D A) {i : Nat} (hi : i < 32) : bt (tTo A d X) i = true ↔ bt (aR A) i = false ∧ ∃ c, c < aM A ∧ hol A d X c = true ∧ (aC A c).2.1 = i := by
  have hm := w.1.2.1
  have hn := w.1.1
  unfold tTo sbj
  rw [b_and, Bool.and_eq_true, bt_not hi, orB_bt hi (fun c hc _ => by have := (w.2.2.1 c hc).2.1; omega), b_0]
  constructor
  · rintro ⟨h | ⟨c, h1, h2, h3⟩, h4⟩
    · cases h
    · exact ⟨by simpa using h4, c, h1, ((bkd_bt w (by omega)).mp h2).2, h3⟩
  · rintro ⟨h4, c, h1, h2, h3⟩
    exact ⟨Or.inr ⟨c, h1, (bkd_bt w (by omega)).mpr ⟨h1, h2⟩, h3⟩, by simp [h4]⟩
/-- one set lies in another -/
def sub32 (X Y : Int32) : Prop := ∀ i, i < 32 → bt X i = true → bt Y i = true
theorem hol_mono {c : Nat} (hs : sub32 X Y) (w : WF0 D A) (hc : c < aM A) (h : hol A d X c = true) : hol A d Y c = true := by
  have hn := w.1.1
  have w1 := (w.2.2.1 c hc).1
  unfold hol at h ⊢
  simp only [Bool.and_eq_true, Bool.or_eq_true, decide_eq_true_eq] at h ⊢
  exact ⟨h.1, h.2.1, h.2.2.elim Or.inl (fun q => Or.inr (hs _ (by omega) q))⟩
theorem tTo_mono (hs : sub32 X Y) (w : WF0 D A) : sub32 (tTo A d X) (tTo A d Y) := by
  intro i hi h
  obtain ⟨h1, c, h2, h3, h4⟩ := (tTo_bt w hi).mp h
  exact (tTo_bt w hi).mpr ⟨h1, c, h2, hol_mono hs w h2 h3, h4⟩
theorem tFr_up (w : WF0 D A) : ∀ r, sub32 (tFr A d r) (tFr A d (r + 1))
  | 0 => fun i hi h => by rw [tFr, b_0] at h; cases h
  | r + 1 => tTo_mono (tFr_up w r) w
theorem tFr_le (w : WF0 D A) {r : Nat} : ∀ k, sub32 (tFr A d r) (tFr A d (r + k))
  | 0 => fun i hi h => h
  | k + 1 => fun i hi h => tFr_up w (r + k) i hi (tFr_le w k i hi h)
theorem tFr_n (w : WF0 D A) : ∀ r i, i < 32 → bt (tFr A d r) i = true → i < aN A
  | 0, i, hi, h => by rw [tFr, b_0] at h; cases h
  | r + 1, i, hi, h => by
    obtain ⟨h1, c, h2, h3, h4⟩ := (tTo_bt w hi).mp h
    have := (w.2.2.1 c h2).2.1
    omega
theorem tFr_rv (w : WF0 D A) : ∀ r i, i < 32 → bt (tFr A d r) i = true → bt (aR A) i = false
  | 0, i, hi, h => by rw [tFr, b_0] at h; cases h
  | r + 1, i, hi, h => ((tTo_bt w hi).mp h).1
theorem tFr_stay {r : Nat} (h : tFr A d r = tFr A d (r + 1)) : ∀ k, tFr A d (r + k) = tFr A d r
  | 0 => rfl
  | k + 1 => by
    have e := tFr_stay h k
    show tTo A d (tFr A d (r + k)) = _
    rw [e]
    exact h.symm
theorem sub_ct (hs : sub32 X Y) (hne : X ≠ Y) (hY : ∀ i, i < 32 → bt Y i = true → i < 10) : fb_ct (bt X) 10 < fb_ct (bt Y) 10 := by
  have hle : fb_ct (bt X) 10 ≤ fb_ct (bt Y) 10 := fb_ct_sub (fun k hk h => hs k (by omega) h)
  rcases Nat.lt_or_ge (fb_ct (bt X) 10) (fb_ct (bt Y) 10) with h | h
  · exact h
  · exfalso
    apply hne
    have h2 : fb_ct (fun k => bt Y k && !bt X k) 10 = 0 := by
      have e : fb_ct (fun k => bt X k || (bt Y k && !bt X k)) 10 = fb_ct (bt X) 10 + fb_ct (fun k => bt Y k && !bt X k) 10 := fb_ct_or (fun k hk q => by
        have := q.1
        have q2 := q.2
        simp [this] at q2)
      have e2 : fb_ct (fun k => bt X k || (bt Y k && !bt X k)) 10 = fb_ct (bt Y) 10 := fb_ct_cong (fun k hk => by
        cases hx : bt X k
        · simp
        · simp [hs k (by omega) hx])
      omega
    have h3 := fb_ct_zero.mp h2
    apply b_ext
    intro i hi
    cases hx : bt X i
    · cases hy : bt Y i
      · rfl
      · have := h3 i (hY i hi hy)
        simp [hx, hy] at this
    · rw [hs i hi hx]
theorem tFr_grow (w : WF0 D A) : ∀ r, (∀ q, q < r → tFr A d q ≠ tFr A d (q + 1)) → r ≤ fb_ct (bt (tFr A d r)) 10
  | 0, _ => Nat.zero_le _
  | r + 1, h => by
    have ih := tFr_grow w r (fun q hq => h q (by omega))
    have hn := w.1.1
    have := sub_ct (tFr_up w r) (h r (by omega)) (fun i hi hb => by have := tFr_n w (r + 1) i hi hb; omega)
    omega
theorem tFr_fix (w : WF0 D A) : ∃ r, r ≤ 10 ∧ tFr A d r = tFr A d (r + 1) := by
  by_cases h : ∃ r, r < 11 ∧ tFr A d r = tFr A d (r + 1)
  · obtain ⟨r, h1, h2⟩ := h
    exact ⟨r, by omega, h2⟩
  · exfalso
    have := tFr_grow (d := d) w 11 (fun q hq e => h ⟨q, hq, e⟩)
    have := fb_ct_le (bt (tFr A d 11)) 10
    omega
theorem tFr_10 (w : WF0 D A) (k : Nat) : tFr A d (10 + k) = tFr A d 10 := by
  obtain ⟨r, h1, h2⟩ := tFr_fix (d := d) w
  have e1 := tFr_stay h2 (10 - r)
  have e2 := tFr_stay h2 (10 - r + k)
  rw [show r + (10 - r) = 10 by omega] at e1
  rw [show r + (10 - r + k) = 10 + k by omega] at e2
  rw [e1, e2]
/-- the certified scarecrows on a day -/
def cfd (A : As) (d : Nat) : Int32 := tFr A d 10
theorem cfd_T (w : WF0 D A) : tTo A d (cfd A d) = cfd A d := tFr_10 w 1
theorem q_cfdW (h : RS S o A) (w : WF0 D A) (hd : d < 2 ^ 31) {L : Nat} (hL : L ≤ 150) : spX5_certifiedWithin o (nI L) (nI d) S = some (tFr A d L) := by
  unfold spX5_certifiedWithin
  have key : ∀ k r f, r + k = L → k < f → lpX5_certifiedWithin_8 o (nI L) (nI d) S f (tFr A d r) (if r = 0 then -1 else tFr A d (r - 1)) (nI r) = some (tFr A d L) := by
    intro k
    induction k with
    | zero =>
      intro r f h1 h2
      obtain ⟨g, rfl⟩ : ∃ g, f = g + 1 := ⟨f - 1, by omega⟩
      rw [lpX5_certifiedWithin_8, if_pos (nI_le (by omega) (by omega))]
      rw [show r = L by omega]
    | succ k ih =>
      intro r f h1 h2
      obtain ⟨g, rfl⟩ : ∃ g, f = g + 1 := ⟨f - 1, by omega⟩
      rw [lpX5_certifiedWithin_8, if_neg (nI_ge (by omega) (by omega))]
      by_cases e : tFr A d r = (if r = 0 then -1 else tFr A d (r - 1))
      · rw [if_pos e]
        by_cases h0 : r = 0
        · subst h0
          rw [if_pos rfl] at e
          exact absurd e (by show ¬ (0 : Int32) = -1; decide)
        · rw [if_neg h0] at e
          have e3 : tFr A d (r - 1) = tFr A d (r - 1 + 1) := by rw [show r - 1 + 1 = r by omega]; exact e.symm
          have e4 := tFr_stay e3 (L - (r - 1))
          rw [show r - 1 + (L - (r - 1)) = L by omega] at e4
          rw [e4, e]
      · rw [if_neg e, q_backed h w hd, Option.bind_some, q_subj h w, Option.bind_some, nI_1, h.1.2.1]
        have := ih (r + 1) g (by omega) (by omega)
        rw [if_neg (by omega : ¬ r + 1 = 0), show r + 1 - 1 = r by omega] at this
        exact this
  exact key L 0 200 (by omega) (by omega)
theorem q_cfd (h : RS S o A) (w : WF0 D A) (hd : d < 2 ^ 31) : spX5_certifiedWithin o 10 (nI d) S = some (cfd A d) := q_cfdW h w hd (L := 10) (by decide)
theorem q_cfdNow (h : RS S o A) (w : WF0 D A) : spX5_certifiedNow o S = some (cfd A (aD A)) := by
  have h1 := w.1.2.2.1
  have h2 := w.1.2.2.2
  unfold spX5_certifiedNow
  rw [h.1.2.2.2.1, q_cfd h w (by omega)]
  rfl
theorem q_ifn (h : RS S o A) (w : WF0 D A) : spX5_inForceNow o S = some (bkd A (aD A) (cfd A (aD A))) := by
  have h1 := w.1.2.2.1
  have h2 := w.1.2.2.2
  unfold spX5_inForceNow
  rw [q_cfdNow h w, Option.bind_some, h.1.2.2.2.1, q_backed h w (by omega)]
  rfl
end SETS

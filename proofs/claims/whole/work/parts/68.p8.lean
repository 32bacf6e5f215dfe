/-! ===== the whole of a run's state as numbers; both objects hold it ===== -/
abbrev AX : Type := As × (Nat × (Nat → As)) × Option As × (Nat × (Nat → Int32)) × (Nat × (Nat → Int32)) × (Int32 × Int32 × Int32) × Int32
def xA (x : AX) : As := x.1
def xK (x : AX) : Nat := x.2.1.1
def xH (x : AX) : Nat → As := x.2.1.2
def xP (x : AX) : Option As := x.2.2.1
def xT (x : AX) : Nat := x.2.2.2.1.1
def xC (x : AX) : Nat → Int32 := x.2.2.2.1.2
def xL (x : AX) : Nat := x.2.2.2.2.1.1
def xW (x : AX) : Nat → Int32 := x.2.2.2.2.1.2
def xD (x : AX) : Int32 × Int32 × Int32 := x.2.2.2.2.2.1
def xF (x : AX) : Int32 := x.2.2.2.2.2.2
/-- where the class's kept states lie -/
def hsl (old a : Nat) : Nat := 55 + 13 * ((old + a) % 8)
def C6 (x : AX) (S : Wo) : Prop :=
  RS S 1 (xA x) ∧
  (∃ old, old < 8 ∧ S.1 53 1 = nI old ∧ S.1 53 2 = nI (xK x) ∧ ∀ a, a < xK x → RS S (hsl old a) (xH x a)) ∧
  (S.1 0 4 = b2 (xP x).isSome ∧ ∀ B, xP x = some B → RS S 40 B) ∧
  (S.1 159 1 = nI (xT x) ∧ ∀ i, i < xT x → S.2.1 161 i = xC x i) ∧
  (S.1 164 1 = 0 ∧ S.1 164 3 = nI (xL x) ∧ (S.2.2.1.2.2 = 16 ∨ S.2.2.1.2.2 = 34) ∧ xL x ≤ S.2.2.1.2.2 ∧ (∀ i, i < xL x → S.2.1 165 i = xW x i) ∧ ∀ i, i < S.2.2.1.2.2 → ∃ b, b < 128 ∧ S.2.1 165 i = nI b) ∧
  (S.1 0 8 = xF x ∧ S.1 0 9 = (xD x).1 ∧ S.1 0 10 = (xD x).2.1 ∧ S.1 0 11 = (xD x).2.2)
def C7w (wi : Bool) (x : AX) (S : Wo) : Prop :=
  RG (S.2.1 167) (xA x) ∧
  (S.1 166 7 = b2 wi ∧ S.1 166 6 = nI (xK x) ∧ ∀ a, a < xK x → RG (fun i => S.2.1 168 (112 * a + i)) (xH x a)) ∧
  (S.1 166 5 = b2 (xP x).isSome ∧ ∀ B, xP x = some B → RG (S.2.1 169) B) ∧
  (S.1 166 14 = nI (xT x) ∧ ∀ i, i < xT x → S.2.1 172 i = xC x i) ∧
  (S.1 166 17 = nI (xL x) ∧ ∀ i, i < xL x → S.2.1 173 i = xW x i) ∧
  (S.1 166 15 = xF x ∧ S.1 166 10 = (xD x).1 ∧ S.1 166 11 = (xD x).2.1 ∧ S.1 166 12 = (xD x).2.2)
abbrev C7 (x : AX) (S : Wo) : Prop := C7w false x S
def WX (D : Nat) (x : AX) : Prop :=
  WFA D (xA x) ∧ (xK x ≤ 8 ∧ ∀ a, a < xK x → WFA D (xH x a)) ∧ (∀ B, xP x = some B → WFA D B) ∧ xT x ≤ 60 ∧ (xL x ≤ 19 ∧ ∀ i, i < xL x → ∃ b, b < 128 ∧ xW x i = nI b) ∧ (xF x = -1 ∨ ∃ k, k ≤ 60 ∧ xF x = nI k)
def Fr6 (S T : Wo) : Prop := (∀ a, 166 ≤ a → T.1 a = S.1 a) ∧ (∀ a, 166 ≤ a → T.2.1 a = S.2.1 a)
def Fr7 (S T : Wo) : Prop := (∀ a, a < 166 → T.1 a = S.1 a) ∧ (∀ a, a < 166 → T.2.1 a = S.2.1 a) ∧ T.2.2.1 = S.2.2.1 ∧ T.2.2.2.1 = S.2.2.2.1
theorem Fr6.rf {S : Wo} : Fr6 S S := ⟨fun _ _ => rfl, fun _ _ => rfl⟩
theorem Fr7.rf {S : Wo} : Fr7 S S := ⟨fun _ _ => rfl, fun _ _ => rfl, rfl, rfl⟩
theorem Fr6.tr {S T U : Wo} (h1 : Fr6 S T) (h2 : Fr6 T U) : Fr6 S U := ⟨fun a h => (h2.1 a h).trans (h1.1 a h), fun a h => (h2.2 a h).trans (h1.2 a h)⟩
theorem Fr7.tr {S T U : Wo} (h1 : Fr7 S T) (h2 : Fr7 T U) : Fr7 S U := ⟨fun a h => (h2.1 a h).trans (h1.1 a h), fun a h => (h2.2.1 a h).trans (h1.2.1 a h), h2.2.2.1.trans h1.2.2.1, h2.2.2.2.trans h1.2.2.2⟩
theorem Fr6.pI {S T : Wo} {o k : Nat} {v : Int32} (h : Fr6 S T) (ho : o < 166) : Fr6 S (pI T o k v) := h.tr ⟨fun a h => pI_ne (by omega), fun _ _ => rfl⟩
theorem Fr6.pF {S T : Wo} {o : Nat} {f : Nat → Int32} (h : Fr6 S T) (ho : o < 166) : Fr6 S (pF T o f) := h.tr ⟨fun _ _ => rfl, fun a h => pF_ne (by omega)⟩
theorem Fr6.pL {S T : Wo} {v : Int64} (h : Fr6 S T) : Fr6 S (pL T v) := h.tr ⟨fun _ _ => rfl, fun _ _ => rfl⟩
theorem Fr6.pD {S T : Wo} {v : UInt64} (h : Fr6 S T) : Fr6 S (pD T v) := h.tr ⟨fun _ _ => rfl, fun _ _ => rfl⟩
theorem Fr6.pK {S T : Wo} {k : Nat} (h : Fr6 S T) : Fr6 S (pK T k) := h.tr ⟨fun _ _ => rfl, fun _ _ => rfl⟩
theorem Fr6.fo {S T : Wo} {o : Nat} (h : FrO o S T) (ho : o + 12 < 166) : Fr6 S T := ⟨fun a q => h.1 a (by omega), fun a q => h.2.1 a (by omega)⟩
theorem Fr7.pI {S T : Wo} {o k : Nat} {v : Int32} (h : Fr7 S T) (ho : 166 ≤ o) : Fr7 S (pI T o k v) := h.tr ⟨fun a h => pI_ne (by omega), fun _ _ => rfl, rfl, rfl⟩
theorem Fr7.pF {S T : Wo} {o : Nat} {f : Nat → Int32} (h : Fr7 S T) (ho : 166 ≤ o) : Fr7 S (pF T o f) := h.tr ⟨fun _ _ => rfl, fun a h => pF_ne (by omega), rfl, rfl⟩
theorem C7w.fr {wi : Bool} {x : AX} {S T : Wo} (h : C7w wi x S) (hf : Fr6 S T) : C7w wi x T := by
  obtain ⟨f1, f2⟩ := hf
  unfold C7w at h ⊢
  rw [f1 166 (by decide), f2 167 (by decide), f2 168 (by decide), f2 169 (by decide), f2 172 (by decide), f2 173 (by decide)]
  exact h
theorem C6.fr {x : AX} {S T : Wo} (h : C6 x S) (hf : Fr7 S T) : C6 x T := by
  obtain ⟨f1, f2, f3, f4⟩ := hf
  obtain ⟨h1, ⟨old, ho, h2, h3, h4⟩, ⟨h5, h6⟩, ⟨h7, h8⟩, h9, h10⟩ := h
  have rs : ∀ o B, o + 12 < 166 → RS S o B → RS T o B := fun o B ho h => h.cong (fun k => by rw [f1 o (by omega)]) (fun j hj => f2 _ (by omega))
  refine ⟨rs 1 _ (by decide) h1, ⟨old, ho, by rw [f1 53 (by decide)]; exact h2, by rw [f1 53 (by decide)]; exact h3, fun a ha => rs _ _ (by unfold hsl; omega) (h4 a ha)⟩, ⟨by rw [f1 0 (by decide)]; exact h5, fun B hB => rs 40 B (by decide) (h6 B hB)⟩, ⟨by rw [f1 159 (by decide)]; exact h7, by rw [f2 161 (by decide)]; exact h8⟩, ?_, by rw [f1 0 (by decide)]; exact h10⟩
  rw [f1 164 (by decide), f2 165 (by decide), f3]
  exact h9
def Inv (D : Nat) (x : AX) (S : Wo) : Prop := WX D x ∧ C6 x S ∧ C7 x S
theorem Inv.pL {D : Nat} {x : AX} {S : Wo} (h : Inv D x S) (v : Int64) : Inv D x (pL S v) := h
theorem Inv.pD {D : Nat} {x : AX} {S : Wo} (h : Inv D x S) (v : UInt64) : Inv D x (pD S v) := h
/-- the reference's fields that say how a call ended -/
theorem C7w.end_ {wi : Bool} {x : AX} {S : Wo} {k : Nat} {v : Int32} (h : C7w wi x S) (hk : k = 8 ∨ k = 9 ∨ k = 18 ∨ k = 20) : C7w wi x (pI S 166 k v) := by
  obtain ⟨h1, ⟨h2, h3, h4⟩, ⟨h5, h6⟩, ⟨h7, h8⟩, ⟨h9, h10⟩, h11, h12, h13, h14⟩ := h
  refine ⟨h1, ⟨?_, ?_, h4⟩, ⟨?_, h6⟩, ⟨?_, h8⟩, ⟨?_, h10⟩, ?_, ?_, ?_, ?_⟩ <;> (rw [pI_k (by omega)]; assumption)
def flS (S : Wo) (p : Int32) : Wo := pI (pI S 166 9 p) 166 8 0
theorem flS_9 (S : Wo) (p : Int32) : (flS S p).1 166 9 = p := by
  unfold flS
  rw [pI_k (by decide), pI_at]
theorem flS_fr (S : Wo) (p : Int32) : Fr7 S (flS S p) := (Fr7.rf.pI (by decide)).pI (by decide)
theorem C7w.fl {wi : Bool} {x : AX} {S : Wo} (h : C7w wi x S) (p : Int32) : C7w wi x (flS S p) := (h.end_ (Or.inr (Or.inl rfl))).end_ (Or.inl rfl)
theorem flS_2 (S : Wo) (p : Int32) : (flS S p).2 = S.2 := rfl
theorem q_fails0 (S : Wo) : spX7_fails 0 S = some (0, flS S 0) := by
  unfold spX7_fails
  rw [wr_eq, wr_eq, if_pos (by decide)]
  rfl
theorem q_fails {k : Nat} (h : 0 < k) (hk : k < 2 ^ 31) (S : Wo) : spX7_fails (nI k) S = some (1, flS S (nI k)) := by
  unfold spX7_fails
  rw [wr_eq, wr_eq, if_neg (nI_nle h hk)]
  rfl
theorem q_fails1 (S : Wo) : spX7_fails 1 S = some (1, flS S (nI 1)) := q_fails (k := 1) (by decide) (by decide) S
theorem q_fails2 (S : Wo) : spX7_fails 2 S = some (1, flS S (nI 2)) := q_fails (k := 2) (by decide) (by decide) S
/-! an index in its range -/
def ixo (p : Int32) (n : Nat) : Option Nat := if 0 ≤ p ∧ ix p < n then some (ix p) else none
theorem ixo_some {p : Int32} {n k : Nat} (h : ixo p n = some k) : k < n ∧ p = nI k := by
  unfold ixo at h
  by_cases e : 0 ≤ p ∧ ix p < n
  · rw [if_pos e] at h
    cases h
    exact ⟨e.2, (Int32.ofNat_toNatClampNeg p e.1).symm⟩
  · rw [if_neg e] at h; cases h
theorem neg_or (p : Int32) : p < 0 ∨ ∃ j : Nat, j < 2 ^ 31 ∧ p = nI j := by
  by_cases h : p < 0
  · exact Or.inl h
  · exact Or.inr (nI_of h)
theorem ixo_neg {p : Int32} {n : Nat} (h : p < 0) : ixo p n = none := by
  unfold ixo
  rw [if_neg]
  rintro ⟨q, -⟩
  rw [Int32.le_iff_toInt_le] at q
  rw [Int32.lt_iff_toInt_lt] at h
  omega
theorem ixo_nI {j n : Nat} (hj : j < 2 ^ 31) : ixo (nI j) n = if j < n then some j else none := by
  unfold ixo
  rw [q_ix hj]
  by_cases e : j < n
  · rw [if_pos e, if_pos ⟨nI_pos' hj, e⟩]
  · rw [if_neg e, if_neg (fun q => e q.2)]
/-- between two bounds -/
def rng (p : Int32) (lo hi : Nat) : Option Nat := (ixo p (hi + 1)).bind (fun k => if lo ≤ k then some k else none)
theorem rng_some {p : Int32} {lo hi k : Nat} (h : rng p lo hi = some k) : lo ≤ k ∧ k ≤ hi ∧ p = nI k := by
  unfold rng at h
  cases hx : ixo p (hi + 1) with
  | none => rw [hx] at h; cases h
  | some j =>
    rw [hx, Option.bind_some] at h
    obtain ⟨h1, h2⟩ := ixo_some hx
    by_cases e : lo ≤ j
    · rw [if_pos e] at h; cases h; exact ⟨e, by omega, h2⟩
    · rw [if_neg e] at h; cases h
theorem q_in7 (p : Int32) {lo hi : Nat} (h1 : lo < 2 ^ 31) (h2 : hi < 2 ^ 31) (S : Wo) : spX7_in p (nI lo) (nI hi) S = some (b2 (rng p lo hi).isSome) := by
  unfold spX7_in rng
  rcases neg_or p with h | ⟨j, hj, rfl⟩
  · rw [if_pos, ixo_neg h]
    · rfl
    · rw [Int32.lt_iff_toInt_lt, nI_toInt h1]
      rw [Int32.lt_iff_toInt_lt, Int32.toInt_zero] at h
      omega
  · rw [ixo_nI hj]
    by_cases e1 : j < lo
    · rw [if_pos (nI_lt e1 h1)]
      by_cases e2 : j < hi + 1
      · rw [if_pos e2, Option.bind_some, if_neg (by omega)]; rfl
      · rw [if_neg e2]; rfl
    · rw [if_neg (nI_nlt (by omega) hj)]
      by_cases e2 : j < hi + 1
      · rw [if_neg (nI_nlt (by omega) h2), if_pos e2, Option.bind_some, if_pos (by omega)]; rfl
      · rw [if_pos (nI_lt (by omega) hj), if_neg e2]; rfl
theorem rng0 (p : Int32) (hi : Nat) : rng p 0 hi = ixo p (hi + 1) := by
  unfold rng
  cases ixo p (hi + 1) with
  | none => rfl
  | some j => rw [Option.bind_some, if_pos (Nat.zero_le _)]
theorem q_inN (p : Int32) {n : Nat} (hn : n < 2 ^ 31) (S : Wo) : spX7_in p 0 (cIs n) S = some (b2 (ixo p n).isSome) := by
  cases n with
  | zero =>
    unfold spX7_in
    rw [cIs_0]
    rcases neg_or p with h | ⟨j, hj, rfl⟩
    · rw [if_pos h, ixo_neg h]; rfl
    · rw [if_neg (nI_pos hj), if_pos, ixo_nI hj, if_neg (by omega)]
      · rfl
      · rw [Int32.lt_iff_toInt_lt, nI_toInt hj, show (-1 : Int32).toInt = -1 by decide]
        omega
  | succ m =>
    have := q_in7 p (lo := 0) (hi := m) (by decide) (by omega) S
    rw [rng0] at this
    exact this
theorem q_ge {p : Int32} {n : Nat} (hn : n < 2 ^ 31) : (if p < 0 then rz 0 some else (if nI n ≤ p then rz 0 some else rz 1 some)) = some (b2 (ixo p n).isSome) := by
  rcases neg_or p with h | ⟨j, hj, rfl⟩
  · rw [if_pos h, ixo_neg h]; rfl
  · rw [if_neg (nI_pos hj), ixo_nI hj]
    by_cases e : j < n
    · rw [if_neg (nI_ge e hn), if_pos e]; rfl
    · rw [if_pos (nI_le (by omega) hj), if_neg e]; rfl
section REQ
variable {S : Wo} {D : Nat} {A : As} {p : Int32}
theorem q_fld (p : Int32) (S : Wo) : spX6_isField p S = some (b2 (ixo p 16).isSome) := q_ge (n := 16) (by decide)
theorem q_fld7 (p : Int32) (S : Wo) : spX7_isField p S = some (b2 (ixo p 16).isSome) := by
  unfold spX7_isField
  have := q_in7 p (lo := 0) (hi := 15) (by decide) (by decide) S
  rw [rng0] at this
  show (spX7_in p (nI 0) (nI 15) S).bind (fun x1 => rz x1 some) = _
  rw [this, Option.bind_some, rz_b2]
theorem q_hasS {o : Nat} (h : RS S o A) (w : WF0 D A) : spX5_hasScarecrow o p S = some (b2 (ixo p (aN A)).isSome) := by
  unfold spX5_hasScarecrow
  rw [h.1.1]
  exact q_ge (by have := w.1.1; omega)
theorem q_hasC {o : Nat} (h : RS S o A) (w : WF0 D A) : spX5_hasCertificate o p S = some (b2 (ixo p (aM A)).isSome) := by
  unfold spX5_hasCertificate
  rw [h.1.2.2.1]
  exact q_ge (by have := w.1.2.1; omega)
theorem q_isC (h : RG (S.2.1 167) A) (w : WF0 D A) : spX7_isCrow p S = some (b2 (ixo p (aN A)).isSome) := by
  unfold spX7_isCrow
  rw [if_pos in_0, ix_0, h.1.1, nI_dec', q_inN p (by have := w.1.1; omega), Option.bind_some, rz_b2]
theorem q_isT (h : RG (S.2.1 167) A) (w : WF0 D A) : spX7_isCert p S = some (b2 (ixo p (aM A)).isSome) := by
  unfold spX7_isCert
  rw [if_pos in_1, ix_1, h.1.2.2.1, nI_dec', q_inN p (by have := w.1.2.1; omega), Option.bind_some, rz_b2]
theorem q_reqS (h : RS S 1 A) (w : WF0 D A) : spX6_requireScarecrow p S = some ((if (ixo p (aN A)).isSome = true then 0 else 2), 0, S) := by
  unfold spX6_requireScarecrow
  rw [q_hasS h w, Option.bind_some]
  cases ixo p (aN A) <;> rfl
theorem q_reqC (h : RS S 1 A) (w : WF0 D A) : spX6_requireCertificate p S = some ((if (ixo p (aM A)).isSome = true then 0 else 2), 0, S) := by
  unfold spX6_requireCertificate
  rw [q_hasC h w, Option.bind_some]
  cases ixo p (aM A) <;> rfl
theorem q_reqF : spX6_requireField p S = some ((if (ixo p 16).isSome = true then 0 else 1), 0, S) := by
  unfold spX6_requireField
  rw [q_fld, Option.bind_some]
  cases ixo p 16 <;> rfl
theorem q_none7 (h : RG (S.2.1 167) A) (w : WF0 D A) : spX7_isNone p S = some (if (ixo p (aN A)).isSome = true then (0, flS S 0) else (1, flS S (nI 1))) := by
  unfold spX7_isNone
  rw [q_isC h w, Option.bind_some]
  cases ixo p (aN A) with
  | none =>
    show (if b2 false = 0 then _ else _) = _
    rw [if_pos (by decide), q_fails1]; rfl
  | some k =>
    show (if b2 true = 0 then _ else _) = _
    rw [if_neg (by decide), q_fails0]; rfl
theorem q_lost7 (h : RG (S.2.1 167) A) (w : WF0 D A) : spX7_isLost p S = some (if (ixo p (aM A)).isSome = true then (0, flS S 0) else (1, flS S (nI 1))) := by
  unfold spX7_isLost
  rw [q_isT h w, Option.bind_some]
  cases ixo p (aM A) with
  | none =>
    show (if b2 false = 0 then _ else _) = _
    rw [if_pos (by decide), q_fails1]; rfl
  | some k =>
    show (if b2 true = 0 then _ else _) = _
    rw [if_neg (by decide), q_fails0]; rfl
end REQ

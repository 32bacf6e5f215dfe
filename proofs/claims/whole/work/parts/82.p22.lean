/-! ===== the text: signs, words, digits ===== -/
def sg (n : Nat) (ch : Nat → Int32) (i : Nat) : Int32 := if i < n then ch i else -1
def prI (n : Nat) (ch : Nat → Int32) : List Int32 → Nat → Nat
  | [], _ => 0
  | c :: cs, q => if sg n ch q = c then 1 + prI n ch cs (q + 1) else 0
theorem prI_le (n : Nat) (ch : Nat → Int32) : ∀ L q, prI n ch L q ≤ L.length
  | [], q => Nat.le_refl _
  | c :: cs, q => by
    have := prI_le n ch cs (q + 1)
    rw [prI, List.length_cons]
    by_cases e : sg n ch q = c
    · rw [if_pos e]; omega
    · rw [if_neg e]; omega
theorem prI_app (n : Nat) (ch : Nat → Int32) (B : List Int32) : ∀ L q, prI n ch (L ++ B) q = if prI n ch L q = L.length then L.length + prI n ch B (q + L.length) else prI n ch L q
  | [], q => by
    simp [prI]
  | c :: cs, q => by
    have ih := prI_app n ch B cs (q + 1)
    show (if sg n ch q = c then 1 + prI n ch (cs ++ B) (q + 1) else 0) = _
    rw [prI, List.length_cons]
    by_cases e : sg n ch q = c
    · rw [if_pos e, if_pos e, ih]
      by_cases e2 : prI n ch cs (q + 1) = cs.length
      · rw [if_pos e2, if_pos (by omega), show q + 1 + cs.length = q + (cs.length + 1) by omega]
        omega
      · rw [if_neg e2, if_neg (by omega)]
    · rw [if_neg e, if_neg e, if_neg (by omega)]
/-- what is read lies in the text -/
theorem prI_in {n : Nat} {ch : Nat → Int32} (hch : True) : ∀ (L : List Int32) (q : Nat), (∀ c ∈ L, ¬ c = -1) → q ≤ n → q + prI n ch L q ≤ n
  | [], q, _, h => h
  | c :: cs, q, hL, h => by
    rw [prI]
    by_cases e : sg n ch q = c
    · rw [if_pos e]
      have hq : q < n := by
        by_cases hq : q < n
        · exact hq
        · unfold sg at e
          rw [if_neg hq] at e
          exact absurd e.symm (hL c List.mem_cons_self)
      have := prI_in (n := n) (ch := ch) hch cs (q + 1) (fun c hc => hL c (List.mem_cons_of_mem _ hc)) hq
      omega
    · rw [if_neg e]; omega
/-- a digit's value -/
def isd (c : Int32) : Option Nat := if 48 ≤ c ∧ c ≤ 57 then some (c.toNatClampNeg - 48) else none
theorem isd_some {c : Int32} {v : Nat} (h : isd c = some v) : v < 10 ∧ c = nI (48 + v) := by
  unfold isd at h
  by_cases e : 48 ≤ c ∧ c ≤ 57
  · rw [if_pos e] at h
    cases h
    obtain ⟨e1, e2⟩ := e
    rcases neg_or c with hq | ⟨j, hj, rfl⟩
    · exfalso
      rw [Int32.lt_iff_toInt_lt, Int32.toInt_zero] at hq
      rw [Int32.le_iff_toInt_le, show (48 : Int32).toInt = 48 by decide] at e1
      omega
    · have e1 : nI 48 ≤ nI j := e1
      have e2 : nI j ≤ nI 57 := e2
      rw [nI_leI (by decide) hj] at e1
      rw [nI_leI hj (by decide)] at e2
      rw [nI_clamp hj]
      refine ⟨by omega, ?_⟩
      congr 1
      omega
  · rw [if_neg e] at h; cases h
theorem isd_none {c : Int32} (h : isd c = none) : c < 48 ∨ ¬ c < 48 ∧ ¬ c ≤ 57 := by
  unfold isd at h
  by_cases e : 48 ≤ c ∧ c ≤ 57
  · rw [if_pos e] at h; cases h
  · by_cases e1 : c < 48
    · exact Or.inl e1
    · refine Or.inr ⟨e1, fun e2 => e ⟨?_, e2⟩⟩
      rw [Int32.lt_iff_toInt_lt] at e1
      rw [Int32.le_iff_toInt_le]
      omega
theorem isd_yes {v : Nat} (hv : v < 10) : isd (nI (48 + v)) = some v := by
  unfold isd
  rw [if_pos ⟨show nI 48 ≤ nI (48 + v) from nI_le (by omega) (by omega), show nI (48 + v) ≤ nI 57 from nI_le (by omega) (by decide)⟩, nI_clamp (by omega)]
  congr 1
  omega
/-- digits read: how many, and the number; 0: none -/
def rdn (n : Nat) (ch : Nat → Int32) (most q : Nat) : Nat × Nat := match isd (sg n ch q) with
  | none => (0, 0)
  | some v => if most ≤ 1 then (1, v) else match isd (sg n ch (q + 1)) with
    | none => (1, v)
    | some u => (2, 10 * v + u)
theorem rdn_0 {n : Nat} {ch : Nat → Int32} {most q : Nat} (h : isd (sg n ch q) = none) : rdn n ch most q = (0, 0) := by unfold rdn; rw [h]
theorem rdn_1 {n : Nat} {ch : Nat → Int32} {most q v : Nat} (h : isd (sg n ch q) = some v) (hm : most ≤ 1) : rdn n ch most q = (1, v) := by
  unfold rdn; rw [h]
  show (if most ≤ 1 then _ else _ : Nat × Nat) = _
  rw [if_pos hm]
theorem rdn_2 {n : Nat} {ch : Nat → Int32} {most q v : Nat} (h : isd (sg n ch q) = some v) (hm : ¬ most ≤ 1) (h2 : isd (sg n ch (q + 1)) = none) : rdn n ch most q = (1, v) := by
  unfold rdn; rw [h]
  show (if most ≤ 1 then _ else _ : Nat × Nat) = _
  rw [if_neg hm, h2]
theorem rdn_3 {n : Nat} {ch : Nat → Int32} {most q v u : Nat} (h : isd (sg n ch q) = some v) (hm : ¬ most ≤ 1) (h2 : isd (sg n ch (q + 1)) = some u) : rdn n ch most q = (2, 10 * v + u) := by
  unfold rdn; rw [h]
  show (if most ≤ 1 then _ else _ : Nat × Nat) = _
  rw [if_neg hm, h2]
theorem rdn_le (n : Nat) (ch : Nat → Int32) (most q : Nat) : (rdn n ch most q).1 ≤ 2 ∧ (rdn n ch most q).2 < 100 := by
  cases h : isd (sg n ch q) with
  | none => rw [rdn_0 h]; exact ⟨by decide, by decide⟩
  | some v =>
    have hv := (isd_some h).1
    by_cases e : most ≤ 1
    · rw [rdn_1 h e]; exact ⟨by show 1 ≤ 2; decide, by show v < 100; omega⟩
    · cases h2 : isd (sg n ch (q + 1)) with
      | none => rw [rdn_2 h e h2]; exact ⟨by show 1 ≤ 2; decide, by show v < 100; omega⟩
      | some u =>
        have hu := (isd_some h2).1
        rw [rdn_3 h e h2]
        exact ⟨by show 2 ≤ 2; decide, by show 10 * v + u < 100; omega⟩
theorem sg_dig {n : Nat} {ch : Nat → Int32} {q v : Nat} (h : isd (sg n ch q) = some v) : q < n := by
  by_cases e : q < n
  · exact e
  · unfold sg at h
    rw [if_neg e] at h
    have := (isd_some h).2
    exact absurd this.symm (q_m1 (by have := (isd_some h).1; omega))
theorem rdn_in {n : Nat} {ch : Nat → Int32} {most q : Nat} (h : q ≤ n) : q + (rdn n ch most q).1 ≤ n := by
  cases h1 : isd (sg n ch q) with
  | none => rw [rdn_0 h1]; exact h
  | some v =>
    have h2 := sg_dig h1
    by_cases e : most ≤ 1
    · rw [rdn_1 h1 e]; exact h2
    · cases h3 : isd (sg n ch (q + 1)) with
      | none => rw [rdn_2 h1 e h3]; exact h2
      | some u => rw [rdn_3 h1 e h3]; exact sg_dig h3
/-! the class's reader -/
def TX (S : Wo) (n : Nat) (ch : Nat → Int32) (q : Nat) : Prop := n ≤ 60 ∧ S.1 159 1 = nI n ∧ (∀ i, i < n → S.2.1 161 i = ch i) ∧ S.1 159 2 = nI q
def FrT (S T : Wo) : Prop := (∀ a, a ≠ 159 → T.1 a = S.1 a) ∧ (∀ k, k ≠ 2 → T.1 159 k = S.1 159 k) ∧ (∀ a, a ≠ 163 → T.2.1 a = S.2.1 a) ∧ T.2.2.1.2 = S.2.2.1.2 ∧ T.2.2.2 = S.2.2.2
theorem FrT.rf {S : Wo} : FrT S S := ⟨fun _ _ => rfl, fun _ _ => rfl, fun _ _ => rfl, rfl, rfl⟩
theorem FrT.tr {S T U : Wo} (h1 : FrT S T) (h2 : FrT T U) : FrT S U := ⟨fun a h => (h2.1 a h).trans (h1.1 a h), fun a h => (h2.2.1 a h).trans (h1.2.1 a h), fun a h => (h2.2.2.1 a h).trans (h1.2.2.1 a h), h2.2.2.2.1.trans h1.2.2.2.1, h2.2.2.2.2.trans h1.2.2.2.2⟩
theorem FrT.pI {S T : Wo} {v : Int32} (h : FrT S T) : FrT S (pI T 159 2 v) := h.tr ⟨fun a ha => pI_ne ha, fun k hk => pI_k hk, fun _ _ => rfl, rfl, rfl⟩
theorem FrT.pF {S T : Wo} {f : Nat → Int32} (h : FrT S T) : FrT S (pF T 163 f) := h.tr ⟨fun _ _ => rfl, fun _ _ => rfl, fun a ha => pF_ne ha, rfl, rfl⟩
theorem FrT.pK {S T : Wo} {k : Nat} (h : FrT S T) : FrT S (pK T k) := h.tr ⟨fun _ _ => rfl, fun _ _ => rfl, fun _ _ => rfl, rfl, rfl⟩
theorem TX.mv {S : Wo} {n : Nat} {ch : Nat → Int32} {q : Nat} (h : TX S n ch q) (r : Nat) : TX (pI S 159 2 (nI r)) n ch r := ⟨h.1, by rw [pI_k (by decide)]; exact h.2.1, h.2.2.1, pI_at _ _ _ _⟩
theorem TX.pK {S : Wo} {n : Nat} {ch : Nat → Int32} {q : Nat} (h : TX S n ch q) (k : Nat) : TX (pK S k) n ch q := h
theorem TX.pF {S : Wo} {n : Nat} {ch : Nat → Int32} {q : Nat} (h : TX S n ch q) (f : Nat → Int32) : TX (pF S 163 f) n ch q := ⟨h.1, h.2.1, by rw [pF_ne (by decide)]; exact h.2.2.1, h.2.2.2⟩
section RD6
variable {S : Wo} {n q : Nat} {ch : Nat → Int32}
theorem q_sg (h : TX S n ch q) {i : Nat} (hi : i < 2 ^ 31) : spX1_signAt (nI i) S = some (sg n ch i) := by
  obtain ⟨h0, h1, h2, h3⟩ := h
  unfold spX1_signAt sg
  rw [h1]
  by_cases e : i < n
  · rw [if_neg (nI_ge e (by omega)), if_pos e, q_get (by omega) (by decide), Option.bind_some, h2 i e]
  · rw [if_pos (nI_le (by omega) hi), if_neg e]
theorem q_rs (h : TX S n ch q) (hq : q < 1000) (c : Int32) : spX1_readSign c S = some (if sg n ch q = c then (1, pI S 159 2 (nI (q + 1))) else (0, S)) := by
  unfold spX1_readSign
  rw [h.2.2.2, q_sg h (by omega), Option.bind_some]
  by_cases e : sg n ch q = c
  · rw [if_pos e, if_pos e, wr_eq, nI_1]; rfl
  · rw [if_neg e, if_neg e]; rfl
theorem q_rd1 (h : TX S n ch q) (hq : q < 1000) {m : Nat} (hm : m ≤ 2) (hm1 : 1 ≤ m) : spX1_readDigits (nI m) S = some (if (rdn n ch m q).1 = 0 then (-1, S) else (nI (rdn n ch m q).2, pI S 159 2 (nI (q + (rdn n ch m q).1)))) := by
  unfold spX1_readDigits
  show lpX1_readDigits_4 (nI m) (199 + 1) 0 (nI 0) S = _
  rw [lpX1_readDigits_4, if_neg (nI_ge (by omega) (by omega)), h.2.2.2, q_sg h (by omega), Option.bind_some]
  cases hd : isd (sg n ch q) with
  | none =>
    rw [rdn_0 hd]
    rcases isd_none hd with e | ⟨e1, e2⟩
    · rw [if_pos e, if_pos (by decide)]; rfl
    · rw [if_neg e1, if_neg e2, if_pos (by decide)]; rfl
  | some v =>
    obtain ⟨hv, hc⟩ := isd_some hd
    have e0 : (10 : Int32) * 0 + (nI (48 + v) - 48) = nI v := by
      show nI 10 * nI 0 + (nI (48 + v) - nI 48) = _
      rw [q_mul, q_sub (by omega), nI_add]
      congr 1
      omega
    rw [hc, if_neg (show ¬ nI (48 + v) < (48 : Int32) from show ¬ nI (48 + v) < nI 48 from nI_nlt (by omega) (by omega)), if_pos (show nI (48 + v) ≤ (57 : Int32) from show nI (48 + v) ≤ nI 57 from nI_le (by omega) (by decide)), wr_eq, e0, nI_1, nI_1]
    have h1 := h.mv (q + 1)
    show lpX1_readDigits_4 (nI m) (198 + 1) (nI v) (nI (0 + 1)) (pI S 159 2 (nI (q + 1))) = _
    rw [lpX1_readDigits_4]
    by_cases em : m ≤ 1
    · rw [if_pos (nI_le (by omega) (by omega)), rdn_1 hd em]
      rfl
    · rw [if_neg (nI_ge (by omega) (by omega)), h1.2.2.2, q_sg h1 (by omega), Option.bind_some]
      cases hd2 : isd (sg n ch (q + 1)) with
      | none =>
        rw [rdn_2 hd em hd2]
        rcases isd_none hd2 with e | ⟨e1, e2⟩
        · rw [if_pos e, if_neg (by decide)]; rfl
        · rw [if_neg e1, if_neg e2, if_neg (by decide)]; rfl
      | some u =>
        obtain ⟨hu, hc2⟩ := isd_some hd2
        rw [rdn_3 hd em hd2]
        have e2 : (10 : Int32) * nI v + (nI (48 + u) - 48) = nI (10 * v + u) := by
          show nI 10 * nI v + (nI (48 + u) - nI 48) = _
          rw [q_mul, q_sub (by omega), nI_add]
          congr 1
          omega
        rw [hc2, if_neg (show ¬ nI (48 + u) < (48 : Int32) from show ¬ nI (48 + u) < nI 48 from nI_nlt (by omega) (by omega)), if_pos (show nI (48 + u) ≤ (57 : Int32) from show nI (48 + u) ≤ nI 57 from nI_le (by omega) (by decide)), wr_eq, e2, nI_1, nI_1]
        show lpX1_readDigits_4 (nI m) (197 + 1) _ _ _ = _
        rw [lpX1_readDigits_4, if_pos (nI_le (by omega) (by omega))]
        show some (nI (10 * v + u), pI (pI S 159 2 (nI (q + 1))) 159 2 (nI (q + 1 + 1))) = some (nI (10 * v + u), pI S 159 2 (nI (q + 2)))
        congr 2
        unfold pI
        refine Prod.ext ?_ rfl
        funext a b
        show (if a = 159 then if b = 2 then nI (q + 1 + 1) else if a = 159 then if b = 2 then nI (q + 1) else S.1 a b else S.1 a b else if a = 159 then if b = 2 then nI (q + 1) else S.1 a b else S.1 a b) = if a = 159 then if b = 2 then nI (q + 2) else S.1 a b else S.1 a b
        by_cases ha : a = 159
        · rw [if_pos ha, if_pos ha, if_pos ha]
          by_cases hb : b = 2
          · rw [if_pos hb, if_pos hb]
          · rw [if_neg hb, if_neg hb, if_neg hb]
        · rw [if_neg ha, if_neg ha, if_neg ha]
end RD6

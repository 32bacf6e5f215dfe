/-! ===== the world: one object of the class, one of the reference, two rows of the law, at addresses in a run from the base on ===== -/
abbrev Gt : Type := va_G × (Nat → ClassId) × Nat × (Nat → Nat) × (Nat → Nat) × (Nat → Nat) × (Nat → Nat)
abbrev Wo : Type := (Nat → Nat → Int32) × (Nat → Nat → Int32) × (Nat × Nat × Nat) × (Int64 × UInt64)
def gB (G : Gt) : Nat := G.2.2.1
def adK (G : Gt) (i : Nat) : Nat := G.2.2.2.1 i
def sad (G : Gt) (i : Nat) : Nat := G.2.2.2.2.1 i
def vad (G : Gt) (i : Nat) : Nat := G.2.2.2.2.2.1 i
def tad (G : Gt) (i : Nat) : Nat := G.2.2.2.2.2.2 i
abbrev rf (G : Gt) (i : Nat) : Value := .ref (gB G + i)
def Af (G : Gt) : Nat → Prop := fun q => gB G ≤ q
abbrev tysG (G : Gt) : List (ClassId × FieldType) := [(G.2.1 0, .int), (G.2.1 1, .char), (G.2.1 2, .byte), (G.2.1 3, .object "ScarecrowRegistry$State"), (G.2.1 4, .long), (G.2.1 5, .double)]
/-- the writes -/
def pI (S : Wo) (o k : Nat) (v : Int32) : Wo := (fun a b => if a = o then (if b = k then v else S.1 a b) else S.1 a b, S.2)
def pF (S : Wo) (a : Nat) (f : Nat → Int32) : Wo := (S.1, fun b => if b = a then f else S.2.1 b, S.2.2)
def pK (S : Wo) (k : Nat) : Wo := (S.1, S.2.1, (k, S.2.2.1.2), S.2.2.2)
def pB (S : Wo) (lb n : Nat) (f : Nat → Int32) : Wo := (S.1, fun b => if b = 165 then f else S.2.1 b, (S.2.2.1.1, lb, n), S.2.2.2)
def pL (S : Wo) (x : Int64) : Wo := (S.1, S.2.1, S.2.2.1, (x, S.2.2.2.2))
def pD (S : Wo) (x : UInt64) : Wo := (S.1, S.2.1, S.2.2.1, (S.2.2.2.1, x))
def celSt (G : Gt) (S : Wo) (o : Nat) : va_E := .inr (7, [rf G (o + 1), .int (S.1 o 1), .int (S.1 o 2), rf G (o + 3), rf G (o + 5), rf G (o + 7), rf G (o + 9), .int (S.1 o 7), rf G (o + 11), .int (S.1 o 9), .int (S.1 o 10), .int (S.1 o 11)])
def celRow (G : Gt) (o : Nat) : va_E := .inr (6, [rf G (o + 1)])
def celArr (G : Gt) (S : Wo) (t n a : Nat) : va_E := .inl (G.2.1 t, (n, .inl (S.2.1 a)))
def blkLen (j : Nat) : Nat := if j = 2 then 10 else if j = 12 then 16 else 20
def celBlk (G : Gt) (S : Wo) (o j : Nat) : va_E := if j = 0 then celSt G S o else if j % 2 = 1 then celRow G (o + j) else celArr G S 0 (blkLen j) (o + j)
def celReg (G : Gt) (S : Wo) : va_E := .inr (8, [rf G 1, rf G 14, rf G 27, rf G 40, .int (S.1 0 4), rf G 53, rf G 159, rf G 164, .int (S.1 0 8), .int (S.1 0 9), .int (S.1 0 10), .int (S.1 0 11)])
def celHis (G : Gt) (S : Wo) : va_E := .inr (5, [rf G 54, .int (S.1 53 1), .int (S.1 53 2)])
def celSlo (G : Gt) : va_E := .inl (G.2.1 3, (8, .inr (.inr (.inr (.inr (fun j => some (gB G + (55 + 13 * j))))))))
def celTxt (G : Gt) (S : Wo) : va_E := .inr (4, [rf G 160, .int (S.1 159 1), .int (S.1 159 2), .ref (adK G S.2.2.1.1), rf G 162])
def celSb (G : Gt) (S : Wo) : va_E := .inr (1, [.ref S.2.2.1.2.1, .int (S.1 164 1), .int (S.1 164 2), .int (S.1 164 3)])
def celMod (G : Gt) (S : Wo) : va_E := .inr (9, [rf G 167, rf G 168, rf G 169, rf G 170, rf G 171, .int (S.1 166 5), .int (S.1 166 6), .int (S.1 166 7), .int (S.1 166 8), .int (S.1 166 9), .int (S.1 166 10), .int (S.1 166 11), .int (S.1 166 12), rf G 172, .int (S.1 166 14), .int (S.1 166 15), rf G 173, .int (S.1 166 17), .int (S.1 166 18), rf G 174, .int (S.1 166 20)])
def cel (G : Gt) (S : Wo) (i : Nat) : va_E :=
  if i = 0 then celReg G S
  else if i ≤ 52 then celBlk G S (i - (i - 1) % 13) ((i - 1) % 13)
  else if i = 53 then celHis G S
  else if i = 54 then celSlo G
  else if i ≤ 158 then celBlk G S (i - (i - 55) % 13) ((i - 55) % 13)
  else if i = 159 then celTxt G S
  else if i = 160 then celRow G 160
  else if i = 161 then celArr G S 0 60 161
  else if i = 162 then celRow G 162
  else if i = 163 then celArr G S 0 3 163
  else if i = 164 then celSb G S
  else if i = 165 then celArr G S 2 S.2.2.1.2.2 165
  else if i = 166 then celMod G S
  else if i = 168 then celArr G S 0 896 168
  else if i ≤ 171 then celArr G S 0 112 i
  else if i = 172 then celArr G S 0 60 172
  else if i = 173 then celArr G S 1 40 173
  else if i = 174 then celArr G S 0 124 174
  else if i = 175 then .inl (G.2.1 4, (1, .inr (.inl (fun _ => S.2.2.2.1))))
  else .inl (G.2.1 5, (1, .inr (.inr (.inr (.inl (fun _ => S.2.2.2.2))))))
def adr (G : Gt) (S : Wo) (i : Nat) : Nat := if i = 165 then S.2.2.1.2.1 else gB G + i
def lay (G : Gt) (S : Wo) : va_W := (List.range 177).map (fun i => (adr G S i, cel G S i))
theorem lay_at {G : Gt} {S : Wo} {i : Nat} (h : i < 177) : (lay G S)[i]? = some (adr G S i, cel G S i) := by
  simp [lay, List.getElem?_map, List.getElem?_range h]
theorem adr_ne {G : Gt} {S : Wo} {i : Nat} (h : i ≠ 165) : adr G S i = gB G + i := by rw [adr, if_neg h]
theorem lay_ne {G : Gt} {S : Wo} {i : Nat} (h : i < 177) (h2 : i ≠ 165) {c : va_E} (hc : cel G S i = c) : (lay G S)[i]? = some (gB G + i, c) := by
  rw [lay_at h, adr_ne h2, hc]
theorem lay_lb {G : Gt} {S : Wo} : (lay G S)[165]? = some (S.2.2.1.2.1, celArr G S 2 S.2.2.1.2.2 165) := lay_at (by decide)
/-- a cell is read off its own row of the numbers alone -/
theorem celBlk_cong {G : Gt} {S T : Wo} {o j : Nat} (h1 : S.1 (o + j) = T.1 (o + j)) (h2 : S.2.1 (o + j) = T.2.1 (o + j)) : celBlk G S o j = celBlk G T o j := by
  unfold celBlk
  by_cases hj : j = 0
  · subst hj
    simp only [Nat.add_zero] at h1
    rw [if_pos rfl, if_pos rfl, celSt, celSt, h1]
  · rw [if_neg hj, if_neg hj]
    simp only [celArr, h2]
theorem cel_cong {G : Gt} {S T : Wo} {i : Nat} (h1 : S.1 i = T.1 i) (h2 : S.2.1 i = T.2.1 i) (h3 : S.2.2 = T.2.2) : cel G S i = cel G T i := by
  have hb : ∀ b, b ≤ i → celBlk G S (i - b) b = celBlk G T (i - b) b := fun b hb => celBlk_cong (by rw [Nat.sub_add_cancel hb]; exact h1) (by rw [Nat.sub_add_cancel hb]; exact h2)
  unfold cel
  by_cases h : i = 0
  · rw [if_pos h, if_pos h]
    subst h
    simp only [celReg, h1]
  rw [if_neg h, if_neg h]
  clear h
  by_cases h : i ≤ 52
  · rw [if_pos h, if_pos h]
    exact hb _ (by omega)
  rw [if_neg h, if_neg h]
  clear h
  by_cases h : i = 53
  · rw [if_pos h, if_pos h]
    subst h
    simp only [celHis, h1]
  rw [if_neg h, if_neg h]
  clear h
  by_cases h : i = 54
  · rw [if_pos h, if_pos h]
  rw [if_neg h, if_neg h]
  clear h
  by_cases h : i ≤ 158
  · rw [if_pos h, if_pos h]
    exact hb _ (by omega)
  rw [if_neg h, if_neg h]
  clear h
  by_cases h : i = 159
  · rw [if_pos h, if_pos h]
    subst h
    simp only [celTxt, h1, h3]
  rw [if_neg h, if_neg h]
  clear h
  by_cases h : i = 160
  · rw [if_pos h, if_pos h]
  rw [if_neg h, if_neg h]
  clear h
  by_cases h : i = 161
  · rw [if_pos h, if_pos h]
    subst h
    simp only [celArr, h2]
  rw [if_neg h, if_neg h]
  clear h
  by_cases h : i = 162
  · rw [if_pos h, if_pos h]
  rw [if_neg h, if_neg h]
  clear h
  by_cases h : i = 163
  · rw [if_pos h, if_pos h]
    subst h
    simp only [celArr, h2]
  rw [if_neg h, if_neg h]
  clear h
  by_cases h : i = 164
  · rw [if_pos h, if_pos h]
    subst h
    simp only [celSb, h1, h3]
  rw [if_neg h, if_neg h]
  clear h
  by_cases h : i = 165
  · rw [if_pos h, if_pos h]
    subst h
    simp only [celArr, h2, h3]
  rw [if_neg h, if_neg h]
  clear h
  by_cases h : i = 166
  · rw [if_pos h, if_pos h]
    subst h
    simp only [celMod, h1]
  rw [if_neg h, if_neg h]
  clear h
  by_cases h : i = 168
  · rw [if_pos h, if_pos h]
    subst h
    simp only [celArr, h2]
  rw [if_neg h, if_neg h]
  clear h
  by_cases h : i ≤ 171
  · rw [if_pos h, if_pos h]
    simp only [celArr, h2]
  rw [if_neg h, if_neg h]
  clear h
  by_cases h : i = 172
  · rw [if_pos h, if_pos h]
    subst h
    simp only [celArr, h2]
  rw [if_neg h, if_neg h]
  clear h
  by_cases h : i = 173
  · rw [if_pos h, if_pos h]
    subst h
    simp only [celArr, h2]
  rw [if_neg h, if_neg h]
  clear h
  by_cases h : i = 174
  · rw [if_pos h, if_pos h]
    subst h
    simp only [celArr, h2]
  rw [if_neg h, if_neg h]
  clear h
  by_cases h : i = 175
  · rw [if_pos h, if_pos h]
    rw [h3]
  rw [if_neg h, if_neg h]
  clear h
  rw [h3]
/-- one cell written -/
theorem lay_set {G : Gt} {S T : Wo} {i : Nat} (hi : i < 177) (ha : ∀ j, adr G T j = adr G S j) (hc : ∀ j, j ≠ i → cel G T j = cel G S j) {x : va_E} (hx : cel G T i = x) : (lay G S).set i (adr G S i, x) = lay G T := by
  apply List.ext_getElem?
  intro j
  rw [List.getElem?_set]
  have hl : (lay G S).length = 177 := by simp [lay]
  by_cases hj : i = j
  · subst hj
    rw [if_pos rfl, hl, if_pos hi, lay_at hi, ha, hx]
  · rw [if_neg hj]
    by_cases h2 : j < 177
    · rw [lay_at h2, lay_at h2, ha, hc j (fun e => hj e.symm)]
    · rw [List.getElem?_eq_none (by rw [hl]; omega), List.getElem?_eq_none (by simp [lay]; omega)]
theorem pI_ne {S : Wo} {o k j : Nat} {v : Int32} (h : j ≠ o) : (pI S o k v).1 j = S.1 j := by
  funext b
  simp [pI, h]
theorem pF_ne {S : Wo} {a j : Nat} {f : Nat → Int32} (h : j ≠ a) : (pF S a f).2.1 j = S.2.1 j := by
  simp [pF, h]
theorem lay_pI {G : Gt} {S : Wo} {o k : Nat} {v : Int32} (hi : o < 177) (h5 : o ≠ 165) {x : va_E} (hx : cel G (pI S o k v) o = x) : (lay G S).set o (gB G + o, x) = lay G (pI S o k v) := by
  rw [← adr_ne (G := G) (S := S) h5]
  exact lay_set (S := S) (T := pI S o k v) hi (fun _ => rfl) (fun j hj => cel_cong (pI_ne hj) rfl rfl) hx
theorem lay_pF {G : Gt} {S : Wo} {a : Nat} {f : Nat → Int32} (hi : a < 177) (h5 : a ≠ 165) {x : va_E} (hx : cel G (pF S a f) a = x) : (lay G S).set a (gB G + a, x) = lay G (pF S a f) := by
  rw [← adr_ne (G := G) (S := S) h5]
  exact lay_set (S := S) (T := pF S a f) hi (fun _ => rfl) (fun j hj => cel_cong rfl (pF_ne hj) rfl) hx
theorem lay_pF5 {G : Gt} {S : Wo} {f : Nat → Int32} : (lay G S).set 165 (S.2.2.1.2.1, celArr G (pF S 165 f) 2 S.2.2.1.2.2 165) = lay G (pF S 165 f) :=
  lay_set (S := S) (T := pF S 165 f) (by decide) (fun _ => rfl) (fun j hj => cel_cong rfl (pF_ne hj) rfl) rfl
/-- where the states lie; where the rows of numbers lie, and how long they are -/
abbrev stL : List Nat := [1, 14, 27, 40, 55, 68, 81, 94, 107, 120, 133, 146]
theorem stL_cases {o : Nat} {P : Nat → Prop} (h : o ∈ stL) (h0 : P 1 ∧ P 14 ∧ P 27 ∧ P 40 ∧ P 55 ∧ P 68 ∧ P 81 ∧ P 94 ∧ P 107 ∧ P 120 ∧ P 133 ∧ P 146) : P o := by
  simp only [stL, List.mem_cons, List.not_mem_nil, or_false] at h
  obtain ⟨a, b, c, d, e, f, g, i, j, k, l, m⟩ := h0
  rcases h with rfl | rfl | rfl | rfl | rfl | rfl | rfl | rfl | rfl | rfl | rfl | rfl <;> assumption
theorem cel_st {G : Gt} {S : Wo} {o : Nat} (h : o ∈ stL) : cel G S o = celSt G S o := stL_cases (P := fun o => cel G S o = celSt G S o) h ⟨rfl, rfl, rfl, rfl, rfl, rfl, rfl, rfl, rfl, rfl, rfl, rfl⟩
theorem stL_lt {o : Nat} (h : o ∈ stL) : o + 12 < 159 ∧ 1 ≤ o := stL_cases (P := fun o => o + 12 < 159 ∧ 1 ≤ o) h (by decide)
def IsRow (r n : Nat) : Prop := (∀ (G : Gt) (S : Wo), cel G S r = celRow G r ∧ cel G S (r + 1) = celArr G S 0 n (r + 1)) ∧ r + 1 < 165 ∧ n ≤ 60
theorem isRow_st {o : Nat} (h : o ∈ stL) : IsRow (o + 1) 10 ∧ IsRow (o + 3) 20 ∧ IsRow (o + 5) 20 ∧ IsRow (o + 7) 20 ∧ IsRow (o + 9) 20 ∧ IsRow (o + 11) 16 := by
  have hl := stL_lt h
  refine ⟨⟨fun G S => ?_, by omega, by decide⟩, ⟨fun G S => ?_, by omega, by decide⟩, ⟨fun G S => ?_, by omega, by decide⟩, ⟨fun G S => ?_, by omega, by decide⟩, ⟨fun G S => ?_, by omega, by decide⟩, ⟨fun G S => ?_, by omega, by decide⟩⟩
  · exact stL_cases (P := fun o => cel G S (o + 1) = celRow G (o + 1) ∧ cel G S (o + 1 + 1) = celArr G S 0 10 (o + 1 + 1)) h ⟨⟨rfl, rfl⟩, ⟨rfl, rfl⟩, ⟨rfl, rfl⟩, ⟨rfl, rfl⟩, ⟨rfl, rfl⟩, ⟨rfl, rfl⟩, ⟨rfl, rfl⟩, ⟨rfl, rfl⟩, ⟨rfl, rfl⟩, ⟨rfl, rfl⟩, ⟨rfl, rfl⟩, ⟨rfl, rfl⟩⟩
  · exact stL_cases (P := fun o => cel G S (o + 3) = celRow G (o + 3) ∧ cel G S (o + 3 + 1) = celArr G S 0 20 (o + 3 + 1)) h ⟨⟨rfl, rfl⟩, ⟨rfl, rfl⟩, ⟨rfl, rfl⟩, ⟨rfl, rfl⟩, ⟨rfl, rfl⟩, ⟨rfl, rfl⟩, ⟨rfl, rfl⟩, ⟨rfl, rfl⟩, ⟨rfl, rfl⟩, ⟨rfl, rfl⟩, ⟨rfl, rfl⟩, ⟨rfl, rfl⟩⟩
  · exact stL_cases (P := fun o => cel G S (o + 5) = celRow G (o + 5) ∧ cel G S (o + 5 + 1) = celArr G S 0 20 (o + 5 + 1)) h ⟨⟨rfl, rfl⟩, ⟨rfl, rfl⟩, ⟨rfl, rfl⟩, ⟨rfl, rfl⟩, ⟨rfl, rfl⟩, ⟨rfl, rfl⟩, ⟨rfl, rfl⟩, ⟨rfl, rfl⟩, ⟨rfl, rfl⟩, ⟨rfl, rfl⟩, ⟨rfl, rfl⟩, ⟨rfl, rfl⟩⟩
  · exact stL_cases (P := fun o => cel G S (o + 7) = celRow G (o + 7) ∧ cel G S (o + 7 + 1) = celArr G S 0 20 (o + 7 + 1)) h ⟨⟨rfl, rfl⟩, ⟨rfl, rfl⟩, ⟨rfl, rfl⟩, ⟨rfl, rfl⟩, ⟨rfl, rfl⟩, ⟨rfl, rfl⟩, ⟨rfl, rfl⟩, ⟨rfl, rfl⟩, ⟨rfl, rfl⟩, ⟨rfl, rfl⟩, ⟨rfl, rfl⟩, ⟨rfl, rfl⟩⟩
  · exact stL_cases (P := fun o => cel G S (o + 9) = celRow G (o + 9) ∧ cel G S (o + 9 + 1) = celArr G S 0 20 (o + 9 + 1)) h ⟨⟨rfl, rfl⟩, ⟨rfl, rfl⟩, ⟨rfl, rfl⟩, ⟨rfl, rfl⟩, ⟨rfl, rfl⟩, ⟨rfl, rfl⟩, ⟨rfl, rfl⟩, ⟨rfl, rfl⟩, ⟨rfl, rfl⟩, ⟨rfl, rfl⟩, ⟨rfl, rfl⟩, ⟨rfl, rfl⟩⟩
  · exact stL_cases (P := fun o => cel G S (o + 11) = celRow G (o + 11) ∧ cel G S (o + 11 + 1) = celArr G S 0 16 (o + 11 + 1)) h ⟨⟨rfl, rfl⟩, ⟨rfl, rfl⟩, ⟨rfl, rfl⟩, ⟨rfl, rfl⟩, ⟨rfl, rfl⟩, ⟨rfl, rfl⟩, ⟨rfl, rfl⟩, ⟨rfl, rfl⟩, ⟨rfl, rfl⟩, ⟨rfl, rfl⟩, ⟨rfl, rfl⟩, ⟨rfl, rfl⟩⟩
theorem isRow_chars : IsRow 160 60 := ⟨fun _ _ => ⟨rfl, rfl⟩, by decide, by decide⟩
theorem isRow_pars : IsRow 162 3 := ⟨fun _ _ => ⟨rfl, rfl⟩, by decide, by decide⟩

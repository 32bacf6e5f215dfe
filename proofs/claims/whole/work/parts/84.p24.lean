/-! ===== a command of a text, as numbers ===== -/
def stm (k : Nat) : List Int32 := (wrd k).dropLast
def Fg (k : Nat) : List (Int32 × Nat) := [[(32, 2)], [(32, 1), (62, 2)], [(32, 1)], [(32, 1)], [(32, 1), (32, 2)], [(32, 1), (62, 1), (32, 2)], [(32, 2)], [(32, 2), (32, 2)], [(32, 2)]].getD k []
def flF : List (Int32 × Nat) → List Int32
  | [] => []
  | (s, m) :: r => s :: (if m = 1 then 100 else 110) :: flF r
def pgs (n : Nat) (ch : Nat → Int32) : List (Int32 × Nat) → Nat → Bool × Nat × List Nat
  | [], q => (true, q, [])
  | (s, m) :: r, q => if sg n ch q = s then (if (rdn n ch m (q + 1)).1 = 0 then (false, q + 1, []) else ((pgs n ch r (q + 1 + (rdn n ch m (q + 1)).1)).1, (pgs n ch r (q + 1 + (rdn n ch m (q + 1)).1)).2.1, (rdn n ch m (q + 1)).2 :: (pgs n ch r (q + 1 + (rdn n ch m (q + 1)).1)).2.2)) else (false, q, [])
/-- a command whose word is the k-th -/
def cg (n : Nat) (ch : Nat → Int32) (k q : Nat) : Bool × Nat × Nat × List Nat :=
  if prI n ch (stm k) q = (stm k).length then ((pgs n ch (Fg k) (q + (stm k).length)).1, (pgs n ch (Fg k) (q + (stm k).length)).2.1, k, (pgs n ch (Fg k) (q + (stm k).length)).2.2) else (false, q + prI n ch (stm k) q, k, [])
/-- a command: read whole?, up to where, its word, its numbers -/
def cmd (n : Nat) (ch : Nat → Int32) (q : Nat) : Bool × Nat × Nat × List Nat :=
  if sg n ch q = 112 then cg n ch 0 q else if sg n ch q = 109 then cg n ch 1 q
  else if sg n ch q = 114 then (if sg n ch (q + 1) = 111 then cg n ch 4 q else if sg n ch (q + 1) = 101 then (if sg n ch (q + 2) = 118 then cg n ch 2 q else cg n ch 3 q) else (false, q + 1, 2, []))
  else if sg n ch q = 105 then cg n ch 5 q else if sg n ch q = 100 then cg n ch 6 q else if sg n ch q = 115 then cg n ch 7 q else if sg n ch q = 119 then cg n ch 8 q else (false, q, 0, [])
def okF (F : List (Int32 × Nat)) : Prop := ∀ e ∈ F, e.1 ≠ 100 ∧ e.1 ≠ 110 ∧ e.1 ≠ -1 ∧ (e.2 = 1 ∨ e.2 = 2)
theorem w_sh : ∀ k, k < 9 → wrd k = stm k ++ [32] ∧ 32 :: shp k = flF (Fg k) ∧ 3 ≤ (stm k).length ∧ (stm k).length ≤ 7 ∧ (Fg k).length ≤ 3 ∧ (∀ e ∈ Fg k, e.1 ≠ 100 ∧ e.1 ≠ 110 ∧ e.1 ≠ -1 ∧ (e.2 = 1 ∨ e.2 = 2)) ∧ (∀ c ∈ stm k, ¬ c = -1) := by decide +kernel
theorem okF_c {s : Int32} {m : Nat} {r : List (Int32 × Nat)} (h : okF ((s, m) :: r)) : s ≠ 100 ∧ s ≠ 110 ∧ s ≠ -1 ∧ (m = 1 ∨ m = 2) ∧ okF r := by
  obtain ⟨a, b, c, d⟩ := h (s, m) List.mem_cons_self
  exact ⟨a, b, c, d, fun e he => h e (List.mem_cons_of_mem _ he)⟩
section PC
variable {n : Nat} {ch : Nat → Int32}
theorem prm_flF : ∀ (F : List (Int32 × Nat)) q c P, okF F → (prm n ch (flF F) q c P).1 = (pgs n ch F q).1 ∧ (prm n ch (flF F) q c P).2.1 = (pgs n ch F q).2.1 ∧ (∀ i, i < c → (prm n ch (flF F) q c P).2.2 i = P i) ∧ ((pgs n ch F q).1 = true → ∀ i, i < F.length → (prm n ch (flF F) q c P).2.2 (c + i) = nI ((pgs n ch F q).2.2.getD i 0)) := by
  intro F
  induction F with
  | nil =>
    intro q c P _
    exact ⟨rfl, rfl, fun _ _ => rfl, fun _ i hi => absurd hi (Nat.not_lt_zero _)⟩
  | cons e r ih =>
    obtain ⟨s, m⟩ := e
    intro q c P ho
    obtain ⟨h1, h2, -, h3, ho⟩ := okF_c ho
    have hs : ¬ (s = 100 ∨ s = 110) := fun z => z.elim h1 h2
    have hd : ((if m = 1 then 100 else 110 : Int32) = 100 ∨ (if m = 1 then 100 else 110 : Int32) = 110) := by
      rcases h3 with e | e
      · subst e; exact Or.inl rfl
      · subst e; exact Or.inr rfl
    have hm : (if (if m = 1 then 100 else 110 : Int32) = 100 then 1 else 2) = m := by
      rcases h3 with e | e
      · subst e; rfl
      · subst e; rfl
    rw [flF, prm, pgs, if_neg hs]
    by_cases e1 : sg n ch q = s
    · rw [if_pos e1, if_pos e1, prm, if_pos hd, hm]
      by_cases e2 : (rdn n ch m (q + 1)).1 = 0
      · rw [if_pos e2, if_pos e2]
        exact ⟨rfl, rfl, fun _ _ => rfl, fun z => absurd z Bool.false_ne_true⟩
      · rw [if_neg e2, if_neg e2]
        obtain ⟨i1, i2, i3, i4⟩ := ih (q + 1 + (rdn n ch m (q + 1)).1) (c + 1) (upd P c (nI (rdn n ch m (q + 1)).2)) ho
        refine ⟨i1, i2, fun i hi => ?_, fun z i hi => ?_⟩
        · rw [i3 i (by omega), u_ne (by omega)]
        · cases i with
          | zero =>
            show (prm n ch (flF r) (q + 1 + (rdn n ch m (q + 1)).1) (c + 1) (upd P c (nI (rdn n ch m (q + 1)).2))).2.2 c = _
            rw [i3 c (by omega), u_at]
            rfl
          | succ i =>
            have := i4 z i (by rw [List.length_cons] at hi; omega)
            rw [show c + (i + 1) = c + 1 + i by omega, this]
            rfl
    · rw [if_neg e1, if_neg e1]
      exact ⟨rfl, rfl, fun _ _ => rfl, fun z => absurd z Bool.false_ne_true⟩
theorem pgs_le : ∀ (F : List (Int32 × Nat)) q, q ≤ (pgs n ch F q).2.1 := by
  intro F
  induction F with
  | nil => intro q; exact Nat.le_refl _
  | cons e r ih =>
    obtain ⟨s, m⟩ := e
    intro q
    rw [pgs]
    by_cases e1 : sg n ch q = s
    · rw [if_pos e1]
      by_cases e2 : (rdn n ch m (q + 1)).1 = 0
      · rw [if_pos e2]; exact Nat.le_succ _
      · rw [if_neg e2]
        have := ih (q + 1 + (rdn n ch m (q + 1)).1)
        show q ≤ (pgs n ch r (q + 1 + (rdn n ch m (q + 1)).1)).2.1
        omega
    · rw [if_neg e1]; exact Nat.le_refl _
theorem pgs_in : ∀ (F : List (Int32 × Nat)) q, okF F → q ≤ n → (pgs n ch F q).2.1 ≤ n := by
  intro F
  induction F with
  | nil => intro q _ h; exact h
  | cons e r ih =>
    obtain ⟨s, m⟩ := e
    intro q ho hq
    obtain ⟨h1, h2, h4, h3, ho⟩ := okF_c ho
    rw [pgs]
    by_cases e1 : sg n ch q = s
    · have hq2 : q < n := by
        by_cases z : q < n
        · exact z
        · exfalso
          unfold sg at e1
          rw [if_neg z] at e1
          exact h4 e1.symm
      rw [if_pos e1]
      by_cases e2 : (rdn n ch m (q + 1)).1 = 0
      · rw [if_pos e2]; exact hq2
      · rw [if_neg e2]
        exact ih _ ho (rdn_in hq2)
    · rw [if_neg e1]; exact hq
theorem pgs_len : ∀ (F : List (Int32 × Nat)) q, (pgs n ch F q).1 = true → (pgs n ch F q).2.2.length = F.length := by
  intro F
  induction F with
  | nil => intro q _; rfl
  | cons e r ih =>
    obtain ⟨s, m⟩ := e
    intro q
    rw [pgs]
    by_cases e1 : sg n ch q = s
    · rw [if_pos e1]
      by_cases e2 : (rdn n ch m (q + 1)).1 = 0
      · rw [if_pos e2]; intro z; exact absurd z Bool.false_ne_true
      · rw [if_neg e2]
        intro z
        have := ih _ z
        show (_ :: (pgs n ch r _).2.2).length = _
        rw [List.length_cons, List.length_cons, this]
    · rw [if_neg e1]; intro z; exact absurd z Bool.false_ne_true
/-- what of a word is read when its first signs are there -/
theorem prI_ge : ∀ (L : List Int32) q t, t ≤ L.length → (∀ i, i < t → sg n ch (q + i) = L.getD i 0) → t ≤ prI n ch L q := by
  intro L
  induction L with
  | nil => intro q t h _; exact Nat.le_trans h (Nat.zero_le _)
  | cons c cs ih =>
    intro q t h1 h2
    cases t with
    | zero => exact Nat.zero_le _
    | succ t =>
      have e0 : sg n ch q = c := h2 0 (by omega)
      have := ih (q + 1) t (by rw [List.length_cons] at h1; omega) (fun i hi => by
        have := h2 (i + 1) (by omega)
        rw [show q + 1 + i = q + (i + 1) by omega, this]
        rfl)
      rw [prI, if_pos e0]
      omega
theorem prI_eq : ∀ (L : List Int32) q t, t < L.length → (∀ i, i < t → sg n ch (q + i) = L.getD i 0) → sg n ch (q + t) ≠ L.getD t 0 → prI n ch L q = t := by
  intro L
  induction L with
  | nil => intro q t h _; exact absurd h (Nat.not_lt_zero _)
  | cons c cs ih =>
    intro q t h1 h2 h3
    cases t with
    | zero =>
      have e0 : ¬ sg n ch q = c := h3
      rw [prI, if_neg e0]
    | succ t =>
      have e0 : sg n ch q = c := h2 0 (by omega)
      have := ih (q + 1) t (by rw [List.length_cons] at h1; omega) (fun i hi => by
        have := h2 (i + 1) (by omega)
        rw [show q + 1 + i = q + (i + 1) by omega, this]
        rfl) (by rw [show q + 1 + t = q + (t + 1) by omega]; exact h3)
      rw [prI, if_pos e0, this]
      omega
theorem rw_one {k q : Nat} (h : ∀ j, j < 9 → j ≠ k → prI n ch (wrd j) q ≤ prI n ch (wrd k) q ∧ prI n ch (wrd j) q ≠ (wrd j).length) (hk : k < 9) : ∀ d i mx, i + d = 9 → mx ≤ prI n ch (wrd k) q → (k < i → mx = prI n ch (wrd k) q ∧ prI n ch (wrd k) q ≠ (wrd k).length) → rwF n ch q d i mx = if prI n ch (wrd k) q = (wrd k).length then (some k, (wrd k).length) else (none, prI n ch (wrd k) q) := by
  intro d
  induction d with
  | zero =>
    intro i mx h1 h2 h3
    obtain ⟨a, b⟩ := h3 (by omega)
    rw [rwF, if_neg b, a]
  | succ d ih =>
    intro i mx h1 h2 h3
    rw [rwF]
    by_cases e : i = k
    · subst e
      by_cases e2 : prI n ch (wrd i) q = (wrd i).length
      · rw [if_pos e2, if_pos e2]
      · rw [if_neg e2]
        have e3 : (if mx < prI n ch (wrd i) q then prI n ch (wrd i) q else mx) = prI n ch (wrd i) q := by
          by_cases e4 : mx < prI n ch (wrd i) q
          · rw [if_pos e4]
          · rw [if_neg e4]; omega
        rw [e3]
        exact ih (i + 1) _ (by omega) (Nat.le_refl _) (fun _ => ⟨rfl, e2⟩)
    · obtain ⟨a, b⟩ := h i (by omega) e
      rw [if_neg b]
      refine ih (i + 1) _ (by omega) ?_ (fun z => ?_)
      · by_cases e4 : mx < prI n ch (wrd i) q
        · rw [if_pos e4]; exact a
        · rw [if_neg e4]; exact h2
      · obtain ⟨c1, c2⟩ := h3 (by omega)
        refine ⟨?_, c2⟩
        by_cases e4 : mx < prI n ch (wrd i) q
        · rw [if_pos e4]; omega
        · rw [if_neg e4]; exact c1
theorem wrd_hd : ∀ j, j < 9 → (wrd j).getD 0 0 = [112, 109, 114, 114, 114, 105, 100, 115, 119].getD j 0 ∧ 3 < (wrd j).length := by decide +kernel
theorem wrd_r : (wrd 2).getD 1 0 = 101 ∧ (wrd 3).getD 1 0 = 101 ∧ (wrd 4).getD 1 0 = 111 ∧ (wrd 2).getD 2 0 = 118 ∧ ¬ (wrd 3).getD 2 0 = 118 ∧ (wrd 2).getD 0 0 = 114 ∧ (wrd 3).getD 0 0 = 114 ∧ (wrd 4).getD 0 0 = 114 := by decide +kernel
theorem hd_zero {j q : Nat} (hj : j < 9) (h : sg n ch q ≠ [112, 109, 114, 114, 114, 105, 100, 115, 119].getD j 0) : prI n ch (wrd j) q = 0 := by
  obtain ⟨a, b⟩ := wrd_hd j hj
  refine prI_eq (wrd j) q 0 (by omega) (fun i hi => absurd hi (Nat.not_lt_zero _)) ?_
  rw [a]
  exact h
def Rw (n : Nat) (ch : Nat → Int32) (q k : Nat) : Prop := rwF n ch q 9 0 0 = if prI n ch (wrd k) q = (wrd k).length then (some k, (wrd k).length) else (none, prI n ch (wrd k) q)
theorem rw_hd {k q : Nat} (hk : k < 9) (h : ∀ j, j < 9 → j ≠ k → sg n ch q ≠ [112, 109, 114, 114, 114, 105, 100, 115, 119].getD j 0) : Rw n ch q k := by
  refine rw_one (fun j hj hne => ?_) hk 9 0 0 rfl (Nat.zero_le _) (fun z => absurd z (Nat.not_lt_zero _))
  have b := (wrd_hd j hj).2
  rw [hd_zero hj (h j hj hne)]
  omega
theorem cmd_rw (q : Nat) : (∃ k, k < 9 ∧ cmd n ch q = cg n ch k q ∧ Rw n ch q k) ∨ ((cmd n ch q).1 = false ∧ q ≤ (cmd n ch q).2.1 ∧ (cmd n ch q).2.1 ≤ q + 1 ∧ ((cmd n ch q).2.1 = q + 1 → sg n ch q = 114) ∧ rwF n ch q 9 0 0 = (none, (cmd n ch q).2.1 - q)) := by
  have one : ∀ k v, k < 9 → sg n ch q = v → (∀ j, j < 9 → j ≠ k → v ≠ [112, 109, 114, 114, 114, 105, 100, 115, 119].getD j 0) → Rw n ch q k := by
    intro k v hk e h
    exact rw_hd hk (fun j hj hne => by rw [e]; exact h j hj hne)
  unfold cmd
  by_cases e0 : sg n ch q = 112
  · rw [if_pos e0]
    exact Or.inl ⟨0, by decide, rfl, one 0 112 (by decide) e0 (by decide +kernel)⟩
  rw [if_neg e0]
  by_cases e1 : sg n ch q = 109
  · rw [if_pos e1]
    exact Or.inl ⟨1, by decide, rfl, one 1 109 (by decide) e1 (by decide +kernel)⟩
  rw [if_neg e1]
  by_cases e2 : sg n ch q = 114
  · rw [if_pos e2]
    obtain ⟨r1, r2, r3, r4, r5, r6, r7, r8⟩ := wrd_r
    have l2 := (wrd_hd 2 (by decide)).2
    have l3 := (wrd_hd 3 (by decide)).2
    have l4 := (wrd_hd 4 (by decide)).2
    have oth : ∀ j, j < 9 → j ≠ 2 → j ≠ 3 → j ≠ 4 → prI n ch (wrd j) q = 0 := by
      intro j hj a b c
      refine hd_zero hj ?_
      rw [e2]
      rcases (by omega : j = 0 ∨ j = 1 ∨ j = 5 ∨ j = 6 ∨ j = 7 ∨ j = 8) with z | z | z | z | z | z <;> (subst z; decide)
    have g1 : ∀ j, (wrd j).getD 0 0 = 114 → ∀ i, i < 1 → sg n ch (q + i) = (wrd j).getD i 0 := by
      intro j hj i hi
      obtain rfl : i = 0 := by omega
      rw [hj]; exact e2
    have g2 : ∀ j v, (wrd j).getD 0 0 = 114 → (wrd j).getD 1 0 = v → sg n ch (q + 1) = v → ∀ i, i < 2 → sg n ch (q + i) = (wrd j).getD i 0 := by
      intro j v hj hj1 hv i hi
      rcases (by omega : i = 0 ∨ i = 1) with z | z
      · subst z; rw [hj]; exact e2
      · subst z; rw [hj1]; exact hv
    have pick : ∀ k, k < 9 → (∀ j, (j = 2 ∨ j = 3 ∨ j = 4) → j ≠ k → prI n ch (wrd j) q ≤ prI n ch (wrd k) q ∧ prI n ch (wrd j) q ≠ (wrd j).length) → Rw n ch q k := by
      intro k hk h
      refine rw_one (fun j hj hne => ?_) hk 9 0 0 rfl (Nat.zero_le _) (fun z => absurd z (Nat.not_lt_zero _))
      by_cases z : j = 2 ∨ j = 3 ∨ j = 4
      · exact h j z hne
      · have b := (wrd_hd j hj).2
        rw [oth j hj (by omega) (by omega) (by omega)]
        omega
    by_cases e3 : sg n ch (q + 1) = 111
    · rw [if_pos e3]
      have p2 : prI n ch (wrd 2) q = 1 := prI_eq _ _ 1 (by omega) (g1 2 r6) (by rw [e3, r1]; decide)
      have p3 : prI n ch (wrd 3) q = 1 := prI_eq _ _ 1 (by omega) (g1 3 r7) (by rw [e3, r2]; decide)
      have p4 : 2 ≤ prI n ch (wrd 4) q := prI_ge _ _ 2 (by omega) (g2 4 111 r8 r3 e3)
      refine Or.inl ⟨4, by decide, rfl, pick 4 (by decide) (fun j hj hne => ?_)⟩
      rcases hj with z | z | z
      · subst z; rw [p2]; omega
      · subst z; rw [p3]; omega
      · exact absurd z hne
    rw [if_neg e3]
    have p4 : prI n ch (wrd 4) q = 1 := prI_eq _ _ 1 (by omega) (g1 4 r8) (by rw [r3]; exact e3)
    by_cases e4 : sg n ch (q + 1) = 101
    · rw [if_pos e4]
      by_cases e5 : sg n ch (q + 2) = 118
      · rw [if_pos e5]
        have p3 : prI n ch (wrd 3) q = 2 := prI_eq _ _ 2 (by omega) (g2 3 101 r7 r2 e4) (by rw [e5]; exact fun z => r5 z.symm)
        have p2 : 2 ≤ prI n ch (wrd 2) q := prI_ge _ _ 2 (by omega) (g2 2 101 r6 r1 e4)
        refine Or.inl ⟨2, by decide, rfl, pick 2 (by decide) (fun j hj hne => ?_)⟩
        rcases hj with z | z | z
        · exact absurd z hne
        · subst z; rw [p3]; omega
        · subst z; rw [p4]; omega
      · rw [if_neg e5]
        have p2 : prI n ch (wrd 2) q = 2 := prI_eq _ _ 2 (by omega) (g2 2 101 r6 r1 e4) (by rw [r4]; exact e5)
        have p3 : 2 ≤ prI n ch (wrd 3) q := prI_ge _ _ 2 (by omega) (g2 3 101 r7 r2 e4)
        refine Or.inl ⟨3, by decide, rfl, pick 3 (by decide) (fun j hj hne => ?_)⟩
        rcases hj with z | z | z
        · subst z; rw [p2]; omega
        · exact absurd z hne
        · subst z; rw [p4]; omega
    · rw [if_neg e4]
      have p2 : prI n ch (wrd 2) q = 1 := prI_eq _ _ 1 (by omega) (g1 2 r6) (by rw [r1]; exact e4)
      have p3 : prI n ch (wrd 3) q = 1 := prI_eq _ _ 1 (by omega) (g1 3 r7) (by rw [r2]; exact e4)
      have h := pick 2 (by decide) (fun j hj hne => by
        rcases hj with z | z | z
        · exact absurd z hne
        · subst z; rw [p2, p3]; omega
        · subst z; rw [p2, p4]; omega)
      unfold Rw at h
      rw [p2, if_neg (by omega)] at h
      refine Or.inr ⟨rfl, Nat.le_succ _, Nat.le_refl _, fun _ => e2, ?_⟩
      rw [h]
      show (none, 1) = (none, q + 1 - q)
      congr 1
      omega
  rw [if_neg e2]
  by_cases e3 : sg n ch q = 105
  · rw [if_pos e3]
    exact Or.inl ⟨5, by decide, rfl, one 5 105 (by decide) e3 (by decide +kernel)⟩
  rw [if_neg e3]
  by_cases e4 : sg n ch q = 100
  · rw [if_pos e4]
    exact Or.inl ⟨6, by decide, rfl, one 6 100 (by decide) e4 (by decide +kernel)⟩
  rw [if_neg e4]
  by_cases e5 : sg n ch q = 115
  · rw [if_pos e5]
    exact Or.inl ⟨7, by decide, rfl, one 7 115 (by decide) e5 (by decide +kernel)⟩
  rw [if_neg e5]
  by_cases e6 : sg n ch q = 119
  · rw [if_pos e6]
    exact Or.inl ⟨8, by decide, rfl, one 8 119 (by decide) e6 (by decide +kernel)⟩
  rw [if_neg e6]
  have oth : ∀ j, j < 9 → sg n ch q ≠ [112, 109, 114, 114, 114, 105, 100, 115, 119].getD j 0 := by
    intro j hj
    rcases (by omega : j = 0 ∨ j = 1 ∨ j = 2 ∨ j = 3 ∨ j = 4 ∨ j = 5 ∨ j = 6 ∨ j = 7 ∨ j = 8) with z | z | z | z | z | z | z | z | z <;> (subst z; assumption)
  have h := rw_hd (k := 0) (by decide) (fun j hj _ => oth j hj)
  unfold Rw at h
  have l0 := (wrd_hd 0 (by decide)).2
  rw [hd_zero (by decide) (oth 0 (by decide)), if_neg (by omega)] at h
  refine Or.inr ⟨rfl, Nat.le_refl _, Nat.le_succ _, fun z => ?_, ?_⟩
  · have z : q = q + 1 := z
    omega
  · rw [h]
    show (none, 0) = (none, q - q)
    congr 1
    omega
end PC

/-! ===== the fields' line, a character of the line ===== -/
def sgn (A : As) (k : Nat) : Nat := match stn A (nI k) with
  | none => if nr A (cfd A (aD A)) k = true then 43 else 46
  | some s => if bt (aR A) s = true then 82 else if bt (cfd A (aD A)) s = true then 67 else 83
theorem sgn_lt (A : As) (k : Nat) : sgn A k < 128 := by
  unfold sgn
  cases stn A (nI k) with
  | none =>
    show (if nr A (cfd A (aD A)) k = true then 43 else 46) < 128
    by_cases e : nr A (cfd A (aD A)) k = true
    · rw [if_pos e]; decide
    · rw [if_neg e]; decide
  | some s =>
    show (if bt (aR A) s = true then 82 else if bt (cfd A (aD A)) s = true then 67 else 83) < 128
    by_cases e : bt (aR A) s = true
    · rw [if_pos e]; decide
    · rw [if_neg e]
      by_cases e : bt (cfd A (aD A)) s = true
      · rw [if_pos e]; decide
      · rw [if_neg e]; decide
def flM (s : Nat × (Nat → Int32)) (k : Nat) : Nat × (Nat → Int32) := if 0 < k ∧ k % 4 = 0 then (s.1 + 1, putc s.2 s.1 (nI 47)) else s
def flL (A : As) (f : Nat → Int32) : Nat → Nat × (Nat → Int32)
  | 0 => (0, f)
  | k + 1 => ((flM (flL A f k) k).1 + 1, putc (flM (flL A f k) k).2 (flM (flL A f k) k).1 (nI (sgn A k)))
theorem flM_len (s : Nat × (Nat → Int32)) (k : Nat) : (flM s k).1 = s.1 + (if 0 < k ∧ k % 4 = 0 then 1 else 0) := by
  unfold flM
  by_cases e : 0 < k ∧ k % 4 = 0
  · rw [if_pos e, if_pos e]
  · rw [if_neg e, if_neg e]; rfl
theorem flL_len (A : As) (f : Nat → Int32) : ∀ k, (flL A f k).1 = k + (k - 1) / 4
  | 0 => rfl
  | k + 1 => by
    show (flM (flL A f k) k).1 + 1 = _
    rw [flM_len, flL_len A f k]
    by_cases e : 0 < k ∧ k % 4 = 0
    · rw [if_pos e]; omega
    · rw [if_neg e]; omega
theorem rcc_b {ρ : Type} {b : Nat} (hb : b < 128) (f : Int32 → Option ρ) : rcc (nI b) f = f (nI b) := by
  unfold rcc
  rw [if_pos (chr_d b hb)]
section FLD
variable {D : Nat} {x : AX} {S : Wo} {A : As}
theorem q_sign {k : Nat} (h : RS S 1 A) (w : WF0 D A) (hk : k < 16) : spX5_signOf 1 (nI k) (cfd A (aD A)) S = some (nI (sgn A k)) := by
  have hn := w.1.1
  unfold spX5_signOf sgn
  rw [q_at h w, Option.bind_some]
  cases hs : stn A (nI k) with
  | none =>
    rw [if_pos oI_n, q_near h w hk, Option.bind_some]
    show _ = some (nI (if nr A (cfd A (aD A)) k = true then 43 else 46))
    cases nr A (cfd A (aD A)) k <;> rfl
  | some s =>
    have h1 := (stn_lt hs).1
    rw [if_neg (show ¬ oI (some s) = -1 from q_m1 (by omega)), h.1.2.1, oI_s, q_has (by omega), Option.bind_some, q_has (by omega), Option.bind_some]
    show _ = some (nI (if bt (aR A) s = true then 82 else if bt (cfd A (aD A)) s = true then 67 else 83))
    cases bt (aR A) s <;> cases bt (cfd A (aD A)) s <;> rfl
/-- the loop behind the growth, or where no growth is needed -/
theorem q_f18 {f : Nat → Int32} (w : WF0 D A) : ∀ d k (S : Wo) g, k + d = 16 → d < g → RS S 1 A → LB S (flL A f k).1 (flL A f k).2 → S.2.2.1.2.2 = 34 → ∃ T, lpX6_writeFields_18 (cfd A (aD A)) g (nI k) S = some (nI (flL A f 16).1, T) ∧ LB T (flL A f 16).1 (flL A f 16).2 ∧ FrL S T := by
  intro d
  induction d with
  | zero =>
    intro k S g h1 h2 h hl hc
    obtain ⟨g, rfl⟩ : ∃ q, g = q + 1 := ⟨g - 1, by omega⟩
    have e : k = 16 := by omega
    subst e
    rw [lpX6_writeFields_18, if_pos (by decide), q_len hl]
    exact ⟨S, rfl, hl, FrL.rf⟩
  | succ d ih =>
    intro k S g h1 h2 h hl hc
    obtain ⟨g, rfl⟩ : ∃ q, g = q + 1 := ⟨g - 1, by omega⟩
    have hk : k < 16 := by omega
    have hlen := flL_len A f k
    rw [lpX6_writeFields_18, if_neg (show ¬ (16 : Int32) ≤ nI k from show ¬ nI 16 ≤ nI k from nI_ge hk (by decide))]
    by_cases e0 : k = 0
    · have em : flM (flL A f k) k = flL A f k := by unfold flM; rw [if_neg (by omega)]
      have e9 : nI k ≤ 0 := by rw [e0]; decide
      obtain ⟨T, e1, l1, f1, g1⟩ := q_ac hl (by omega) (sgn_lt A k)
      rw [if_pos e9, q_sign h w hk, Option.bind_some, e1, Option.bind_some, nI_1]
      have hl2 : LB T (flL A f (k + 1)).1 (flL A f (k + 1)).2 := by
        show LB T ((flM (flL A f k) k).1 + 1) (putc (flM (flL A f k) k).2 (flM (flL A f k) k).1 (nI (sgn A k)))
        rw [em]; exact l1
      obtain ⟨T2, e2, l2, f2⟩ := ih (k + 1) T g (by omega) (by omega) (f1.rs h (by decide)) hl2 (by rw [g1]; exact hc)
      exact ⟨T2, e2, l2, f1.tr f2⟩
    · have er : nI k - nI k / 4 * 4 = nI (k % 4) := q_rem (b := 4) (by omega) (by decide)
      rw [if_neg (nI_nle (by omega) (by omega)), er]
      by_cases e4 : k % 4 = 0
      · have em : flM (flL A f k) k = ((flL A f k).1 + 1, putc (flL A f k).2 (flL A f k).1 (nI 47)) := by unfold flM; rw [if_pos ⟨by omega, e4⟩]
        obtain ⟨T, e1, l1, f1, g1⟩ := q_ac (b := 47) hl (by omega) (by decide)
        have e1' : spJ4_append_cf468 47 S = some T := e1
        obtain ⟨T1, e2, l2, f2, g2⟩ := q_ac l1 (by rw [g1]; omega) (sgn_lt A k)
        rw [if_pos (by rw [e4]; rfl), e1', Option.bind_some, q_sign (f1.rs h (by decide)) w hk, Option.bind_some, e2, Option.bind_some, nI_1]
        have hl2 : LB T1 (flL A f (k + 1)).1 (flL A f (k + 1)).2 := by
          show LB T1 ((flM (flL A f k) k).1 + 1) (putc (flM (flL A f k) k).2 (flM (flL A f k) k).1 (nI (sgn A k)))
          rw [em]; exact l2
        obtain ⟨T2, e3, l3, f3⟩ := ih (k + 1) T1 g (by omega) (by omega) ((f1.tr f2).rs h (by decide)) hl2 (by rw [g2, g1]; exact hc)
        exact ⟨T2, e3, l3, (f1.tr f2).tr f3⟩
      · have em : flM (flL A f k) k = flL A f k := by unfold flM; rw [if_neg (fun q => e4 q.2)]
        obtain ⟨T, e1, l1, f1, g1⟩ := q_ac hl (by omega) (sgn_lt A k)
        rw [if_neg (nI_ne0 (by omega) (by omega)), q_sign h w hk, Option.bind_some, e1, Option.bind_some, nI_1]
        have hl2 : LB T (flL A f (k + 1)).1 (flL A f (k + 1)).2 := by
          show LB T ((flM (flL A f k) k).1 + 1) (putc (flM (flL A f k) k).2 (flM (flL A f k) k).1 (nI (sgn A k)))
          rw [em]; exact l1
        obtain ⟨T2, e2, l2, f2⟩ := ih (k + 1) T g (by omega) (by omega) (f1.rs h (by decide)) hl2 (by rw [g1]; exact hc)
        exact ⟨T2, e2, l2, f1.tr f2⟩
/-- an end that doesn't hang on the new row's address -/
def PZ (S : Wo) (n : Nat) (f : Nat → Int32) (sp : Option (Nat → Int32 × Wo)) : Prop := ∃ F, sp = some F ∧ ∀ z, (F z).1 = nI n ∧ LB (F z).2 n f ∧ FrL S (F z).2
def PN (S : Wo) (n : Nat) (f : Nat → Int32) (sp : Option (Int32 × Wo)) : Prop := ∃ T, sp = some (nI n, T) ∧ LB T n f ∧ FrL S T
theorem PZ.fr {S T : Wo} {n : Nat} {f : Nat → Int32} {sp : Option (Nat → Int32 × Wo)} (h : PZ T n f sp) (hf : FrL S T) : PZ S n f sp := by
  obtain ⟨F, e, hF⟩ := h
  exact ⟨F, e, fun z => ⟨(hF z).1, (hF z).2.1, hf.tr (hF z).2.2⟩⟩
theorem PN.fr {S T : Wo} {n : Nat} {f : Nat → Int32} {sp : Option (Int32 × Wo)} (h : PN T n f sp) (hf : FrL S T) : PN S n f sp := by
  obtain ⟨U, e, l, hF⟩ := h
  exact ⟨U, e, l, hf.tr hF⟩
theorem q_apz {n b m : Nat} {f f' : Nat → Int32} {Az : Wo → Option (Nat → Int32 × Wo)} {Bz : Wo → Option (Int32 × Wo)} (h : LB S n f) (hn : n + 1 ≤ 34) (hb : b < 128) (ha : ∀ T, LB T (n + 1) (putc f n (nI b)) → FrL S T → PZ S m f' (Az T)) (hB : ∀ T, LB T (n + 1) (putc f n (nI b)) → FrL S T → T.2.2.1.2.2 = 34 → PN S m f' (Bz T)) : PZ S m f' (apz (spJ4_append_cf468 (nI b) S) (spJ4_append_cf468_g (nI b) S) Az Bz) := by
  by_cases e : n + 1 ≤ S.2.2.1.2.2
  · obtain ⟨T, e1, l1, f1, g1⟩ := q_ac h e hb
    rw [e1]
    exact ha T l1 f1
  · have hn16 : n = 16 ∧ S.2.2.1.2.2 = 16 := by
      have := h.2.2.2.1
      rcases h.2.2.1 with q | q <;> omega
    obtain ⟨rfl, h16⟩ := hn16
    obtain ⟨e1, F, e2, hF⟩ := q_acg h h16 hb
    rw [e1, e2]
    show PZ S m f' (bz (some F) Bz)
    have hz : ∀ z, PN S m f' (Bz (F z)) := fun z => hB (F z) (hF z).1 (hF z).2.1 (hF z).2.2
    refine ⟨fun z => (nI m, Classical.choose (hz z)), bz_some (fun z => (Classical.choose_spec (hz z)).1), fun z => ⟨rfl, (Classical.choose_spec (hz z)).2.1, (Classical.choose_spec (hz z)).2.2⟩⟩
theorem q_f18z {f : Nat → Int32} (w : WF0 D A) : ∀ d k (S : Wo) g, k + d = 16 → d < g → RS S 1 A → LB S (flL A f k).1 (flL A f k).2 → PZ S (flL A f 16).1 (flL A f 16).2 (lpX6_writeFields_18z (cfd A (aD A)) g (nI k) S) := by
  intro d
  induction d with
  | zero =>
    intro k S g h1 h2 h hl
    obtain ⟨g, rfl⟩ : ∃ q, g = q + 1 := ⟨g - 1, by omega⟩
    have e : k = 16 := by omega
    subst e
    rw [lpX6_writeFields_18z, if_pos (by decide), q_len hl]
    exact ⟨_, rfl, fun z => ⟨rfl, hl, FrL.rf⟩⟩
  | succ d ih =>
    intro k S g h1 h2 h hl
    obtain ⟨g, rfl⟩ : ∃ q, g = q + 1 := ⟨g - 1, by omega⟩
    have hk : k < 16 := by omega
    have hlen := flL_len A f k
    have nz : ∀ T, LB T (flL A f (k + 1)).1 (flL A f (k + 1)).2 → FrL S T → T.2.2.1.2.2 = 34 → PN S (flL A f 16).1 (flL A f 16).2 (lpX6_writeFields_18 (cfd A (aD A)) 200 (nI (k + 1)) T) := fun T l q hc => by
      obtain ⟨U, e, l2, f2⟩ := q_f18 (f := f) w d (k + 1) T 200 (by omega) (by omega) (q.rs h (by decide)) l hc
      exact ⟨U, e, l2, q.tr f2⟩
    have zz : ∀ T, LB T (flL A f (k + 1)).1 (flL A f (k + 1)).2 → FrL S T → PZ S (flL A f 16).1 (flL A f 16).2 (lpX6_writeFields_18z (cfd A (aD A)) g (nI (k + 1)) T) := fun T l q => (ih (k + 1) T g (by omega) (by omega) (q.rs h (by decide)) l).fr q
    rw [lpX6_writeFields_18z, if_neg (show ¬ (16 : Int32) ≤ nI k from show ¬ nI 16 ≤ nI k from nI_ge hk (by decide)), nI_1]
    by_cases e0 : k = 0
    · have em : flM (flL A f k) k = flL A f k := by unfold flM; rw [if_neg (by omega)]
      have e9 : nI k ≤ 0 := by rw [e0]; decide
      have hlf : ∀ T, LB T ((flL A f k).1 + 1) (putc (flL A f k).2 (flL A f k).1 (nI (sgn A k))) → LB T (flL A f (k + 1)).1 (flL A f (k + 1)).2 := fun T l => by
        show LB T ((flM (flL A f k) k).1 + 1) (putc (flM (flL A f k) k).2 (flM (flL A f k) k).1 (nI (sgn A k)))
        rw [em]; exact l
      rw [if_pos e9, q_sign h w hk, Option.bind_some]
      exact q_apz hl (by omega) (sgn_lt A k) (fun T l q => zz T (hlf T l) q) (fun T l q c => nz T (hlf T l) q c)
    · have er : nI k - nI k / 4 * 4 = nI (k % 4) := q_rem (b := 4) (by omega) (by decide)
      rw [if_neg (nI_nle (by omega) (by omega)), er]
      by_cases e4 : k % 4 = 0
      · have em : flM (flL A f k) k = ((flL A f k).1 + 1, putc (flL A f k).2 (flL A f k).1 (nI 47)) := by unfold flM; rw [if_pos ⟨by omega, e4⟩]
        have hlf : ∀ T, LB T ((flL A f k).1 + 1 + 1) (putc (putc (flL A f k).2 (flL A f k).1 (nI 47)) ((flL A f k).1 + 1) (nI (sgn A k))) → LB T (flL A f (k + 1)).1 (flL A f (k + 1)).2 := fun T l => by
          show LB T ((flM (flL A f k) k).1 + 1) (putc (flM (flL A f k) k).2 (flM (flL A f k) k).1 (nI (sgn A k)))
          rw [em]; exact l
        rw [if_pos (by rw [e4]; rfl)]
        refine q_apz (b := 47) hl (by omega) (by decide) (fun T l q => ?_) (fun T l q c => ?_)
        · rw [q_sign (q.rs h (by decide)) w hk, Option.bind_some]
          exact (q_apz (m := (flL A f 16).1) (f' := (flL A f 16).2) l (by omega) (sgn_lt A k) (fun T2 l2 q2 => by
            obtain ⟨F, e, hF⟩ := ih (k + 1) T2 g (by omega) (by omega) ((q.tr q2).rs h (by decide)) (hlf T2 l2)
            exact ⟨F, e, fun z => ⟨(hF z).1, (hF z).2.1, q2.tr (hF z).2.2⟩⟩) (fun T2 l2 q2 c2 => by
            obtain ⟨U, e, l3, f3⟩ := q_f18 (f := f) w d (k + 1) T2 200 (by omega) (by omega) ((q.tr q2).rs h (by decide)) (hlf T2 l2) c2
            exact ⟨U, e, l3, q2.tr f3⟩)).fr q
        · obtain ⟨T1, e2, l2, f2, g2⟩ := q_ac l (by omega) (sgn_lt A k)
          rw [q_sign (q.rs h (by decide)) w hk, Option.bind_some, e2, Option.bind_some]
          exact nz T1 (hlf T1 l2) (q.tr f2) (by rw [g2]; exact c)
      · have em : flM (flL A f k) k = flL A f k := by unfold flM; rw [if_neg (fun q => e4 q.2)]
        have hlf : ∀ T, LB T ((flL A f k).1 + 1) (putc (flL A f k).2 (flL A f k).1 (nI (sgn A k))) → LB T (flL A f (k + 1)).1 (flL A f (k + 1)).2 := fun T l => by
          show LB T ((flM (flL A f k) k).1 + 1) (putc (flM (flL A f k) k).2 (flM (flL A f k) k).1 (nI (sgn A k)))
          rw [em]; exact l
        rw [if_neg (nI_ne0 (by omega) (by omega)), q_sign h w hk, Option.bind_some]
        exact q_apz hl (by omega) (sgn_lt A k) (fun T l q => zz T (hlf T l) q) (fun T l q c => nz T (hlf T l) q c)
theorem q_wf6 (h : C6 x S) (wx : WX D x) : PZ S (flL (xA x) (xW x) 16).1 (flL (xA x) (xW x) 16).2 (spX6_writeFields S) := by
  have w := wx.1.1
  obtain ⟨T0, e0, l0, f0, g0⟩ := q_set0 h.2.2.2.2.1
  unfold spX6_writeFields
  have e0' : spJ4_setLength_d00df 0 S = some T0 := e0
  rw [q_cfdNow h.1 w, Option.bind_some, e0', Option.bind_some]
  exact (q_f18z (f := xW x) w 16 0 T0 200 rfl (by decide) (f0.rs h.1 (by decide)) l0).fr f0
theorem q_f28 {f : Nat → Int32} (w : WF0 D A) : ∀ d k (S : Wo) g, k + d = 16 → d < g → RG (S.2.1 167) A → L7 S (flL A f k).1 (flL A f k).2 → ∃ T, lpX7_writeFields_28 (cfd A (aD A)) (gds A) g (nI k) S = some (nI (flL A f 16).1, T) ∧ L7 T (flL A f 16).1 (flL A f 16).2 ∧ FrW S T := by
  have hn := w.1.1
  intro d
  induction d with
  | zero =>
    intro k S g h1 h2 h hl
    obtain ⟨g, rfl⟩ : ∃ q, g = q + 1 := ⟨g - 1, by omega⟩
    have e : k = 16 := by omega
    subst e
    rw [lpX7_writeFields_28, if_pos (by decide), hl.1]
    exact ⟨S, rfl, hl, FrW.rf⟩
  | succ d ih =>
    intro k S g h1 h2 h hl
    obtain ⟨g, rfl⟩ : ∃ q, g = q + 1 := ⟨g - 1, by omega⟩
    have hk : k < 16 := by omega
    have hlen := flL_len A f k
    have hml := flM_len (flL A f k) k
    have hm2 : (flM (flL A f k) k).1 ≤ 30 := by
      rw [hml]
      by_cases e : 0 < k ∧ k % 4 = 0
      · rw [if_pos e]; omega
      · rw [if_neg e]; omega
    rw [lpX7_writeFields_28, if_neg (show ¬ (16 : Int32) ≤ nI k from show ¬ nI 16 ≤ nI k from nI_ge hk (by decide)), jn_e]
    dsimp only
    have body : ∀ T, RG (T.2.1 167) A → L7 T (flM (flL A f k) k).1 (flM (flL A f k) k).2 → FrW S T → ∃ U, (spX7_standing (nI k) T).bind (fun x10 => (if (0 : Int32) ≤ x10 then (if inb 15 112 = true then (spX7_has (T.2.1 167 (ix 15)) x10 T).bind (fun x11 => (if x11 = 0 then (spX7_has (cfd A (aD A)) x10 T).bind (fun x12 => (if x12 = 0 then (spX7_writes 83 T).bind (fun S13 => lpX7_writeFields_28 (cfd A (aD A)) (gds A) g (nI k + 1) S13) else (spX7_writes 67 T).bind (fun S14 => lpX7_writeFields_28 (cfd A (aD A)) (gds A) g (nI k + 1) S14))) else (spX7_writes 82 T).bind (fun S15 => lpX7_writeFields_28 (cfd A (aD A)) (gds A) g (nI k + 1) S15))) else none) else (spX7_has (gds A) (nI k) T).bind (fun x16 => (if x16 = 0 then (spX7_writes 46 T).bind (fun S17 => lpX7_writeFields_28 (cfd A (aD A)) (gds A) g (nI k + 1) S17) else (spX7_writes 43 T).bind (fun S18 => lpX7_writeFields_28 (cfd A (aD A)) (gds A) g (nI k + 1) S18))))) = some (nI (flL A f 16).1, U) ∧ L7 U (flL A f 16).1 (flL A f 16).2 ∧ FrW S U := by
      intro T hT lT fT
      obtain ⟨U, e1, l1, f1⟩ := q_w lT (by omega) (sgn_lt A k)
      have hl2 : L7 U (flL A f (k + 1)).1 (flL A f (k + 1)).2 := l1
      obtain ⟨V, e2, l2, f2⟩ := ih (k + 1) U g (by omega) (by omega) (f1.rg hT) hl2
      refine ⟨V, ?_, l2, (fT.tr f1).tr f2⟩
      rw [q_stn7 hT w, Option.bind_some, nI_1]
      unfold sgn at e1
      cases hs : stn A (nI k) with
      | none =>
        rw [hs] at e1
        have e1 : spX7_writes (nI (if nr A (cfd A (aD A)) k = true then 43 else 46)) T = some U := e1
        rw [if_neg (by decide), q_has7 (by omega), Option.bind_some, gds_bt hk]
        cases hb : nr A (cfd A (aD A)) k
        · rw [hb, if_neg (by decide)] at e1
          have e1 : spX7_writes 46 T = some U := e1
          rw [if_pos b2_f, e1, Option.bind_some]
          exact e2
        · rw [hb, if_pos rfl] at e1
          have e1 : spX7_writes 43 T = some U := e1
          rw [if_neg (show ¬ b2 true = 0 from by decide), e1, Option.bind_some]
          exact e2
      | some s =>
        have h1 := (stn_lt hs).1
        rw [hs] at e1
        have e1 : spX7_writes (nI (if bt (aR A) s = true then 82 else if bt (cfd A (aD A)) s = true then 67 else 83)) T = some U := e1
        rw [if_pos (show (0 : Int32) ≤ oI (some s) from nI_pos' (by omega)), if_pos in_15, ix_15, hT.1.2.1, oI_s, q_has7 (by omega), Option.bind_some, q_has7 (by omega), Option.bind_some]
        cases hb : bt (aR A) s
        · rw [hb, if_neg (by decide)] at e1
          rw [if_pos b2_f]
          cases hb2 : bt (cfd A (aD A)) s
          · rw [hb2, if_neg (by decide)] at e1
            have e1 : spX7_writes 83 T = some U := e1
            rw [if_pos b2_f, e1, Option.bind_some]
            exact e2
          · rw [hb2, if_pos rfl] at e1
            have e1 : spX7_writes 67 T = some U := e1
            rw [if_neg (show ¬ b2 true = 0 from by decide), e1, Option.bind_some]
            exact e2
        · rw [hb, if_pos rfl] at e1
          have e1 : spX7_writes 82 T = some U := e1
          rw [if_neg (show ¬ b2 true = 0 from by decide), e1, Option.bind_some]
          exact e2
    by_cases e0 : k = 0
    · have em : flM (flL A f k) k = flL A f k := by unfold flM; rw [if_neg (by omega)]
      have e9 : nI k ≤ 0 := by rw [e0]; decide
      rw [if_pos e9]
      exact body S h (by rw [em]; exact hl) FrW.rf
    · have er : nI k - nI k / 4 * 4 = nI (k % 4) := q_rem (b := 4) (by omega) (by decide)
      rw [if_neg (nI_nle (by omega) (by omega)), er]
      by_cases e4 : k % 4 = 0
      · have em : flM (flL A f k) k = ((flL A f k).1 + 1, putc (flL A f k).2 (flL A f k).1 (nI 47)) := by unfold flM; rw [if_pos ⟨by omega, e4⟩]
        obtain ⟨T, e1, l1, f1⟩ := q_w (b := 47) hl (by omega) (by decide)
        have e1 : spX7_writes 47 S = some T := e1
        rw [if_pos (by rw [e4]; rfl), e1, Option.bind_some]
        exact body T (f1.rg h) (by rw [em]; exact l1) f1
      · have em : flM (flL A f k) k = flL A f k := by unfold flM; rw [if_neg (fun q => e4 q.2)]
        rw [if_neg (nI_ne0 (by omega) (by omega))]
        exact body S h (by rw [em]; exact hl) FrW.rf
theorem sb_writeFields (h : Inv D x S) : ∃ F, spX6_writeFields S = some F ∧ ∀ z, ∃ T x', spX7_writeFields (F z).2 = some ((F z).1, T) ∧ Inv D x' T := by
  have w := h.1.1.1
  obtain ⟨F, e, hF⟩ := q_wf6 h.2.1 h.1
  refine ⟨F, e, fun z => ?_⟩
  obtain ⟨h1, h2, h3⟩ := hF z
  have h7 := h.2.2.fr h3.f6
  have h9 := h7.end_ (k := 9) (v := 0) (by decide)
  have hlen := flL_len (xA x) (xW x) 16
  have f0 := FrW_0 (pI (F z).2 166 9 0)
  obtain ⟨T, e2, l2, f2⟩ := q_f28 (f := xW x) w 16 0 (pI (pI (F z).2 166 9 0) 166 17 0) 200 rfl (by decide) (f0.rg h9.1) (L7_0 _ _)
  refine ⟨T, setL x (flL (xA x) (xW x) 16).1 (flL (xA x) (xW x) 16).2, ?_, wx_lin h.1 h2 (by omega), (h.2.1.lin h3 h2).fr ((Fr7.rf.pI (by decide)).tr (f0.tr f2).f7), h9.lin (f0.tr f2) l2⟩
  unfold spX7_writeFields
  rw [wr_eq, q_guards h9.1 w, Option.bind_some, if_pos in_2, q_cfdN7 h9.1 w, Option.bind_some, wr_eq, h1]
  exact e2
theorem chr_e : ∀ b, b < 128 → (((nI b &&& 255) : Int32).toUInt32 % 65536).toInt32 = nI b := by decide +kernel
theorem st_lineCharacter (p : Int32) (h : Inv D x S) : StI (spL_lineCharacter p) (spX7_lineCharacter p) S D := by
  have lb : LB S (xL x) (xW x) := h.2.1.2.2.2.2.1
  have hl19 := h.1.2.2.2.2.1
  have hc : S.2.2.1.2.2 ≤ 34 := by rcases lb.2.2.1 with e | e <;> omega
  cases hx : ixo p (xL x) with
  | none =>
    refine stQ h 1 0 32 ?_ (fun T hT => ?_) (fun q => absurd q (by decide))
    · unfold spL_lineCharacter spX6_lineCharacter
      rcases neg_or p with hq | ⟨j, hj, rfl⟩
      · rw [if_pos hq]; rfl
      · rw [ixo_nI hj] at hx
        by_cases e : j < xL x
        · rw [if_pos e] at hx; cases hx
        · rw [if_neg (nI_pos hj), q_len lb, Option.bind_some, if_neg (nI_nlt (by omega) hj)]; rfl
    · have e17 : T.1 166 17 = nI (xL x) := hT.2.2.2.2.2.2.1.1
      unfold spX7_lineCharacter
      rw [e17, nI_dec', q_inN p (by omega), hx, Option.bind_some, jn_e]
      dsimp only
      rw [if_pos b2s_n, q_fails1, bd2_s, if_neg i1_0]
      show rcc (nI 32) _ = _
      rw [rcc_b (by decide)]
      rfl
  | some k =>
    obtain ⟨h1, rfl⟩ := ixo_some hx
    obtain ⟨b, hb, eb⟩ := hl19.2 k h1
    have eb6 : S.2.1 165 k = nI b := by rw [lb.2.2.2.2.1 k h1]; exact eb
    refine stQ h 0 (nI b) (nI b) ?_ (fun T hT => ?_) (fun _ => rfl)
    · unfold spL_lineCharacter spX6_lineCharacter
      have ecap : ¬ nI S.2.2.1.2.2 < nI (xL x) := nI_nlt lb.2.2.2.1 (by omega)
      have ec : spJ4_charAt_5068e (nI k) S = some (nI b) := by
        unfold spJ4_charAt_5068e spJ5_charAt_5068e
        rw [if_pos rfl, lb_cap lb, lb.2.1]
        simp only [nm]
        rw [if_neg ecap, if_neg (nI_pos (by omega)), if_pos (nI_lt h1 (by omega)), lb.1]
        simp only [↓reduceIte]
        rw [if_pos (q_in (by have := lb.2.2.2.1; omega) (by omega)), q_ix (by omega), eb6, chr_e b hb, rcc_b hb, Option.bind_some, rcc_b hb]
      rw [if_neg (nI_pos (by omega)), q_len lb, Option.bind_some, if_pos (nI_lt h1 (by omega)), ec, Option.bind_some, rcc_b hb, bxc_0]
      rfl
    · have e17 : T.1 166 17 = nI (xL x) := hT.2.2.2.2.2.2.1.1
      have e173 : (flS T 0).2.1 173 k = nI b := by
        rw [← eb]
        exact (hT.2.2.fl 0).2.2.2.2.1.2 k h1
      unfold spX7_lineCharacter
      rw [e17, nI_dec', q_inN (nI k) (by omega), hx, Option.bind_some, jn_e]
      dsimp only
      rw [if_neg (b2s_s k), q_fails0, bd2_s, if_pos rfl, if_pos (q_in (by omega) (by decide)), q_ix (by omega), e173, rcc_b hb]
      rfl
end FLD

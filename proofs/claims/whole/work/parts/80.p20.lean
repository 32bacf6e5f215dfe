/-! ===== the lines themselves ===== -/
def setL (x : AX) (n : Nat) (f : Nat → Int32) : AX := (x.1, x.2.1, x.2.2.1, x.2.2.2.1, (n, f), x.2.2.2.2.2)
theorem C6.lin {x : AX} {S T : Wo} {n : Nat} {f : Nat → Int32} (h : C6 x S) (hf : FrL S T) (hl : LB T n f) : C6 (setL x n f) T := by
  obtain ⟨h1, ⟨old, q1, h2, h3, h4⟩, ⟨h5, h6⟩, ⟨h7, h8⟩, h9, h10⟩ := h
  refine ⟨hf.rs h1 (by decide), ⟨old, q1, by rw [hf.1 53 (by decide)]; exact h2, by rw [hf.1 53 (by decide)]; exact h3, fun a ha => hf.rs (h4 a ha) (by have := hsl_rg old a; omega)⟩, ⟨by rw [hf.1 0 (by decide)]; exact h5, fun B hB => hf.rs (h6 B hB) (by decide)⟩, ⟨by rw [hf.1 159 (by decide)]; exact h7, by rw [hf.2.1 161 (by decide)]; exact h8⟩, hl, by rw [hf.1 0 (by decide)]; exact h10⟩
theorem C7w.lin {wi : Bool} {x : AX} {S T : Wo} {n : Nat} {f : Nat → Int32} (h : C7w wi x S) (hf : FrW S T) (hl : L7 T n f) : C7w wi (setL x n f) T := by
  obtain ⟨h1, ⟨h2, h3, h4⟩, ⟨h5, h6⟩, ⟨h7, h8⟩, h9, h11, h12, h13, h14⟩ := h
  obtain ⟨f1, f2, f3, f4⟩ := hf
  refine ⟨?_, ⟨?_, ?_, ?_⟩, ⟨?_, ?_⟩, ⟨?_, ?_⟩, hl, ?_, ?_, ?_, ?_⟩
  · rw [f3 167 (by decide)]; exact h1
  · rw [f1 7 (by decide)]; exact h2
  · rw [f1 6 (by decide)]; exact h3
  · rw [f3 168 (by decide)]; exact h4
  · rw [f1 5 (by decide)]; exact h5
  · rw [f3 169 (by decide)]; exact h6
  · rw [f1 14 (by decide)]; exact h7
  · rw [f3 172 (by decide)]; exact h8
  · rw [f1 15 (by decide)]; exact h11
  · rw [f1 10 (by decide)]; exact h12
  · rw [f1 11 (by decide)]; exact h13
  · rw [f1 12 (by decide)]; exact h14
theorem FrW.f7 {S T : Wo} (h : FrW S T) : Fr7 S T := ⟨fun a ha => h.2.1 a (by omega), fun a ha => h.2.2.1 a (by omega), by rw [h.2.2.2], by rw [h.2.2.2]⟩
theorem FrW.rg {S T : Wo} {A : As} (h : FrW S T) (hA : RG (S.2.1 167) A) : RG (T.2.1 167) A := by rw [h.2.2.1 167 (by decide)]; exact hA
theorem wx_lin {D : Nat} {x : AX} {S : Wo} {n : Nat} {f : Nat → Int32} (wx : WX D x) (hl : LB S n f) (hn : n ≤ 19) : WX D (setL x n f) := by
  refine ⟨wx.1, wx.2.1, wx.2.2.1, wx.2.2.2.1, ⟨hn, fun i hi => ?_⟩, wx.2.2.2.2.2⟩
  obtain ⟨b, hb, e⟩ := hl.2.2.2.2.2 i (Nat.lt_of_lt_of_le hi hl.2.2.2.1)
  exact ⟨b, hb, by rw [← e]; exact (hl.2.2.2.2.1 i hi).symm⟩
theorem L7_0 (S : Wo) (f : Nat → Int32) : L7 (pI S 166 17 0) 0 f := ⟨pI_at _ _ _ _, fun i hi => absurd hi (Nat.not_lt_zero i)⟩
theorem FrW_0 (S : Wo) : FrW S (pI S 166 17 0) := ⟨fun k hk => pI_k hk, fun a ha => pI_ne ha, fun _ _ => rfl, rfl⟩
theorem q_len {S : Wo} {n : Nat} {f : Nat → Int32} (h : LB S n f) : spJ4_length_8abf5 S = some (nI n) := by
  unfold spJ4_length_8abf5 spJ5_length_8abf5
  rw [h.2.1]; rfl
theorem q_wb {S : Wo} {n b v : Nat} {f : Nat → Int32} (h : L7 S n f) (hn : n + 1 + nd v ≤ 40) (hb : b < 128) (hv : v < 1000000) : ∃ T, spX7_writesBehind (nI b) (nI v) S = some T ∧ L7 T (n + 1 + nd v) (apn (putc f n (nI b)) (n + 1) v) ∧ FrW S T := by
  have hd := nd_le v
  obtain ⟨T, e1, l1, f1⟩ := q_w h (by omega) hb
  obtain ⟨T2, e2, l2, f2⟩ := wn_6 v T (n + 1) _ (by omega) hv l1 hn
  unfold spX7_writesBehind
  rw [e1, Option.bind_some, e2, Option.bind_some]
  exact ⟨T2, rfl, l2, f1.tr f2⟩
/-- a certificate's line -/
def lcA (f : Nat → Int32) (i : Nat) : Nat → Int32 := if i = 0 then putc f 0 (nI 82) else apn f 0 (i - 1)
def lcB (f : Nat → Int32) (i s a l : Nat) : Nat → Int32 := apn (putc (apn (putc (apn (putc (lcA f i) 1 (nI 62)) 2 s) (2 + nd s) (nI 64)) (2 + nd s + 1) a) (2 + nd s + 1 + nd a) (nI 60)) (2 + nd s + 1 + nd a + 1) l
def lcN (s a l : Nat) : Nat := 2 + nd s + 1 + nd a + 1 + nd l
section CERL
variable {D : Nat} {x : AX} {S : Wo}
theorem q_wc6 {c : Nat} (h : C6 x S) (wx : WX D x) (hD : D ≤ 900000) (hc : c < aM (xA x)) : ∃ T n f, spX6_writeCertificate (nI c) S = some (0, nI n, T) ∧ LB T n f ∧ FrL S T ∧ n ≤ 16 ∧
    ((vld (xA x) c = false ∧ n = lcN (aC (xA x) c).2.1 (aC (xA x) c).2.2.1 (aC (xA x) c).2.2.2 ∧ f = lcB (xW x) (aC (xA x) c).1 (aC (xA x) c).2.1 (aC (xA x) c).2.2.1 (aC (xA x) c).2.2.2) ∨
     (vld (xA x) c = true ∧ n = lcN (aC (xA x) c).2.1 (aC (xA x) c).2.2.1 (aC (xA x) c).2.2.2 + 1 ∧ f = putc (lcB (xW x) (aC (xA x) c).1 (aC (xA x) c).2.1 (aC (xA x) c).2.2.1 (aC (xA x) c).2.2.2) (lcN (aC (xA x) c).2.1 (aC (xA x) c).2.2.1 (aC (xA x) c).2.2.2) (nI 33))) := by
  have w := wx.1.1
  have hn := w.1.1
  have hm := w.1.2.1
  have hd := w.1.2.2.1
  obtain ⟨w1, w2, w3, w4⟩ := w.2.2.1 c hc
  have hs1 : nd (aC (xA x) c).2.1 = 1 := nd_1 (by omega)
  have ha1 : nd (aC (xA x) c).2.2.1 ≤ 2 := by
    by_cases e : (aC (xA x) c).2.2.1 < 10
    · rw [nd_1 e]; decide
    · rw [nd_2 e (by omega)]; exact Nat.le_refl _
  have hl1 := nd_le (aC (xA x) c).2.2.2
  have lb0 : LB S (xL x) (xW x) := h.2.2.2.2.1
  obtain ⟨T0, e0, l0', f0, g0⟩ := q_set0 lb0
  have l0 : LB T0 0 (xW x) := l0'
  have hcap : 16 ≤ T0.2.2.1.2.2 := by rcases l0.2.2.1 with q | q <;> omega
  have r0 := f0.rs h.1 (by decide)
  have step1 : ∃ T1, (if cIs (aC (xA x) c).1 = -1 then spJ4_append_cf468 82 T0 else spJ4_append_bf812 (cIs (aC (xA x) c).1) T0) = some T1 ∧ LB T1 1 (lcA (xW x) (aC (xA x) c).1) ∧ FrL T0 T1 ∧ T1.2.2 = T0.2.2 := by
    unfold lcA
    by_cases e : (aC (xA x) c).1 = 0
    · obtain ⟨T1, e1, l1, f1, g1⟩ := q_ac (b := 82) l0 (by omega) (by decide)
      rw [e, cIs_0, if_pos rfl, if_pos rfl]
      exact ⟨T1, e1, l1, f1, g1⟩
    · obtain ⟨T1, e1, l1, f1, g1⟩ := q_an (v := (aC (xA x) c).1 - 1) l0 (by omega) (by rw [nd_1 (by omega)]; omega)
      rw [cIs_p e, if_neg (q_m1 (by omega)), if_neg e]
      rw [nd_1 (by omega)] at l1
      exact ⟨T1, e1, l1, f1, g1⟩
  obtain ⟨T1, e1, l1, f1, g1⟩ := step1
  obtain ⟨T2, e2, l2, f2, g2⟩ := q_ac (b := 62) l1 (by rw [g1]; omega) (by decide)
  obtain ⟨T3, e3, l3, f3, g3⟩ := q_an (v := (aC (xA x) c).2.1) l2 (by omega) (by rw [g2, g1]; omega)
  obtain ⟨T4, e4, l4, f4, g4⟩ := q_ac (b := 64) l3 (by rw [g3, g2, g1]; omega) (by decide)
  obtain ⟨T5, e5, l5, f5, g5⟩ := q_an (v := (aC (xA x) c).2.2.1) l4 (by omega) (by rw [g4, g3, g2, g1]; omega)
  obtain ⟨T6, e6, l6, f6, g6⟩ := q_ac (b := 60) l5 (by rw [g5, g4, g3, g2, g1]; omega) (by decide)
  obtain ⟨T7, e7, l7, f7, g7⟩ := q_an (v := (aC (xA x) c).2.2.2) l6 (by omega) (by rw [g6, g5, g4, g3, g2, g1]; omega)
  have F2 := f1.tr f2
  have F4 := (F2.tr f3).tr f4
  have F6 := (F4.tr f5).tr f6
  have F7 := F6.tr f7
  have G2 := rs_s (F2.rs r0 (by decide)) w hc
  have G4 := rs_a (F4.rs r0 (by decide)) w hc
  have G6 := rs_l (F6.rs r0 (by decide)) w hc
  have R7 := F7.rs r0 (by decide)
  have eb : bt (bkd (xA x) (aD (xA x)) (cfd (xA x) (aD (xA x)))) c = vld (xA x) c := ifn_bt w hc
  have main : ∀ R, ((spX5_inForceNow 1 T7).bind (fun x18 => (spX6_has x18 (nI c) T7).bind (fun x19 => (if x19 = 0 then (spJ4_length_8abf5 T7).bind (fun x20 => some (0, x20, T7)) else (spJ4_append_cf468 33 T7).bind (fun S21 => (spJ4_length_8abf5 S21).bind (fun x22 => some (0, x22, S21))))))) = R → spX6_writeCertificate (nI c) S = R := by
    intro R hR
    unfold spX6_writeCertificate
    rw [q_reqC h.1 w]
    have hi : ixo (nI c) (aM (xA x)) = some c := by rw [ixo_nI (by omega), if_pos hc]
    rw [hi]
    show bx (some (0, 0, S)) _ = R
    rw [bx_0, e0, Option.bind_some]
    have gi : spX4_get 4 20 (nI c) T0 = some (cIs (aC (xA x) c).1) := rs_i r0 w hc
    have gs : spX4_get 6 20 (nI c) T2 = some (nI (aC (xA x) c).2.1) := G2
    have ga : spX4_get 8 20 (nI c) T4 = some (nI (aC (xA x) c).2.2.1) := G4
    have gl : spX4_get 10 20 (nI c) T6 = some (nI (aC (xA x) c).2.2.2) := G6
    have e2' : spJ4_append_cf468 62 T1 = some T2 := e2
    have e4' : spJ4_append_cf468 64 T3 = some T4 := e4
    have e6' : spJ4_append_cf468 60 T5 = some T6 := e6
    rw [gi, Option.bind_some, jn_e]
    dsimp only
    by_cases e : cIs (aC (xA x) c).1 = -1
    · rw [if_pos e] at e1
      rw [if_pos e, e1, Option.bind_some, e2', Option.bind_some, gs, Option.bind_some, e3, Option.bind_some, e4', Option.bind_some, ga, Option.bind_some, e5, Option.bind_some, e6', Option.bind_some, gl, Option.bind_some, e7, Option.bind_some]
      exact hR
    · rw [if_neg e] at e1
      rw [if_neg e, e1, Option.bind_some, e2', Option.bind_some, gs, Option.bind_some, e3, Option.bind_some, e4', Option.bind_some, ga, Option.bind_some, e5, Option.bind_some, e6', Option.bind_some, gl, Option.bind_some, e7, Option.bind_some]
      exact hR
  have hcap7 : 16 ≤ T7.2.2.1.2.2 := by rw [g7, g6, g5, g4, g3, g2, g1]; exact hcap
  have hlen : lcN (aC (xA x) c).2.1 (aC (xA x) c).2.2.1 (aC (xA x) c).2.2.2 ≤ 15 := by unfold lcN; omega
  have l7 : LB T7 (lcN (aC (xA x) c).2.1 (aC (xA x) c).2.2.1 (aC (xA x) c).2.2.2) (lcB (xW x) (aC (xA x) c).1 (aC (xA x) c).2.1 (aC (xA x) c).2.2.1 (aC (xA x) c).2.2.2) := l7
  cases hv : vld (xA x) c
  · refine ⟨T7, _, _, main _ ?_, l7, f0.tr F7, by omega, Or.inl ⟨rfl, rfl, rfl⟩⟩
    rw [q_ifn R7 w, Option.bind_some, q_has (by omega), Option.bind_some, eb, hv, if_pos b2_f, q_len l7]
    rfl
  · obtain ⟨T8, e8, l8, f8, g8⟩ := q_ac (b := 33) l7 (by omega) (by decide)
    have e8' : spJ4_append_cf468 33 T7 = some T8 := e8
    refine ⟨T8, _, _, main _ ?_, l8, (f0.tr F7).tr f8, by omega, Or.inr ⟨rfl, rfl, rfl⟩⟩
    rw [q_ifn R7 w, Option.bind_some, q_has (by omega), Option.bind_some, eb, hv, if_neg (show ¬ b2 true = 0 from by decide), e8', Option.bind_some, q_len l8]
    rfl
theorem q_wc7 {c : Nat} (h : C7 x S) (wx : WX D x) (hD : D ≤ 900000) (hc : c < aM (xA x)) : ∃ T n f, spX7_writeCertificate (nI c) S = some (nI n, T) ∧ L7 T n f ∧ FrW (flS S 0) T ∧
    ((vld (xA x) c = false ∧ n = lcN (aC (xA x) c).2.1 (aC (xA x) c).2.2.1 (aC (xA x) c).2.2.2 ∧ f = lcB (xW x) (aC (xA x) c).1 (aC (xA x) c).2.1 (aC (xA x) c).2.2.1 (aC (xA x) c).2.2.2) ∨
     (vld (xA x) c = true ∧ n = lcN (aC (xA x) c).2.1 (aC (xA x) c).2.2.1 (aC (xA x) c).2.2.2 + 1 ∧ f = putc (lcB (xW x) (aC (xA x) c).1 (aC (xA x) c).2.1 (aC (xA x) c).2.2.1 (aC (xA x) c).2.2.2) (lcN (aC (xA x) c).2.1 (aC (xA x) c).2.2.1 (aC (xA x) c).2.2.2) (nI 33))) := by
  have w := wx.1.1
  have hn := w.1.1
  have hm := w.1.2.1
  have hd := w.1.2.2.1
  obtain ⟨w1, w2, w3, w4⟩ := w.2.2.1 c hc
  have hs1 : nd (aC (xA x) c).2.1 = 1 := nd_1 (by omega)
  have ha1 : nd (aC (xA x) c).2.2.1 ≤ 2 := by
    by_cases e : (aC (xA x) c).2.2.1 < 10
    · rw [nd_1 e]; decide
    · rw [nd_2 e (by omega)]; exact Nat.le_refl _
  have hl1 := nd_le (aC (xA x) c).2.2.2
  have g := (h.fl 0).1
  have l0 := L7_0 (flS S 0) (xW x)
  have f0 := FrW_0 (flS S 0)
  have r0 := f0.rg g
  have step1 : ∃ T1, spX7_writes (if (0 : Int32) ≤ cIs (aC (xA x) c).1 then 48 + cIs (aC (xA x) c).1 else 82) (pI (flS S 0) 166 17 0) = some T1 ∧ L7 T1 1 (lcA (xW x) (aC (xA x) c).1) ∧ FrW (pI (flS S 0) 166 17 0) T1 := by
    unfold lcA
    by_cases e : (aC (xA x) c).1 = 0
    · obtain ⟨T1, e1, l1, f1⟩ := q_w (b := 82) l0 (by decide) (by decide)
      rw [e, cIs_0, if_neg (by decide), if_pos rfl]
      exact ⟨T1, e1, l1, f1⟩
    · obtain ⟨T1, e1, l1, f1⟩ := q_w (b := 48 + ((aC (xA x) c).1 - 1) % 10) l0 (by decide) (by omega)
      have ea : (48 : Int32) + nI ((aC (xA x) c).1 - 1) = nI (48 + ((aC (xA x) c).1 - 1) % 10) := by
        rw [Nat.mod_eq_of_lt (by omega)]
        show nI 48 + nI ((aC (xA x) c).1 - 1) = _
        rw [nI_add]
      rw [cIs_p e, if_pos (nI_pos' (by omega)), if_neg e, ea]
      exact ⟨T1, e1, l1.eq (apn_1 (by omega)), f1⟩
  obtain ⟨T1, e1, l1, f1⟩ := step1
  obtain ⟨T2, e2, l2, f2⟩ := q_wb (b := 62) (v := (aC (xA x) c).2.1) l1 (by omega) (by decide) (by omega)
  obtain ⟨T3, e3, l3, f3⟩ := q_wb (b := 64) (v := (aC (xA x) c).2.2.1) l2 (by omega) (by decide) (by omega)
  obtain ⟨T4, e4, l4, f4⟩ := q_wb (b := 60) (v := (aC (xA x) c).2.2.2) l3 (by omega) (by decide) (by omega)
  have e2' : spX7_writesBehind 62 (nI (aC (xA x) c).2.1) T1 = some T2 := e2
  have e3' : spX7_writesBehind 64 (nI (aC (xA x) c).2.2.1) T2 = some T3 := e3
  have e4' : spX7_writesBehind 60 (nI (aC (xA x) c).2.2.2) T3 = some T4 := e4
  have r1 := f1.rg r0
  have r2 := f2.rg r1
  have r3 := f3.rg r2
  have r4 := f4.rg r3
  have hlen : lcN (aC (xA x) c).2.1 (aC (xA x) c).2.2.1 (aC (xA x) c).2.2.2 ≤ 15 := by unfold lcN; omega
  have l4 : L7 T4 (lcN (aC (xA x) c).2.1 (aC (xA x) c).2.2.1 (aC (xA x) c).2.2.2) (lcB (xW x) (aC (xA x) c).1 (aC (xA x) c).2.1 (aC (xA x) c).2.2.1 (aC (xA x) c).2.2.2) := l4
  have F4 := (((f0.tr f1).tr f2).tr f3).tr f4
  have main : ∀ R, (spX7_isValid (nI c) T4).bind (fun x15 => (if x15 = 0 then some (T4.1 166 17, T4) else (spX7_writes 33 T4).bind (fun S16 => some (S16.1 166 17, S16)))) = R → spX7_writeCertificate (nI c) S = R := by
    intro R hR
    unfold spX7_writeCertificate
    rw [q_lost7 h.1 w]
    have hi : ixo (nI c) (aM (xA x)) = some c := by rw [ixo_nI (by omega), if_pos hc]
    rw [hi]
    show bd2 (some (0, flS S 0)) _ = R
    rw [bd2_s, if_pos rfl, wr_eq, rg_i r0 w hc, Option.bind_some, jn_e]
    dsimp only
    by_cases e : (0 : Int32) ≤ cIs (aC (xA x) c).1
    · rw [if_pos e] at e1
      rw [if_pos e, Option.bind_some, e1, Option.bind_some, rg_s r1 w hc, Option.bind_some, e2', Option.bind_some, rg_a r2 w hc, Option.bind_some, e3', Option.bind_some, rg_l r3 w hc, Option.bind_some, e4', Option.bind_some]
      exact hR
    · rw [if_neg e] at e1
      rw [if_neg e, e1, Option.bind_some, rg_s r1 w hc, Option.bind_some, e2', Option.bind_some, rg_a r2 w hc, Option.bind_some, e3', Option.bind_some, rg_l r3 w hc, Option.bind_some, e4', Option.bind_some]
      exact hR
  cases hv : vld (xA x) c
  · refine ⟨T4, _, _, main _ ?_, l4, F4, Or.inl ⟨rfl, rfl, rfl⟩⟩
    rw [q_valid7 r4 w hc, Option.bind_some, hv, if_pos b2_f, l4.1]
  · obtain ⟨T5, e5, l5, f5⟩ := q_w (b := 33) l4 (by omega) (by decide)
    have e5' : spX7_writes 33 T4 = some T5 := e5
    refine ⟨T5, _, _, main _ ?_, l5, F4.tr f5, Or.inr ⟨rfl, rfl, rfl⟩⟩
    rw [q_valid7 r4 w hc, Option.bind_some, hv, if_neg (show ¬ b2 true = 0 from by decide), e5', Option.bind_some, l5.1]
theorem st_writeCertificate (p : Int32) (h : Inv D x S) (hD : D ≤ 900000) : StI (spL_writeCertificate p) (spX7_writeCertificate p) S D := by
  have w := h.1.1.1
  cases hx : ixo p (aM (xA x)) with
  | none =>
    refine stQ h 1 0 0 ?_ (fun T hT => ?_) (fun q => absurd q (by decide))
    · unfold spL_writeCertificate spX6_writeCertificate
      rw [q_reqC h.2.1.1 w, hx]
      rfl
    · unfold spX7_writeCertificate
      rw [q_lost7 hT.2.2.1 w, hx]
      show bd2 (some (1, flS T (nI 1))) _ = _
      rw [bd2_s, if_neg i1_0]
  | some c =>
    obtain ⟨h1, rfl⟩ := ixo_some hx
    obtain ⟨T, n, f, e1, l1, f1, hn, hc⟩ := q_wc6 h.2.1 h.1 hD h1
    have h7 := h.2.2.fr (f1.f6.pL (v := (nI n).toInt64))
    obtain ⟨T2, n2, f2, e2, l2, f2', hc2⟩ := q_wc7 (S := pL T (nI n).toInt64) h7 h.1 hD h1
    have hnn : n2 = n ∧ f2 = f := by
      rcases hc with ⟨a1, a2, a3⟩ | ⟨a1, a2, a3⟩ <;> rcases hc2 with ⟨b1, b2, b3⟩ | ⟨b1, b2, b3⟩
      · exact ⟨by rw [a2, b2], by rw [a3, b3]⟩
      · rw [a1] at b1; cases b1
      · rw [a1] at b1; cases b1
      · exact ⟨by rw [a2, b2], by rw [a3, b3]⟩
    obtain ⟨rfl, rfl⟩ := hnn
    have c6 : C6 (setL x n2 f2) (pL T (nI n2).toInt64) := (h.2.1.lin f1 l1 : C6 (setL x n2 f2) T)
    refine ⟨0, _, nI n2, T2, setL x n2 f2, ?_, e2, ?_, fun _ => ?_, wx_lin h.1 l1 (by omega), c6.fr ((flS_fr _ 0).tr f2'.f7), (h7.fl 0).lin f2' l2⟩
    · unfold spL_writeCertificate
      rw [e1, bxc_0]
      rfl
    · rw [f2'.1 9 (by decide), flS_9]; rfl
    · rw [f2'.2.2.2]; rfl
end CERL

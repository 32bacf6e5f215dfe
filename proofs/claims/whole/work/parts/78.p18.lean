/-! ===== the output line: the class's builder, the reference's row ===== -/
def LB (S : Wo) (n : Nat) (f : Nat → Int32) : Prop := S.1 164 1 = 0 ∧ S.1 164 3 = nI n ∧ (S.2.2.1.2.2 = 16 ∨ S.2.2.1.2.2 = 34) ∧ n ≤ S.2.2.1.2.2 ∧ (∀ i, i < n → S.2.1 165 i = f i) ∧ ∀ i, i < S.2.2.1.2.2 → ∃ b, b < 128 ∧ S.2.1 165 i = nI b
def FrL (S T : Wo) : Prop := (∀ a, a ≠ 164 → T.1 a = S.1 a) ∧ (∀ a, a ≠ 165 → T.2.1 a = S.2.1 a) ∧ T.2.2.1.1 = S.2.2.1.1 ∧ T.2.2.2 = S.2.2.2
theorem FrL.rf {S : Wo} : FrL S S := ⟨fun _ _ => rfl, fun _ _ => rfl, rfl, rfl⟩
theorem FrL.tr {S T U : Wo} (h1 : FrL S T) (h2 : FrL T U) : FrL S U := ⟨fun a h => (h2.1 a h).trans (h1.1 a h), fun a h => (h2.2.1 a h).trans (h1.2.1 a h), h2.2.2.1.trans h1.2.2.1, h2.2.2.2.trans h1.2.2.2⟩
theorem FrL.pI {S T : Wo} {k : Nat} {v : Int32} (h : FrL S T) : FrL S (pI T 164 k v) := h.tr ⟨fun a ha => pI_ne ha, fun _ _ => rfl, rfl, rfl⟩
theorem FrL.pF {S T : Wo} {f : Nat → Int32} (h : FrL S T) : FrL S (pF T 165 f) := h.tr ⟨fun _ _ => rfl, fun a ha => pF_ne ha, rfl, rfl⟩
theorem FrL.f6 {S T : Wo} (h : FrL S T) : Fr6 S T := ⟨fun a q => h.1 a (by omega), fun a q => h.2.1 a (by omega)⟩
theorem FrL.rs {S T : Wo} {o : Nat} {A : As} (h : FrL S T) (hA : RS S o A) (ho : o + 12 < 164) : RS T o A := hA.cong (fun k => by rw [h.1 o (by omega)]) (fun j hj => h.2.1 _ (by omega))
theorem lb_cap {S : Wo} {n : Nat} {f : Nat → Int32} (h : LB S n f) : (Int32.ofNat S.2.2.1.2.2) >>> (S.1 164 1 &&& 31) = nI S.2.2.1.2.2 := by
  rw [h.1]
  rcases h.2.2.1 with e | e <;> (rw [e]; decide)
theorem q_ens {S : Wo} {n m : Nat} {f : Nat → Int32} (h : LB S n f) (hm : m ≤ S.2.2.1.2.2) : spJ5_ensureCapacityInternal_d00df (nI m) S = some S := by
  unfold spJ5_ensureCapacityInternal_d00df
  have hc : S.2.2.1.2.2 ≤ 34 := by rcases h.2.2.1 with e | e <;> omega
  rw [if_pos rfl, lb_cap h]
  simp only [nm]
  rw [if_pos]
  have e : nI m - nI S.2.2.1.2.2 = Int32.ofInt ((m : Int) - (S.2.2.1.2.2 : Int)) := by
    rw [Int32.ofInt_sub, Int32.ofInt_eq_ofNat, Int32.ofInt_eq_ofNat]; rfl
  rw [e]
  have e0 : (0 : Int32) = Int32.ofInt 0 := rfl
  rw [e0, Int32.ofInt_le_iff_le (by show (-2147483648 : Int) ≤ _; omega) (by show _ ≤ (2147483647 : Int); omega) (by decide) (by decide)]
  omega
theorem q_set0 {S : Wo} {n : Nat} {f : Nat → Int32} (h : LB S n f) : ∃ T, spJ4_setLength_d00df 0 S = some T ∧ LB T 0 f ∧ FrL S T ∧ T.2 = S.2 := by
  unfold spJ4_setLength_d00df spJ5_setLength_d00df
  have hc : n ≤ 34 := by have := h.2.2.2.1; rcases h.2.2.1 with e | e <;> omega
  have e1 : spJ5_ensureCapacityInternal_d00df 0 S = some S := q_ens h (m := 0) (Nat.zero_le _)
  rw [if_pos (by decide), e1, Option.bind_some, h.2.1, if_pos (nI_pos' (by omega))]
  by_cases e : n = 0
  · subst e
    rw [if_pos (by decide), wr_eq, Option.bind_some]
    refine ⟨_, rfl, ⟨?_, ?_, h.2.2.1, Nat.zero_le _, fun i hi => absurd hi (Nat.not_lt_zero i), h.2.2.2.2.2⟩, FrL.rf.pI, rfl⟩
    · rw [pI_k (by decide)]; exact h.1
    · rw [pI_at]; rfl
  · rw [if_neg (nI_nle (by omega) (by omega)), wr_eq, wr_eq, Option.bind_some]
    refine ⟨_, rfl, ⟨?_, ?_, h.2.2.1, Nat.zero_le _, fun i hi => absurd hi (Nat.not_lt_zero i), h.2.2.2.2.2⟩, FrL.rf.pI.pI, rfl⟩
    · rw [pI_k (by decide), pI_k (by decide)]; exact h.1
    · rw [pI_at]; rfl
theorem byt_c : ∀ b, b < 128 → vp_nar .byte ((nI b).toInt8.toInt32) = nI b := by decide +kernel
theorem byt_d : ∀ b, b < 128 → vp_nar .byte (nI b) = nI b := by decide +kernel
theorem chr_c : ∀ b, b < 128 → vp_nar .char (((nI b).toUInt32 % 65536).toInt32) = nI b := by decide +kernel
theorem chr_d : ∀ b, b < 128 → ((nI b).toUInt32 % 65536).toInt32 = nI b := by decide +kernel
theorem LB.put {S : Wo} {n b : Nat} {f : Nat → Int32} (h : LB S n f) (hn : n + 1 ≤ S.2.2.1.2.2) (hb : b < 128) : LB (pF (pI S 164 3 (nI (n + 1))) 165 (upd (S.2.1 165) n (nI b))) (n + 1) (putc f n (nI b)) := by
  obtain ⟨h1, h2, h3, h4, h5, h6⟩ := h
  refine ⟨?_, ?_, h3, hn, fun i hi => ?_, fun i hi => ?_⟩
  · rw [pF_1, pI_k (by decide)]; exact h1
  · rw [pF_1, pI_at]
  · rw [pF_at]
    by_cases e : i = n
    · subst e; rw [u_at, putc_at]
    · rw [u_ne e, putc_ne e]; exact h5 i (by omega)
  · rw [pF_at]
    by_cases e : i = n
    · subst e; rw [u_at]; exact ⟨b, hb, rfl⟩
    · rw [u_ne e]; exact h6 i hi
/-- a character appended where there is room -/
theorem q_ac {S : Wo} {n b : Nat} {f : Nat → Int32} (h : LB S n f) (hn : n + 1 ≤ S.2.2.1.2.2) (hb : b < 128) : ∃ T, spJ4_append_cf468 (nI b) S = some T ∧ LB T (n + 1) (putc f n (nI b)) ∧ FrL S T ∧ T.2.2 = S.2.2 := by
  have hc : S.2.2.1.2.2 ≤ 34 := by rcases h.2.2.1 with e | e <;> omega
  refine ⟨_, ?_, LB.put h hn hb, FrL.rf.pI.pF, rfl⟩
  unfold spJ4_append_cf468 spJ5_append_3fe6f spJ5_isLatin1_aae02 spJ1_canEncode_fc78d
  rw [h.2.1, nI_1, q_ens h hn, Option.bind_some, h.1, if_pos rfl, rz_1, Option.bind_some, if_neg i1_0, if_neg (show ¬ (255 : Int32) < nI b from show ¬ nI 255 < nI b from nI_nlt (by omega) (by omega)), Option.bind_some, if_neg i1_0, h.2.1, wr_eq, nI_1, if_pos (show S.2.2.1.2.1 = (pI S 164 3 (nI (n + 1))).2.2.1.2.1 from rfl), if_pos (q_in (by show n < S.2.2.1.2.2; omega) (by show S.2.2.1.2.2 < 2 ^ 31; omega)), q_ix (by omega), byt_c b hb]
  rfl
theorem bz_some {ρ : Type} {F : Nat → Wo} {g : Wo → Option ρ} {r : Nat → ρ} (h : ∀ z, g (F z) = some (r z)) : bz (some F) g = some r := by
  unfold bz
  rw [Option.bind_some]
  exact allz_of h
theorem byt16_of {f : Nat → Int32} (h : ∀ i, i < 16 → ∃ b, b < 128 ∧ f i = nI b) : byt16 f = true := by
  unfold byt16
  rw [List.all_eq_true]
  intro i hi
  obtain ⟨b, hb, e⟩ := h i (List.mem_range.mp hi)
  rw [e]
  exact (by decide +kernel : ∀ b, b < 128 → fits .byte (.int (nI b)) = true) b hb
/-- .. where there is none: the row grows, once -/
theorem q_acg {S : Wo} {b : Nat} {f : Nat → Int32} (h : LB S 16 f) (h16 : S.2.2.1.2.2 = 16) (hb : b < 128) : spJ4_append_cf468 (nI b) S = none ∧ ∃ F : Nat → Wo, spJ4_append_cf468_g (nI b) S = some F ∧ ∀ z, LB (F z) 17 (putc f 16 (nI b)) ∧ FrL S (F z) ∧ (F z).2.2.1.2.2 = 34 := by
  have hb16 := byt16_of (f := S.2.1 165) (fun i hi => h.2.2.2.2.2 i (by omega))
  have hcap := lb_cap h
  rw [h16] at hcap
  constructor
  · unfold spJ4_append_cf468 spJ5_append_3fe6f spJ5_ensureCapacityInternal_d00df
    rw [if_pos rfl, h16, hcap]
    simp only [nm]
    rw [h.2.1, if_neg (by decide)]
    rfl
  · have hg : ∀ z, LB (pB S z 34 (gF S)) 16 f := by
      intro z
      refine ⟨h.1, h.2.1, Or.inr rfl, by show 16 ≤ 34; decide, fun i hi => ?_, fun i hi => ?_⟩
      · have : (pB S z 34 (gF S)).2.1 165 i = S.2.1 165 i := by
          show (if 165 = 165 then gF S else S.2.1 165) i = _
          rw [if_pos rfl]
          unfold gF va_cpy
          simp [hi]
        rw [this]
        exact h.2.2.2.2.1 i hi
      · have : (pB S z 34 (gF S)).2.1 165 i = if i < 16 then S.2.1 165 i else 0 := by
          show (if 165 = 165 then gF S else S.2.1 165) i = _
          rw [if_pos rfl]
          unfold gF va_cpy
          simp
        rw [this]
        by_cases e : i < 16
        · rw [if_pos e]
          exact h.2.2.2.2.2 i (by omega)
        · rw [if_neg e]
          exact ⟨0, by decide, rfl⟩
    have fg : ∀ z, FrL S (pB S z 34 (gF S)) := fun z => ⟨fun _ _ => rfl, fun a ha => if_neg ha, rfl, rfl⟩
    have e1 : spJ5_ensureCapacityInternal_d00df_g (S.1 164 3 + 1) S = some (fun z => pB S z 34 (gF S)) := by
      unfold spJ5_ensureCapacityInternal_d00df_g
      rw [if_pos rfl, h16, hcap]
      simp only [nm]
      rw [h.2.1, if_neg (by decide)]
      have e2 : spJ5_newCapacity_0f7a4 (nI 16 + 1) S = some 34 := by
        unfold spJ5_newCapacity_0f7a4 spJ8_newLength_cabcc
        rw [if_pos rfl, h16, h.1]
        rfl
      rw [e2, Option.bind_some, h.1]
      rw [if_pos ⟨by decide, by first | rfl | trivial, by first | rfl | trivial, hb16⟩]
      exact allz_of (fun z => rfl)
    refine ⟨fun z => pF (pI (pB S z 34 (gF S)) 164 3 (nI 17)) 165 (upd ((pB S z 34 (gF S)).2.1 165) 16 (nI b)), ?_, fun z => ⟨LB.put (hg z) (by show 16 + 1 ≤ 34; decide) hb, (fg z).pI.pF, rfl⟩⟩
    have e3 : spJ5_append_3fe6f_g (nI b) S = some (fun z => pF (pI (pB S z 34 (gF S)) 164 3 (nI 17)) 165 (upd ((pB S z 34 (gF S)).2.1 165) 16 (nI b))) := by
      unfold spJ5_append_3fe6f_g
      rw [e1]
      refine bz_some (fun z => ?_)
      have hz := hg z
      unfold spJ5_isLatin1_aae02 spJ1_canEncode_fc78d
      rw [hz.1, if_pos rfl, rz_1, Option.bind_some, if_neg i1_0, if_neg (show ¬ (255 : Int32) < nI b from show ¬ nI 255 < nI b from nI_nlt (by omega) (by omega)), Option.bind_some, if_neg i1_0, hz.2.1, wr_eq, nI_1, if_pos (show (pB S z 34 (gF S)).2.2.1.2.1 = (pI (pB S z 34 (gF S)) 164 3 (nI (16 + 1))).2.2.1.2.1 from rfl), if_pos (q_in (by show 16 < 34; decide) (by show 34 < 2 ^ 31; decide)), q_ix (by omega), byt_c b hb]
      rfl
    unfold spJ4_append_cf468_g
    rw [e3]
    exact bz_some (fun z => rfl)

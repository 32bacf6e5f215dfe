theorem ppN_ct {x : Nat} (hx : x < 2 ^ 20) : ppN x = fb_ct (fun i => x.testBit i) 20 := by
  have h1 := itc_all (pop_h (x / 2 ^ 16) (by omega)) (x % 2 ^ 16) (by omega)
  have h2 := lfp_eq h1
  rw [show x / 2 ^ 16 * 2 ^ 16 + x % 2 ^ 16 = x by omega] at h2
  rw [h2, show (20 : Nat) = 16 + 4 from rfl, fb_ct_split]
  have e1 : fb_ct (fun i => (x % 2 ^ 16).testBit i) 16 = fb_ct (fun i => x.testBit i) 16 := fb_ct_cong (fun k hk => by
    rw [Nat.testBit_mod_two_pow, decide_eq_true hk, Bool.true_and])
  have e2 : fb_ct (fun i => (x / 2 ^ 16).testBit i) 4 = fb_ct (fun i => x.testBit (16 + i)) 4 := fb_ct_cong (fun k hk => by
    rw [Nat.testBit_div_two_pow, Nat.add_comm])
  rw [e1, e2]
  omega
theorem q_popN {x : Nat} (hx : x < 2 ^ 20) (S : Wo) : spJ6_bitCount_0f7a4 (nI x) S = some (nI (ppN x)) := by
  have l1 : ∀ a b : Nat, a &&& b ≤ a := fun a b => Nat.and_le_left
  have l2 : ∀ a b : Nat, a >>> b ≤ a := fun a b => by rw [Nat.shiftRight_eq_div_pow]; exact Nat.div_le_self _ _
  have u : ∀ j k : Nat, k < 2 ^ 31 → j < 32 → ((nI k).toUInt32 >>> ((nI j).toUInt32 &&& Int32.toUInt32 31)).toInt32 = nI (k >>> j) := fun j k hk hj => q_ush hk hj
  unfold spJ6_bitCount_0f7a4 ppN
  simp only [nm]
  have s1 : nI x - ((((nI x) : Int32).toUInt32 >>> ((1 : Int32).toUInt32 &&& Int32.toUInt32 31)).toInt32 &&& (1431655765 : Int32)) = nI (x - ((x >>> 1) &&& 1431655765)) := by
    show nI x - ((((nI x) : Int32).toUInt32 >>> ((nI 1).toUInt32 &&& Int32.toUInt32 31)).toInt32 &&& nI 1431655765) = _
    rw [u 1 x (by omega) (by omega), q_and, q_sub (Nat.le_trans (l1 _ _) (l2 _ _))]
  rw [s1]
  have b1 : x - ((x >>> 1) &&& 1431655765) < 2 ^ 20 := by omega
  generalize x - ((x >>> 1) &&& 1431655765) = y1 at b1 ⊢
  have s2 : (nI y1 &&& (858993459 : Int32)) + ((((nI y1) : Int32).toUInt32 >>> ((2 : Int32).toUInt32 &&& Int32.toUInt32 31)).toInt32 &&& (858993459 : Int32)) = nI ((y1 &&& 858993459) + ((y1 >>> 2) &&& 858993459)) := by
    show (nI y1 &&& nI 858993459) + ((((nI y1) : Int32).toUInt32 >>> ((nI 2).toUInt32 &&& Int32.toUInt32 31)).toInt32 &&& nI 858993459) = _
    rw [u 2 y1 (by omega) (by omega), q_and, q_and, nI_add]
  rw [s2]
  have b2 : (y1 &&& 858993459) + ((y1 >>> 2) &&& 858993459) < 2 ^ 21 := by
    have a1 := l1 y1 858993459
    have a2 := l1 (y1 >>> 2) 858993459
    have a3 := l2 y1 2
    omega
  generalize (y1 &&& 858993459) + ((y1 >>> 2) &&& 858993459) = y2 at b2 ⊢
  have s3 : (nI y2 + (((nI y2) : Int32).toUInt32 >>> ((4 : Int32).toUInt32 &&& Int32.toUInt32 31)).toInt32) &&& (252645135 : Int32) = nI ((y2 + (y2 >>> 4)) &&& 252645135) := by
    show (nI y2 + (((nI y2) : Int32).toUInt32 >>> ((nI 4).toUInt32 &&& Int32.toUInt32 31)).toInt32) &&& nI 252645135 = _
    rw [u 4 y2 (by omega) (by omega), nI_add, q_and]
  rw [s3]
  have b3 : (y2 + (y2 >>> 4)) &&& 252645135 < 2 ^ 22 := by
    have a1 := l1 (y2 + (y2 >>> 4)) 252645135
    have a3 := l2 y2 4
    omega
  generalize (y2 + (y2 >>> 4)) &&& 252645135 = y3 at b3 ⊢
  have s4 : nI y3 + (((nI y3) : Int32).toUInt32 >>> ((8 : Int32).toUInt32 &&& Int32.toUInt32 31)).toInt32 = nI (y3 + (y3 >>> 8)) := by
    show nI y3 + (((nI y3) : Int32).toUInt32 >>> ((nI 8).toUInt32 &&& Int32.toUInt32 31)).toInt32 = _
    rw [u 8 y3 (by omega) (by omega), nI_add]
  rw [s4]
  have b4 : y3 + (y3 >>> 8) < 2 ^ 23 := by
    have a3 := l2 y3 8
    omega
  generalize y3 + (y3 >>> 8) = y4 at b4 ⊢
  have s5 : nI y4 + (((nI y4) : Int32).toUInt32 >>> ((16 : Int32).toUInt32 &&& Int32.toUInt32 31)).toInt32 = nI (y4 + (y4 >>> 16)) := by
    show nI y4 + (((nI y4) : Int32).toUInt32 >>> ((nI 16).toUInt32 &&& Int32.toUInt32 31)).toInt32 = _
    rw [u 16 y4 (by omega) (by omega), nI_add]
  rw [s5]
  show some (nI (y4 + (y4 >>> 16)) &&& nI 63) = _
  rw [q_and]
theorem bt_nI {n i : Nat} (hi : i < 32) : bt (nI n) i = n.testBit i := by
  show (BitVec.ofNat 32 n).getLsbD i = n.testBit i
  rw [BitVec.getLsbD_ofNat, decide_eq_true hi, Bool.true_and]
theorem nI_toNat (x : Int32) : x = nI x.toBitVec.toNat := by
  apply Int32.toBitVec_inj.1
  show x.toBitVec = BitVec.ofNat 32 x.toBitVec.toNat
  simp
theorem q_pop {x : Int32} (h : ∀ i, i < 32 → bt x i = true → i < 20) (S : Wo) : spJ6_bitCount_0f7a4 x S = some (nI (fb_ct (bt x) 20)) := by
  have hx : x.toBitVec.toNat < 2 ^ 20 := Nat.lt_pow_two_of_testBit _ (fun i hi => by
    rcases Nat.lt_or_ge i 32 with q | q
    · cases hb : bt x i
      · exact hb
      · have := h i q hb
        omega
    · exact b_big (x := x) q)
  have e := nI_toNat x
  have e2 : fb_ct (bt x) 20 = ppN x.toBitVec.toNat := by
    rw [ppN_ct hx]
    exact fb_ct_cong (fun k hk => rfl)
  rw [e2]
  have := q_popN hx S
  rw [← e] at this
  exact this

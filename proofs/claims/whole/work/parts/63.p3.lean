/-! ===== the number of bits of a set ===== -/
theorem q_cnt : ∀ j : Fin 32, (UInt32.ofNat j.val &&& Int32.toUInt32 31).toNat % 32 = j.val := by decide +kernel
theorem q_ush {k j : Nat} (hk : k < 2 ^ 31) (hj : j < 32) : ((nI k).toUInt32 >>> ((nI j).toUInt32 &&& Int32.toUInt32 31)).toInt32 = nI (k >>> j) := by
  have hs : k >>> j ≤ k := by
    rw [Nat.shiftRight_eq_div_pow]
    exact Nat.div_le_self _ _
  have e2 : UInt32.ofNat k >>> (UInt32.ofNat j &&& Int32.toUInt32 31) = UInt32.ofNat (k >>> j) := by
    apply UInt32.toNat_inj.1
    have h1 : (UInt32.ofNat k).toNat = k := Nat.mod_eq_of_lt (by omega)
    have h2 : (UInt32.ofNat (k >>> j)).toNat = k >>> j := Nat.mod_eq_of_lt (by omega)
    rw [UInt32.toNat_shiftRight, q_cnt ⟨j, hj⟩, h1, h2]
  show (UInt32.ofNat k >>> (UInt32.ofNat j &&& Int32.toUInt32 31)).toInt32 = _
  rw [e2]
  rfl
theorem q_and (a b : Nat) : nI a &&& nI b = nI (a &&& b) := by
  apply Int32.toBitVec_inj.1
  show BitVec.ofNat 32 a &&& BitVec.ofNat 32 b = BitVec.ofNat 32 (a &&& b)
  apply BitVec.eq_of_getLsbD_eq
  intro i hi
  simp [hi]
def frc (n : Nat) (f : Nat → Bool) : Bool := match n with
  | 0 => f 0
  | m + 1 => f (Nat.succ m)
theorem frc_eq (n : Nat) (f : Nat → Bool) : frc n f = f n := by cases n <;> rfl
def lfp (b c : Nat) : Bool := frc b (fun b => frc (Nat.sub b (Nat.land (Nat.shiftRight b 1) 1431655765)) (fun y1 => frc (Nat.add (Nat.land y1 858993459) (Nat.land (Nat.shiftRight y1 2) 858993459)) (fun y2 => frc (Nat.land (Nat.add y2 (Nat.shiftRight y2 4)) 252645135) (fun y3 => frc (Nat.add y3 (Nat.shiftRight y3 8)) (fun y4 => frc (Nat.add y4 (Nat.shiftRight y4 16)) (fun y5 => Nat.beq (Nat.land y5 63) c))))))
def ppN (x : Nat) : Nat :=
  let y1 := x - ((x >>> 1) &&& 1431655765)
  let y2 := (y1 &&& 858993459) + ((y1 >>> 2) &&& 858993459)
  let y3 := (y2 + (y2 >>> 4)) &&& 252645135
  let y4 := y3 + (y3 >>> 8)
  let y5 := y4 + (y4 >>> 16)
  y5 &&& 63
theorem lfp_eq {b c : Nat} (h : lfp b c = true) : ppN b = c := by
  unfold lfp at h
  simp only [frc_eq] at h
  exact Nat.eq_of_beq_eq_true h
noncomputable def itc (lf : Nat → Nat → Bool) (n : Nat) : Nat → Nat → Bool := Nat.rec (motive := fun _ => Nat → Nat → Bool) lf (fun _ ih b c => ih (Nat.mul 2 b) c && ih (Nat.succ (Nat.mul 2 b)) (Nat.succ c)) n
theorem itc_all {lf : Nat → Nat → Bool} : ∀ {n b c : Nat}, itc lf n b c = true → ∀ z, z < 2 ^ n → lf (b * 2 ^ n + z) (c + fb_ct (fun i => z.testBit i) n) = true
  | 0, b, c, h, z, hz => by
    have e : z = 0 := by omega
    subst e
    show lf (b * 2 ^ 0 + 0) (c + 0) = true
    rw [Nat.pow_zero, Nat.mul_one, Nat.add_zero, Nat.add_zero]
    exact h
  | n + 1, b, c, h, z, hz => by
    have h' : (itc lf n (2 * b) c && itc lf n (2 * b + 1) (c + 1)) = true := h
    rw [Bool.and_eq_true] at h'
    have hp : 2 ^ (n + 1) = 2 ^ n + 2 ^ n := by rw [Nat.pow_succ]; omega
    rw [fb_ct_succ]
    rcases Nat.lt_or_ge z (2 ^ n) with q | q
    · have := itc_all h'.1 z q
      rw [Nat.testBit_lt_two_pow q, if_neg (by decide), Nat.add_zero]
      have e : 2 * b * 2 ^ n = b * 2 ^ (n + 1) := by rw [hp, Nat.mul_add]; rw [Nat.mul_assoc]; omega
      rw [e] at this
      exact this
    · obtain ⟨y, rfl⟩ : ∃ y, z = 2 ^ n + y := ⟨z - 2 ^ n, by omega⟩
      have hy : y < 2 ^ n := by omega
      have := itc_all h'.2 y hy
      have e1 : fb_ct (fun i => (2 ^ n + y).testBit i) n = fb_ct (fun i => y.testBit i) n := fb_ct_cong (fun k hk => Nat.testBit_two_pow_add_gt hk y)
      have e2 : (2 ^ n + y).testBit n = true := by rw [Nat.testBit_two_pow_add_eq, Nat.testBit_lt_two_pow hy]; rfl
      rw [e1, e2, if_pos rfl]
      have e : (2 * b + 1) * 2 ^ n + y = b * 2 ^ (n + 1) + (2 ^ n + y) := by
        rw [hp, Nat.mul_add, Nat.add_mul, Nat.mul_assoc]; omega
      rw [e] at this
      rw [show c + (fb_ct (fun i => y.testBit i) n + 1) = c + 1 + fb_ct (fun i => y.testBit i) n by omega]
      exact this
theorem pop_0 : itc lfp 16 0 0 = true := by decide +kernel
theorem pop_1 : itc lfp 16 1 1 = true := by decide +kernel
theorem pop_2 : itc lfp 16 2 1 = true := by decide +kernel
theorem pop_3 : itc lfp 16 3 2 = true := by decide +kernel
theorem pop_4 : itc lfp 16 4 1 = true := by decide +kernel
theorem pop_5 : itc lfp 16 5 2 = true := by decide +kernel
theorem pop_6 : itc lfp 16 6 2 = true := by decide +kernel
theorem pop_7 : itc lfp 16 7 3 = true := by decide +kernel
theorem pop_8 : itc lfp 16 8 1 = true := by decide +kernel
theorem pop_9 : itc lfp 16 9 2 = true := by decide +kernel
theorem pop_10 : itc lfp 16 10 2 = true := by decide +kernel
theorem pop_11 : itc lfp 16 11 3 = true := by decide +kernel
theorem pop_12 : itc lfp 16 12 2 = true := by decide +kernel
theorem pop_13 : itc lfp 16 13 3 = true := by decide +kernel
theorem pop_14 : itc lfp 16 14 3 = true := by decide +kernel
theorem pop_15 : itc lfp 16 15 4 = true := by decide +kernel
theorem pop_h : ∀ h, h < 16 → itc lfp 16 h (fb_ct (fun i => h.testBit i) 4) = true
  | 0, _ => pop_0
  | 1, _ => pop_1
  | 2, _ => pop_2
  | 3, _ => pop_3
  | 4, _ => pop_4
  | 5, _ => pop_5
  | 6, _ => pop_6
  | 7, _ => pop_7
  | 8, _ => pop_8
  | 9, _ => pop_9
  | 10, _ => pop_10
  | 11, _ => pop_11
  | 12, _ => pop_12
  | 13, _ => pop_13
  | 14, _ => pop_14
  | 15, _ => pop_15
  | h + 16, q => absurd q (by omega)

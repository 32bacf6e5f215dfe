/-! ===== the two shares: no quotient is a NaN ===== -/
def okd (s m : Nat) : Bool := decide ((FP.ddiv (FP.i2d (nI s)) (FP.i2d (nI m))) &&& 0x7fffffffffffffff ≤ 0x7ff0000000000000)
def okf (s m : Nat) : Bool := decide ((FP.fdiv (FP.i2f (nI s)) (FP.i2f (nI m))) &&& 0x7fffffff ≤ 0x7f800000) && decide (FP.f2d (FP.fdiv (FP.i2f (nI s)) (FP.i2f (nI m))) &&& 0x7fffffffffffffff ≤ 0x7ff0000000000000)
theorem okd_1 : ∀ s, s < 100 → okd s 1 = true := by decide +kernel
theorem okd_2 : ∀ s, s < 199 → okd s 2 = true := by decide +kernel
theorem okd_3 : ∀ s, s < 298 → okd s 3 = true := by decide +kernel
theorem okd_4 : ∀ s, s < 397 → okd s 4 = true := by decide +kernel
theorem okd_5 : ∀ s, s < 496 → okd s 5 = true := by decide +kernel
theorem okd_6 : ∀ s, s < 595 → okd s 6 = true := by decide +kernel
theorem okd_7 : ∀ s, s < 694 → okd s 7 = true := by decide +kernel
theorem okd_8 : ∀ s, s < 793 → okd s 8 = true := by decide +kernel
theorem okd_9 : ∀ s, s < 892 → okd s 9 = true := by decide +kernel
theorem okd_10 : ∀ s, s < 991 → okd s 10 = true := by decide +kernel
theorem okd_11 : ∀ s, s < 1090 → okd s 11 = true := by decide +kernel
theorem okd_12 : ∀ s, s < 1189 → okd s 12 = true := by decide +kernel
theorem okd_13 : ∀ s, s < 1288 → okd s 13 = true := by decide +kernel
theorem okd_14 : ∀ s, s < 1387 → okd s 14 = true := by decide +kernel
theorem okd_15 : ∀ s, s < 1486 → okd s 15 = true := by decide +kernel
theorem okd_16 : ∀ s, s < 1585 → okd s 16 = true := by decide +kernel
theorem okd_17 : ∀ s, s < 1684 → okd s 17 = true := by decide +kernel
theorem okd_18 : ∀ s, s < 1783 → okd s 18 = true := by decide +kernel
theorem okd_19 : ∀ s, s < 1882 → okd s 19 = true := by decide +kernel
theorem okd_20 : ∀ s, s < 1981 → okd s 20 = true := by decide +kernel
theorem okd_m : ∀ m, m < 20 → ∀ s, s < 99 * (m + 1) + 1 → okd s (m + 1) = true
  | 0, _ => okd_1
  | 1, _ => okd_2
  | 2, _ => okd_3
  | 3, _ => okd_4
  | 4, _ => okd_5
  | 5, _ => okd_6
  | 6, _ => okd_7
  | 7, _ => okd_8
  | 8, _ => okd_9
  | 9, _ => okd_10
  | 10, _ => okd_11
  | 11, _ => okd_12
  | 12, _ => okd_13
  | 13, _ => okd_14
  | 14, _ => okd_15
  | 15, _ => okd_16
  | 16, _ => okd_17
  | 17, _ => okd_18
  | 18, _ => okd_19
  | 19, _ => okd_20
  | m + 20, h => absurd h (by omega)
theorem okf_m : ∀ m, m < 20 → ∀ s, s < m + 2 → okf s (m + 1) = true := by decide +kernel

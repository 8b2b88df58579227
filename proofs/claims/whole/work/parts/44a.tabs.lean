/-! small tables -/
theorem ar_dn {a b : Int} {N : Nat} (h : b = a - 1) (h0 : 0 < a) (hN : a.toNat < N + 1) : b.toNat < N := by omega
def w9 (n : Nat) : Int := 512 / 2 ^ n
theorem w9_tab : ∀ n : Fin 9, w9 n.val = 2 * w9 (n.val + 1) ∧ w9 (n.val + 1) ≤ 256 := by decide +kernel
theorem b256 : ∀ n : Fin 256, (Int32.ofNat n.val).toBitVec.toNat < 256 := by decide +kernel
theorem bit_tab : ∀ c : Fin 9, ∀ n : Fin (2 ^ c.val), (f_J6_bitCount_0f7a4 (Int32.ofNat n.val)).toInt ≤ (c.val : Int) := by decide +kernel
theorem shl_val : ∀ c : Fin 9, ((1 : Int32) <<< (Int32.ofNat c.val &&& 31)).toInt = ((2 ^ c.val : Nat) : Int) := by decide +kernel
theorem fit_tab : ∀ n : Fin 256, (f_J6_bitCount_0f7a4 (Int32.ofNat n.val * 2 + 0) = f_J6_bitCount_0f7a4 (Int32.ofNat n.val) + 0 ∧ f_J6_bitCount_0f7a4 (Int32.ofNat n.val * 2 + 1) = f_J6_bitCount_0f7a4 (Int32.ofNat n.val) + 1) ∧ f_J6_numberOfTrailingZeros_0f7a4 (Int32.ofNat n.val * 2 + 1) = 0 ∧ ((Int32.ofNat n.val * 2 + 0).toInt = 2 * (n.val : Int) ∧ (Int32.ofNat n.val * 2 + 1).toInt = 2 * (n.val : Int) + 1) ∧ (n.val ≠ 0 → f_J6_numberOfTrailingZeros_0f7a4 (Int32.ofNat n.val * 2 + 0) = f_J6_numberOfTrailingZeros_0f7a4 (Int32.ofNat n.val) + 1) := by decide +kernel
theorem under_tab : ∀ a b : Fin 6, f_X5_isUnder (Int32.ofNat a.val) (Int32.ofNat b.val) = f_X6_isUnder (Int32.ofNat a.val) (Int32.ofNat b.val) := by decide +kernel
theorem bin_eqT : ∀ n k : Fin 9, k ≤ n → (l_X5_odds_41 (Int32.ofNat n.val) (Int32.ofNat k.val) 300 1 1).1 = f_X6_product (Int32.ofNat n.val) / f_X6_product (Int32.ofNat k.val) / f_X6_product (Int32.ofNat n.val - Int32.ofNat k.val) := by decide +kernel

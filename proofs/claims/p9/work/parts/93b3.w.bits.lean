/-! bitCount, a quarter of its arguments -/
theorem zz_bc_8 : ∀ a, a < 8 → ∀ b, b < 128 → (zz_bcx (Int32.ofNat (128 * (64 + a) + b))).toInt = (zz_pcn (128 * (64 + a) + b) 14 : Int) := by decide +kernel
theorem zz_bc_9 : ∀ a, a < 8 → ∀ b, b < 128 → (zz_bcx (Int32.ofNat (128 * (72 + a) + b))).toInt = (zz_pcn (128 * (72 + a) + b) 14 : Int) := by decide +kernel
theorem zz_bc_10 : ∀ a, a < 8 → ∀ b, b < 128 → (zz_bcx (Int32.ofNat (128 * (80 + a) + b))).toInt = (zz_pcn (128 * (80 + a) + b) 14 : Int) := by decide +kernel
theorem zz_bc_11 : ∀ a, a < 8 → ∀ b, b < 128 → (zz_bcx (Int32.ofNat (128 * (88 + a) + b))).toInt = (zz_pcn (128 * (88 + a) + b) 14 : Int) := by decide +kernel

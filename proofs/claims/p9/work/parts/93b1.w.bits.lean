/-! bitCount, a quarter of its arguments -/
theorem zz_bc_0 : ∀ a, a < 8 → ∀ b, b < 128 → (zz_bcx (Int32.ofNat (128 * (0 + a) + b))).toInt = (zz_pcn (128 * (0 + a) + b) 14 : Int) := by decide +kernel
theorem zz_bc_1 : ∀ a, a < 8 → ∀ b, b < 128 → (zz_bcx (Int32.ofNat (128 * (8 + a) + b))).toInt = (zz_pcn (128 * (8 + a) + b) 14 : Int) := by decide +kernel
theorem zz_bc_2 : ∀ a, a < 8 → ∀ b, b < 128 → (zz_bcx (Int32.ofNat (128 * (16 + a) + b))).toInt = (zz_pcn (128 * (16 + a) + b) 14 : Int) := by decide +kernel
theorem zz_bc_3 : ∀ a, a < 8 → ∀ b, b < 128 → (zz_bcx (Int32.ofNat (128 * (24 + a) + b))).toInt = (zz_pcn (128 * (24 + a) + b) 14 : Int) := by decide +kernel

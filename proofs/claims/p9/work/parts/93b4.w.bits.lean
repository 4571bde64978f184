/-! bitCount, a quarter of its arguments -/
theorem zz_bc_12 : ∀ a, a < 8 → ∀ b, b < 128 → (zz_bcx (Int32.ofNat (128 * (96 + a) + b))).toInt = (zz_pcn (128 * (96 + a) + b) 14 : Int) := by decide +kernel
theorem zz_bc_13 : ∀ a, a < 8 → ∀ b, b < 128 → (zz_bcx (Int32.ofNat (128 * (104 + a) + b))).toInt = (zz_pcn (128 * (104 + a) + b) 14 : Int) := by decide +kernel
theorem zz_bc_14 : ∀ a, a < 8 → ∀ b, b < 128 → (zz_bcx (Int32.ofNat (128 * (112 + a) + b))).toInt = (zz_pcn (128 * (112 + a) + b) 14 : Int) := by decide +kernel
theorem zz_bc_15 : ∀ a, a < 8 → ∀ b, b < 128 → (zz_bcx (Int32.ofNat (128 * (120 + a) + b))).toInt = (zz_pcn (128 * (120 + a) + b) 14 : Int) := by decide +kernel

/-! bitCount, a quarter of its arguments -/
theorem zz_bc_4 : ∀ a, a < 8 → ∀ b, b < 128 → (zz_bcx (Int32.ofNat (128 * (32 + a) + b))).toInt = (zz_pcn (128 * (32 + a) + b) 14 : Int) := by decide +kernel
theorem zz_bc_5 : ∀ a, a < 8 → ∀ b, b < 128 → (zz_bcx (Int32.ofNat (128 * (40 + a) + b))).toInt = (zz_pcn (128 * (40 + a) + b) 14 : Int) := by decide +kernel
theorem zz_bc_6 : ∀ a, a < 8 → ∀ b, b < 128 → (zz_bcx (Int32.ofNat (128 * (48 + a) + b))).toInt = (zz_pcn (128 * (48 + a) + b) 14 : Int) := by decide +kernel
theorem zz_bc_7 : ∀ a, a < 8 → ∀ b, b < 128 → (zz_bcx (Int32.ofNat (128 * (56 + a) + b))).toInt = (zz_pcn (128 * (56 + a) + b) 14 : Int) := by decide +kernel

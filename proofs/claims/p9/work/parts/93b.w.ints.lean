def zz_bt (x : Int32) (w : Nat) : Bool := x.toBitVec.getLsbD w
theorem zz_sm (y : Int32) (h0 : 0 ≤ y.toInt) (h1 : y.toInt < 32) : ((y &&& 31).toBitVec.smod 32).toNat = y.toInt.toNat := by
  obtain ⟨h2, h3⟩ := zz_ofInt h0
  have e : y.toBitVec.toNat < 32 := by omega
  have e1 : (y &&& 31).toBitVec = y.toBitVec := by
    rw [Int32.toBitVec_and]
    apply BitVec.eq_of_toNat_eq
    rw [BitVec.toNat_and]
    show y.toBitVec.toNat &&& (2 ^ 5 - 1) = _
    rw [Nat.and_two_pow_sub_one_eq_mod]
    omega
  rw [e1, h3]
  have e2 : y.toBitVec.smod 32 = y.toBitVec := by
    apply BitVec.eq_of_toNat_eq
    rw [BitVec.smod_eq]
    have m1 : y.toBitVec.msb = false := by rw [BitVec.msb_eq_false_iff_two_mul_lt]; omega
    have m2 : (32#32).msb = false := by decide
    simp only [m1, m2]
    show (y.toBitVec.umod 32#32).toNat = _
    show y.toBitVec.toNat % 32 = _
    omega
  rw [e2]
  omega
theorem zz_bt_or (x y : Int32) (w : Nat) : zz_bt (x ||| y) w = (zz_bt x w || zz_bt y w) := by
  unfold zz_bt
  rw [Int32.toBitVec_or, BitVec.getLsbD_or]
theorem zz_bt_and (x y : Int32) (w : Nat) : zz_bt (x &&& y) w = (zz_bt x w && zz_bt y w) := by
  unfold zz_bt
  rw [Int32.toBitVec_and, BitVec.getLsbD_and]
theorem zz_bt_not (x : Int32) (w : Nat) (hw : w < 32) : zz_bt (x ^^^ ((-1 : Int32))) w = !zz_bt x w := by
  unfold zz_bt
  rw [Int32.toBitVec_xor, BitVec.getLsbD_xor, show ((-1 : Int32)).toBitVec = BitVec.allOnes 32 from by decide, BitVec.getLsbD_allOnes]
  simp [hw]
theorem zz_bt_shl (x y : Int32) (w : Nat) (h0 : 0 ≤ y.toInt) (h1 : y.toInt < 32) (hw : w < 32) : zz_bt (x <<< (y &&& 31)) w = (decide (y.toInt.toNat ≤ w) && zz_bt x (w - y.toInt.toNat)) := by
  unfold zz_bt
  rw [Int32.toBitVec_shiftLeft, BitVec.shiftLeft_eq', BitVec.getLsbD_shiftLeft, zz_sm y h0 h1]
  generalize y.toInt.toNat = m
  by_cases c : m ≤ w
  · simp [hw, c, Nat.not_lt.mpr c]
  · simp [c, Nat.lt_of_not_le c]
theorem zz_bt_shr (x y : Int32) (w : Nat) (h0 : 0 ≤ y.toInt) (h1 : y.toInt < 32) : zz_bt ((x.toUInt32 >>> (y.toUInt32 &&& Int32.toUInt32 31)).toInt32) w = zz_bt x (y.toInt.toNat + w) := by
  unfold zz_bt
  obtain ⟨h2, h3⟩ := zz_ofInt h0
  have e : ((x.toUInt32 >>> (y.toUInt32 &&& Int32.toUInt32 31)).toInt32).toBitVec = x.toBitVec >>> (y.toInt.toNat) := by
    apply BitVec.eq_of_toNat_eq
    show (x.toUInt32 >>> (y.toUInt32 &&& Int32.toUInt32 31)).toNat = _
    rw [UInt32.toNat_shiftRight, BitVec.toNat_ushiftRight]
    have e1 : (y.toUInt32 &&& Int32.toUInt32 31).toNat % 32 = y.toInt.toNat := by
      rw [UInt32.toNat_and]
      show (y.toBitVec.toNat &&& (2 ^ 5 - 1)) % 32 = _
      rw [Nat.and_two_pow_sub_one_eq_mod]
      omega
    rw [e1]
    rfl
  rw [e, BitVec.getLsbD_ushiftRight]
theorem zz_bt_one (y : Int32) (w : Nat) (h0 : 0 ≤ y.toInt) (h1 : y.toInt < 31) (hw : w < 32) : zz_bt (((1 : Int32)) <<< (y &&& 31)) w = decide ((w : Int) = y.toInt) := by
  rw [zz_bt_shl _ _ _ h0 (by omega) hw]
  unfold zz_bt
  rw [show ((1 : Int32)).toBitVec = 1#32 from rfl, BitVec.getLsbD_one]
  by_cases c : (w : Int) = y.toInt
  · have e1 : y.toInt.toNat ≤ w := by omega
    have e2 : w - y.toInt.toNat = 0 := by omega
    rw [e2]
    generalize y.toInt.toNat = m at e1 ⊢
    simp [c, e1]
  · by_cases d : y.toInt.toNat ≤ w
    · have e2 : ¬ (w - y.toInt.toNat = 0) := by omega
      generalize y.toInt.toNat = m at d e2 ⊢
      simp [c, d, e2]
    · generalize y.toInt.toNat = m at d ⊢
      simp [c, d]
theorem zz_bt_test (x y : Int32) (h0 : 0 ≤ y.toInt) (h1 : y.toInt < 32) : ((((x.toUInt32 >>> (y.toUInt32 &&& Int32.toUInt32 31)).toInt32) &&& ((1 : Int32))).toInt = 1 ↔ zz_bt x y.toInt.toNat = true) ∧ ((((x.toUInt32 >>> (y.toUInt32 &&& Int32.toUInt32 31)).toInt32) &&& ((1 : Int32))).toInt ≠ 1 ↔ zz_bt x y.toInt.toNat = false) := by
  have e := zz_bt_shr x y 0 h0 h1
  rw [Nat.add_zero] at e
  rw [← e]
  generalize (x.toUInt32 >>> (y.toUInt32 &&& Int32.toUInt32 31)).toInt32 = z
  have k : (z &&& ((1 : Int32))).toInt = 1 ↔ zz_bt z 0 = true := by
    have a1 : (z &&& ((1 : Int32))).toBitVec.toNat = z.toBitVec.toNat % 2 := by
      rw [Int32.toBitVec_and, BitVec.toNat_and]
      exact Nat.and_two_pow_sub_one_eq_mod _ 1
    have a2 := zz_toNat (x := z &&& ((1 : Int32))) (by omega)
    have a3 : zz_bt z 0 = decide (z.toBitVec.toNat % 2 = 1) := by
      show z.toBitVec.getLsbD 0 = _
      show z.toBitVec.toNat.testBit 0 = _
      rw [Nat.testBit_zero]
    rw [a3, decide_eq_true_iff]
    omega
  refine ⟨k, ?_⟩
  cases h : zz_bt z 0 <;> simp_all
def zz_bcx (p0 : Int32) : Int32 := (((((((p0 - (((p0.toUInt32 >>> (((1 : Int32)).toUInt32 &&& Int32.toUInt32 31)).toInt32) &&& ((1431655765 : Int32)))) &&& ((858993459 : Int32))) + ((((p0 - (((p0.toUInt32 >>> (((1 : Int32)).toUInt32 &&& Int32.toUInt32 31)).toInt32) &&& ((1431655765 : Int32)))).toUInt32 >>> (((2 : Int32)).toUInt32 &&& Int32.toUInt32 31)).toInt32) &&& ((858993459 : Int32)))) + (((((p0 - (((p0.toUInt32 >>> (((1 : Int32)).toUInt32 &&& Int32.toUInt32 31)).toInt32) &&& ((1431655765 : Int32)))) &&& ((858993459 : Int32))) + ((((p0 - (((p0.toUInt32 >>> (((1 : Int32)).toUInt32 &&& Int32.toUInt32 31)).toInt32) &&& ((1431655765 : Int32)))).toUInt32 >>> (((2 : Int32)).toUInt32 &&& Int32.toUInt32 31)).toInt32) &&& ((858993459 : Int32)))).toUInt32 >>> (((4 : Int32)).toUInt32 &&& Int32.toUInt32 31)).toInt32)) &&& ((252645135 : Int32))) + (((((((p0 - (((p0.toUInt32 >>> (((1 : Int32)).toUInt32 &&& Int32.toUInt32 31)).toInt32) &&& ((1431655765 : Int32)))) &&& ((858993459 : Int32))) + ((((p0 - (((p0.toUInt32 >>> (((1 : Int32)).toUInt32 &&& Int32.toUInt32 31)).toInt32) &&& ((1431655765 : Int32)))).toUInt32 >>> (((2 : Int32)).toUInt32 &&& Int32.toUInt32 31)).toInt32) &&& ((858993459 : Int32)))) + (((((p0 - (((p0.toUInt32 >>> (((1 : Int32)).toUInt32 &&& Int32.toUInt32 31)).toInt32) &&& ((1431655765 : Int32)))) &&& ((858993459 : Int32))) + ((((p0 - (((p0.toUInt32 >>> (((1 : Int32)).toUInt32 &&& Int32.toUInt32 31)).toInt32) &&& ((1431655765 : Int32)))).toUInt32 >>> (((2 : Int32)).toUInt32 &&& Int32.toUInt32 31)).toInt32) &&& ((858993459 : Int32)))).toUInt32 >>> (((4 : Int32)).toUInt32 &&& Int32.toUInt32 31)).toInt32)) &&& ((252645135 : Int32))).toUInt32 >>> (((8 : Int32)).toUInt32 &&& Int32.toUInt32 31)).toInt32)) + ((((((((p0 - (((p0.toUInt32 >>> (((1 : Int32)).toUInt32 &&& Int32.toUInt32 31)).toInt32) &&& ((1431655765 : Int32)))) &&& ((858993459 : Int32))) + ((((p0 - (((p0.toUInt32 >>> (((1 : Int32)).toUInt32 &&& Int32.toUInt32 31)).toInt32) &&& ((1431655765 : Int32)))).toUInt32 >>> (((2 : Int32)).toUInt32 &&& Int32.toUInt32 31)).toInt32) &&& ((858993459 : Int32)))) + (((((p0 - (((p0.toUInt32 >>> (((1 : Int32)).toUInt32 &&& Int32.toUInt32 31)).toInt32) &&& ((1431655765 : Int32)))) &&& ((858993459 : Int32))) + ((((p0 - (((p0.toUInt32 >>> (((1 : Int32)).toUInt32 &&& Int32.toUInt32 31)).toInt32) &&& ((1431655765 : Int32)))).toUInt32 >>> (((2 : Int32)).toUInt32 &&& Int32.toUInt32 31)).toInt32) &&& ((858993459 : Int32)))).toUInt32 >>> (((4 : Int32)).toUInt32 &&& Int32.toUInt32 31)).toInt32)) &&& ((252645135 : Int32))) + (((((((p0 - (((p0.toUInt32 >>> (((1 : Int32)).toUInt32 &&& Int32.toUInt32 31)).toInt32) &&& ((1431655765 : Int32)))) &&& ((858993459 : Int32))) + ((((p0 - (((p0.toUInt32 >>> (((1 : Int32)).toUInt32 &&& Int32.toUInt32 31)).toInt32) &&& ((1431655765 : Int32)))).toUInt32 >>> (((2 : Int32)).toUInt32 &&& Int32.toUInt32 31)).toInt32) &&& ((858993459 : Int32)))) + (((((p0 - (((p0.toUInt32 >>> (((1 : Int32)).toUInt32 &&& Int32.toUInt32 31)).toInt32) &&& ((1431655765 : Int32)))) &&& ((858993459 : Int32))) + ((((p0 - (((p0.toUInt32 >>> (((1 : Int32)).toUInt32 &&& Int32.toUInt32 31)).toInt32) &&& ((1431655765 : Int32)))).toUInt32 >>> (((2 : Int32)).toUInt32 &&& Int32.toUInt32 31)).toInt32) &&& ((858993459 : Int32)))).toUInt32 >>> (((4 : Int32)).toUInt32 &&& Int32.toUInt32 31)).toInt32)) &&& ((252645135 : Int32))).toUInt32 >>> (((8 : Int32)).toUInt32 &&& Int32.toUInt32 31)).toInt32)).toUInt32 >>> (((16 : Int32)).toUInt32 &&& Int32.toUInt32 31)).toInt32)) &&& ((63 : Int32))
def zz_pcn (n : Nat) : Nat → Nat
  | 0 => 0
  | k + 1 => zz_pcn n k + (if n.testBit k then 1 else 0)
